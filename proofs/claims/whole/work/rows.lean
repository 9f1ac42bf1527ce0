section
-- ===== PART A: goes FIRST, ahead of the names: the tables' words, and 'selects' of the private methods out of them =====
/-- a private method of a class that the tables say can be made, by its rows of tables_1 -/
def lw_okq (q : MethodName × Nat) : Prop := (q.1.cls ≠ "java/lang/invoke/MethodHandle" ∧ q.1.cls ≠ "java/lang/invoke/VarHandle") ∧ Cond.instantiable q.1.cls q.2 ∈ tables_1 ∧ Cond.privateMethod q.1 ∈ tables_1 ∧ Cond.instanceMethod q.1 ∈ tables_1
theorem lw_p0 : lw_okq (⟨"MuseumTill", "tillAt", "(I)LMuseumTill$Till;"⟩, 8) := ⟨⟨by decide +kernel, by decide +kernel⟩, List.mem_of_getElem? (i := 31) (by decide +kernel), List.mem_of_getElem? (i := 220) (by decide +kernel), List.mem_of_getElem? (i := 221) (by decide +kernel)⟩
theorem lw_p1 : lw_okq (⟨"java/lang/Throwable", "fillInStackTrace", "(I)Ljava/lang/Throwable;"⟩, 6) := ⟨⟨by decide +kernel, by decide +kernel⟩, List.mem_of_getElem? (i := 262) (by decide +kernel), List.mem_of_getElem? (i := 260) (by decide +kernel), List.mem_of_getElem? (i := 261) (by decide +kernel)⟩
theorem lw_p2 : lw_okq (⟨"MuseumTill", "checkTicketsLeft", "()V"⟩, 8) := ⟨⟨by decide +kernel, by decide +kernel⟩, List.mem_of_getElem? (i := 31) (by decide +kernel), List.mem_of_getElem? (i := 319) (by decide +kernel), List.mem_of_getElem? (i := 320) (by decide +kernel)⟩
theorem lw_p3 : lw_okq (⟨"MuseumTill", "issue", "(IIII)I"⟩, 8) := ⟨⟨by decide +kernel, by decide +kernel⟩, List.mem_of_getElem? (i := 31) (by decide +kernel), List.mem_of_getElem? (i := 339) (by decide +kernel), List.mem_of_getElem? (i := 340) (by decide +kernel)⟩
theorem lw_p4 : lw_okq (⟨"java/util/ArrayList", "add", "(Ljava/lang/Object;[Ljava/lang/Object;I)V"⟩, 3) := ⟨⟨by decide +kernel, by decide +kernel⟩, List.mem_of_getElem? (i := 45) (by decide +kernel), List.mem_of_getElem? (i := 389) (by decide +kernel), List.mem_of_getElem? (i := 390) (by decide +kernel)⟩
theorem lw_p5 : lw_okq (⟨"java/util/ArrayList", "grow", "()[Ljava/lang/Object;"⟩, 3) := ⟨⟨by decide +kernel, by decide +kernel⟩, List.mem_of_getElem? (i := 45) (by decide +kernel), List.mem_of_getElem? (i := 393) (by decide +kernel), List.mem_of_getElem? (i := 394) (by decide +kernel)⟩
theorem lw_p6 : lw_okq (⟨"java/util/ArrayList", "grow", "(I)[Ljava/lang/Object;"⟩, 3) := ⟨⟨by decide +kernel, by decide +kernel⟩, List.mem_of_getElem? (i := 45) (by decide +kernel), List.mem_of_getElem? (i := 397) (by decide +kernel), List.mem_of_getElem? (i := 398) (by decide +kernel)⟩
theorem lw_p7 : lw_okq (⟨"MuseumTill", "memberAt", "(I)LMuseumTill$Member;"⟩, 8) := ⟨⟨by decide +kernel, by decide +kernel⟩, List.mem_of_getElem? (i := 31) (by decide +kernel), List.mem_of_getElem? (i := 452) (by decide +kernel), List.mem_of_getElem? (i := 453) (by decide +kernel)⟩
theorem lw_p8 : lw_okq (⟨"MuseumTill", "countOfToday", "(II)I"⟩, 8) := ⟨⟨by decide +kernel, by decide +kernel⟩, List.mem_of_getElem? (i := 31) (by decide +kernel), List.mem_of_getElem? (i := 459) (by decide +kernel), List.mem_of_getElem? (i := 460) (by decide +kernel)⟩
theorem lw_p9 : lw_okq (⟨"MuseumTill", "ticketAt", "(I)LMuseumTill$Ticket;"⟩, 8) := ⟨⟨by decide +kernel, by decide +kernel⟩, List.mem_of_getElem? (i := 31) (by decide +kernel), List.mem_of_getElem? (i := 476) (by decide +kernel), List.mem_of_getElem? (i := 477) (by decide +kernel)⟩
theorem lw_p10 : lw_okq (⟨"MuseumTill", "checkUsable", "(LMuseumTill$Ticket;)V"⟩, 8) := ⟨⟨by decide +kernel, by decide +kernel⟩, List.mem_of_getElem? (i := 31) (by decide +kernel), List.mem_of_getElem? (i := 481) (by decide +kernel), List.mem_of_getElem? (i := 482) (by decide +kernel)⟩
theorem lw_p11 : lw_okq (⟨"MuseumTill", "areClosedFor", "(LMuseumTill$Ticket;)Z"⟩, 8) := ⟨⟨by decide +kernel, by decide +kernel⟩, List.mem_of_getElem? (i := 31) (by decide +kernel), List.mem_of_getElem? (i := 486) (by decide +kernel), List.mem_of_getElem? (i := 487) (by decide +kernel)⟩
theorem lw_p12 : lw_okq (⟨"MuseumTill", "roomAt", "(I)LMuseumTill$Room;"⟩, 8) := ⟨⟨by decide +kernel, by decide +kernel⟩, List.mem_of_getElem? (i := 31) (by decide +kernel), List.mem_of_getElem? (i := 510) (by decide +kernel), List.mem_of_getElem? (i := 511) (by decide +kernel)⟩
theorem lw_p13 : lw_okq (⟨"MuseumTill", "letQueueIn", "(LMuseumTill$Room;)V"⟩, 8) := ⟨⟨by decide +kernel, by decide +kernel⟩, List.mem_of_getElem? (i := 31) (by decide +kernel), List.mem_of_getElem? (i := 515) (by decide +kernel), List.mem_of_getElem? (i := 516) (by decide +kernel)⟩
theorem lw_p14 : lw_okq (⟨"java/util/ArrayList", "fastRemove", "([Ljava/lang/Object;I)V"⟩, 3) := ⟨⟨by decide +kernel, by decide +kernel⟩, List.mem_of_getElem? (i := 45) (by decide +kernel), List.mem_of_getElem? (i := 527) (by decide +kernel), List.mem_of_getElem? (i := 528) (by decide +kernel)⟩
theorem lw_p15 : lw_okq (⟨"MuseumTill", "showRoom", "(LMuseumTill$Ticket;LMuseumTill$Room;)V"⟩, 8) := ⟨⟨by decide +kernel, by decide +kernel⟩, List.mem_of_getElem? (i := 31) (by decide +kernel), List.mem_of_getElem? (i := 532) (by decide +kernel), List.mem_of_getElem? (i := 533) (by decide +kernel)⟩
def lw_privs_1 : List (MethodName × Nat) := [(⟨"MuseumTill", "tillAt", "(I)LMuseumTill$Till;"⟩, 8), (⟨"java/lang/Throwable", "fillInStackTrace", "(I)Ljava/lang/Throwable;"⟩, 6), (⟨"MuseumTill", "checkTicketsLeft", "()V"⟩, 8), (⟨"MuseumTill", "issue", "(IIII)I"⟩, 8), (⟨"java/util/ArrayList", "add", "(Ljava/lang/Object;[Ljava/lang/Object;I)V"⟩, 3), (⟨"java/util/ArrayList", "grow", "()[Ljava/lang/Object;"⟩, 3), (⟨"java/util/ArrayList", "grow", "(I)[Ljava/lang/Object;"⟩, 3), (⟨"MuseumTill", "memberAt", "(I)LMuseumTill$Member;"⟩, 8), (⟨"MuseumTill", "countOfToday", "(II)I"⟩, 8), (⟨"MuseumTill", "ticketAt", "(I)LMuseumTill$Ticket;"⟩, 8), (⟨"MuseumTill", "checkUsable", "(LMuseumTill$Ticket;)V"⟩, 8), (⟨"MuseumTill", "areClosedFor", "(LMuseumTill$Ticket;)Z"⟩, 8), (⟨"MuseumTill", "roomAt", "(I)LMuseumTill$Room;"⟩, 8), (⟨"MuseumTill", "letQueueIn", "(LMuseumTill$Room;)V"⟩, 8), (⟨"java/util/ArrayList", "fastRemove", "([Ljava/lang/Object;I)V"⟩, 3), (⟨"MuseumTill", "showRoom", "(LMuseumTill$Ticket;LMuseumTill$Room;)V"⟩, 8)]
theorem lw_r1 : ∀ q ∈ lw_privs_1, lw_okq q := List.forall_mem_cons.mpr ⟨lw_p0, List.forall_mem_cons.mpr ⟨lw_p1, List.forall_mem_cons.mpr ⟨lw_p2, List.forall_mem_cons.mpr ⟨lw_p3, List.forall_mem_cons.mpr ⟨lw_p4, List.forall_mem_cons.mpr ⟨lw_p5, List.forall_mem_cons.mpr ⟨lw_p6, List.forall_mem_cons.mpr ⟨lw_p7, List.forall_mem_cons.mpr ⟨lw_p8, List.forall_mem_cons.mpr ⟨lw_p9, List.forall_mem_cons.mpr ⟨lw_p10, List.forall_mem_cons.mpr ⟨lw_p11, List.forall_mem_cons.mpr ⟨lw_p12, List.forall_mem_cons.mpr ⟨lw_p13, List.forall_mem_cons.mpr ⟨lw_p14, List.forall_mem_cons.mpr ⟨lw_p15, fun _ h => absurd h List.not_mem_nil⟩⟩⟩⟩⟩⟩⟩⟩⟩⟩⟩⟩⟩⟩⟩⟩
theorem lw_p16 : lw_okq (⟨"MuseumTill", "payFee", "(LMuseumTill$Work;LMuseumTill$Room;)V"⟩, 8) := ⟨⟨by decide +kernel, by decide +kernel⟩, List.mem_of_getElem? (i := 31) (by decide +kernel), List.mem_of_getElem? (i := 537) (by decide +kernel), List.mem_of_getElem? (i := 538) (by decide +kernel)⟩
theorem lw_p17 : lw_okq (⟨"MuseumTill", "sendAllOut", "(LMuseumTill$Room;)I"⟩, 8) := ⟨⟨by decide +kernel, by decide +kernel⟩, List.mem_of_getElem? (i := 31) (by decide +kernel), List.mem_of_getElem? (i := 552) (by decide +kernel), List.mem_of_getElem? (i := 553) (by decide +kernel)⟩
theorem lw_p18 : lw_okq (⟨"MuseumTill$Room", "waitingMembers", "()I"⟩, 6) := ⟨⟨by decide +kernel, by decide +kernel⟩, List.mem_of_getElem? (i := 96) (by decide +kernel), List.mem_of_getElem? (i := 576) (by decide +kernel), List.mem_of_getElem? (i := 577) (by decide +kernel)⟩
theorem lw_p19 : lw_okq (⟨"java/util/ArrayList", "rangeCheckForAdd", "(I)V"⟩, 3) := ⟨⟨by decide +kernel, by decide +kernel⟩, List.mem_of_getElem? (i := 45) (by decide +kernel), List.mem_of_getElem? (i := 587) (by decide +kernel), List.mem_of_getElem? (i := 588) (by decide +kernel)⟩
theorem lw_p20 : lw_okq (⟨"java/util/ArrayList", "outOfBoundsMsg", "(I)Ljava/lang/String;"⟩, 3) := ⟨⟨by decide +kernel, by decide +kernel⟩, List.mem_of_getElem? (i := 45) (by decide +kernel), List.mem_of_getElem? (i := 592) (by decide +kernel), List.mem_of_getElem? (i := 593) (by decide +kernel)⟩
theorem lw_p21 : lw_okq (⟨"MuseumTill", "workAt", "(I)LMuseumTill$Work;"⟩, 8) := ⟨⟨by decide +kernel, by decide +kernel⟩, List.mem_of_getElem? (i := 31) (by decide +kernel), List.mem_of_getElem? (i := 891) (by decide +kernel), List.mem_of_getElem? (i := 892) (by decide +kernel)⟩
theorem lw_p22 : lw_okq (⟨"MuseumTill", "endDay", "()V"⟩, 8) := ⟨⟨by decide +kernel, by decide +kernel⟩, List.mem_of_getElem? (i := 31) (by decide +kernel), List.mem_of_getElem? (i := 954) (by decide +kernel), List.mem_of_getElem? (i := 955) (by decide +kernel)⟩
theorem lw_p23 : lw_okq (⟨"MuseumTill", "shareOut", "(II)V"⟩, 8) := ⟨⟨by decide +kernel, by decide +kernel⟩, List.mem_of_getElem? (i := 31) (by decide +kernel), List.mem_of_getElem? (i := 958) (by decide +kernel), List.mem_of_getElem? (i := 959) (by decide +kernel)⟩
theorem lw_p24 : lw_okq (⟨"MuseumTill", "seenToday", "(I)I"⟩, 8) := ⟨⟨by decide +kernel, by decide +kernel⟩, List.mem_of_getElem? (i := 31) (by decide +kernel), List.mem_of_getElem? (i := 971) (by decide +kernel), List.mem_of_getElem? (i := 972) (by decide +kernel)⟩
theorem lw_p25 : lw_okq (⟨"MuseumTill", "broughtByTickets", "(I)I"⟩, 8) := ⟨⟨by decide +kernel, by decide +kernel⟩, List.mem_of_getElem? (i := 31) (by decide +kernel), List.mem_of_getElem? (i := 1069) (by decide +kernel), List.mem_of_getElem? (i := 1070) (by decide +kernel)⟩
theorem lw_p26 : lw_okq (⟨"MuseumTill", "broughtByMemberships", "(I)I"⟩, 8) := ⟨⟨by decide +kernel, by decide +kernel⟩, List.mem_of_getElem? (i := 31) (by decide +kernel), List.mem_of_getElem? (i := 1073) (by decide +kernel), List.mem_of_getElem? (i := 1074) (by decide +kernel)⟩
theorem lw_p27 : lw_okq (⟨"MuseumTillModel", "make", "(IIII)I"⟩, 30) := ⟨⟨by decide +kernel, by decide +kernel⟩, List.mem_of_getElem? (i := 1082) (by decide +kernel), List.mem_of_getElem? (i := 1199) (by decide +kernel), List.mem_of_getElem? (i := 1200) (by decide +kernel)⟩
theorem lw_p28 : lw_okq (⟨"MuseumTillModel", "has", "(II)I"⟩, 30) := ⟨⟨by decide +kernel, by decide +kernel⟩, List.mem_of_getElem? (i := 1082) (by decide +kernel), List.mem_of_getElem? (i := 1210) (by decide +kernel), List.mem_of_getElem? (i := 1211) (by decide +kernel)⟩
theorem lw_p29 : lw_okq (⟨"MuseumTillModel", "isNow", "(I)Z"⟩, 30) := ⟨⟨by decide +kernel, by decide +kernel⟩, List.mem_of_getElem? (i := 1082) (by decide +kernel), List.mem_of_getElem? (i := 1214) (by decide +kernel), List.mem_of_getElem? (i := 1215) (by decide +kernel)⟩
theorem lw_p30 : lw_okq (⟨"MuseumTillModel", "isValid", "(I)Z"⟩, 30) := ⟨⟨by decide +kernel, by decide +kernel⟩, List.mem_of_getElem? (i := 1082) (by decide +kernel), List.mem_of_getElem? (i := 1218) (by decide +kernel), List.mem_of_getElem? (i := 1219) (by decide +kernel)⟩
theorem lw_p31 : lw_okq (⟨"MuseumTillModel", "isTicket", "(I)Z"⟩, 30) := ⟨⟨by decide +kernel, by decide +kernel⟩, List.mem_of_getElem? (i := 1082) (by decide +kernel), List.mem_of_getElem? (i := 1226) (by decide +kernel), List.mem_of_getElem? (i := 1227) (by decide +kernel)⟩
def lw_privs_2 : List (MethodName × Nat) := [(⟨"MuseumTill", "payFee", "(LMuseumTill$Work;LMuseumTill$Room;)V"⟩, 8), (⟨"MuseumTill", "sendAllOut", "(LMuseumTill$Room;)I"⟩, 8), (⟨"MuseumTill$Room", "waitingMembers", "()I"⟩, 6), (⟨"java/util/ArrayList", "rangeCheckForAdd", "(I)V"⟩, 3), (⟨"java/util/ArrayList", "outOfBoundsMsg", "(I)Ljava/lang/String;"⟩, 3), (⟨"MuseumTill", "workAt", "(I)LMuseumTill$Work;"⟩, 8), (⟨"MuseumTill", "endDay", "()V"⟩, 8), (⟨"MuseumTill", "shareOut", "(II)V"⟩, 8), (⟨"MuseumTill", "seenToday", "(I)I"⟩, 8), (⟨"MuseumTill", "broughtByTickets", "(I)I"⟩, 8), (⟨"MuseumTill", "broughtByMemberships", "(I)I"⟩, 8), (⟨"MuseumTillModel", "make", "(IIII)I"⟩, 30), (⟨"MuseumTillModel", "has", "(II)I"⟩, 30), (⟨"MuseumTillModel", "isNow", "(I)Z"⟩, 30), (⟨"MuseumTillModel", "isValid", "(I)Z"⟩, 30), (⟨"MuseumTillModel", "isTicket", "(I)Z"⟩, 30)]
theorem lw_r2 : ∀ q ∈ lw_privs_2, lw_okq q := List.forall_mem_cons.mpr ⟨lw_p16, List.forall_mem_cons.mpr ⟨lw_p17, List.forall_mem_cons.mpr ⟨lw_p18, List.forall_mem_cons.mpr ⟨lw_p19, List.forall_mem_cons.mpr ⟨lw_p20, List.forall_mem_cons.mpr ⟨lw_p21, List.forall_mem_cons.mpr ⟨lw_p22, List.forall_mem_cons.mpr ⟨lw_p23, List.forall_mem_cons.mpr ⟨lw_p24, List.forall_mem_cons.mpr ⟨lw_p25, List.forall_mem_cons.mpr ⟨lw_p26, List.forall_mem_cons.mpr ⟨lw_p27, List.forall_mem_cons.mpr ⟨lw_p28, List.forall_mem_cons.mpr ⟨lw_p29, List.forall_mem_cons.mpr ⟨lw_p30, List.forall_mem_cons.mpr ⟨lw_p31, fun _ h => absurd h List.not_mem_nil⟩⟩⟩⟩⟩⟩⟩⟩⟩⟩⟩⟩⟩⟩⟩⟩
theorem lw_p32 : lw_okq (⟨"MuseumTillModel", "isFor", "(II)Z"⟩, 30) := ⟨⟨by decide +kernel, by decide +kernel⟩, List.mem_of_getElem? (i := 1082) (by decide +kernel), List.mem_of_getElem? (i := 1230) (by decide +kernel), List.mem_of_getElem? (i := 1231) (by decide +kernel)⟩
theorem lw_p33 : lw_okq (⟨"MuseumTillModel", "letIn", "(I)V"⟩, 30) := ⟨⟨by decide +kernel, by decide +kernel⟩, List.mem_of_getElem? (i := 1082) (by decide +kernel), List.mem_of_getElem? (i := 1245) (by decide +kernel), List.mem_of_getElem? (i := 1246) (by decide +kernel)⟩
theorem lw_p34 : lw_okq (⟨"MuseumTillModel", "inQueue", "(II)I"⟩, 30) := ⟨⟨by decide +kernel, by decide +kernel⟩, List.mem_of_getElem? (i := 1082) (by decide +kernel), List.mem_of_getElem? (i := 1249) (by decide +kernel), List.mem_of_getElem? (i := 1250) (by decide +kernel)⟩
theorem lw_p35 : lw_okq (⟨"MuseumTillModel", "isAhead", "(II)Z"⟩, 30) := ⟨⟨by decide +kernel, by decide +kernel⟩, List.mem_of_getElem? (i := 1082) (by decide +kernel), List.mem_of_getElem? (i := 1253) (by decide +kernel), List.mem_of_getElem? (i := 1254) (by decide +kernel)⟩
theorem lw_p36 : lw_okq (⟨"MuseumTillModel", "insideOf", "(I)I"⟩, 30) := ⟨⟨by decide +kernel, by decide +kernel⟩, List.mem_of_getElem? (i := 1082) (by decide +kernel), List.mem_of_getElem? (i := 1257) (by decide +kernel), List.mem_of_getElem? (i := 1258) (by decide +kernel)⟩
theorem lw_p37 : lw_okq (⟨"MuseumTillModel", "see", "(II)V"⟩, 30) := ⟨⟨by decide +kernel, by decide +kernel⟩, List.mem_of_getElem? (i := 1082) (by decide +kernel), List.mem_of_getElem? (i := 1261) (by decide +kernel), List.mem_of_getElem? (i := 1262) (by decide +kernel)⟩
theorem lw_p38 : lw_okq (⟨"MuseumTillModel", "clear", "(I)I"⟩, 30) := ⟨⟨by decide +kernel, by decide +kernel⟩, List.mem_of_getElem? (i := 1082) (by decide +kernel), List.mem_of_getElem? (i := 1269) (by decide +kernel), List.mem_of_getElem? (i := 1270) (by decide +kernel)⟩
theorem lw_p39 : lw_okq (⟨"MuseumTillModel", "areOne", "(II)Z"⟩, 30) := ⟨⟨by decide +kernel, by decide +kernel⟩, List.mem_of_getElem? (i := 1082) (by decide +kernel), List.mem_of_getElem? (i := 1289) (by decide +kernel), List.mem_of_getElem? (i := 1290) (by decide +kernel)⟩
theorem lw_p40 : lw_okq (⟨"MuseumTillModel", "isWork", "(I)Z"⟩, 30) := ⟨⟨by decide +kernel, by decide +kernel⟩, List.mem_of_getElem? (i := 1082) (by decide +kernel), List.mem_of_getElem? (i := 1293) (by decide +kernel), List.mem_of_getElem? (i := 1294) (by decide +kernel)⟩
theorem lw_p41 : lw_okq (⟨"MuseumTillModel", "endDay", "()V"⟩, 30) := ⟨⟨by decide +kernel, by decide +kernel⟩, List.mem_of_getElem? (i := 1082) (by decide +kernel), List.mem_of_getElem? (i := 1322) (by decide +kernel), List.mem_of_getElem? (i := 1323) (by decide +kernel)⟩
theorem lw_p42 : lw_okq (⟨"MuseumTillModel", "share", "(II)V"⟩, 30) := ⟨⟨by decide +kernel, by decide +kernel⟩, List.mem_of_getElem? (i := 1082) (by decide +kernel), List.mem_of_getElem? (i := 1326) (by decide +kernel), List.mem_of_getElem? (i := 1327) (by decide +kernel)⟩
theorem lw_p43 : lw_okq (⟨"MuseumTillModel", "put", "(I)V"⟩, 30) := ⟨⟨by decide +kernel, by decide +kernel⟩, List.mem_of_getElem? (i := 1082) (by decide +kernel), List.mem_of_getElem? (i := 1365) (by decide +kernel), List.mem_of_getElem? (i := 1366) (by decide +kernel)⟩
theorem lw_p44 : lw_okq (⟨"MuseumTillModel", "putNumber", "(I)V"⟩, 30) := ⟨⟨by decide +kernel, by decide +kernel⟩, List.mem_of_getElem? (i := 1082) (by decide +kernel), List.mem_of_getElem? (i := 1369) (by decide +kernel), List.mem_of_getElem? (i := 1370) (by decide +kernel)⟩
def lw_privs_3 : List (MethodName × Nat) := [(⟨"MuseumTillModel", "isFor", "(II)Z"⟩, 30), (⟨"MuseumTillModel", "letIn", "(I)V"⟩, 30), (⟨"MuseumTillModel", "inQueue", "(II)I"⟩, 30), (⟨"MuseumTillModel", "isAhead", "(II)Z"⟩, 30), (⟨"MuseumTillModel", "insideOf", "(I)I"⟩, 30), (⟨"MuseumTillModel", "see", "(II)V"⟩, 30), (⟨"MuseumTillModel", "clear", "(I)I"⟩, 30), (⟨"MuseumTillModel", "areOne", "(II)Z"⟩, 30), (⟨"MuseumTillModel", "isWork", "(I)Z"⟩, 30), (⟨"MuseumTillModel", "endDay", "()V"⟩, 30), (⟨"MuseumTillModel", "share", "(II)V"⟩, 30), (⟨"MuseumTillModel", "put", "(I)V"⟩, 30), (⟨"MuseumTillModel", "putNumber", "(I)V"⟩, 30)]
theorem lw_r3 : ∀ q ∈ lw_privs_3, lw_okq q := List.forall_mem_cons.mpr ⟨lw_p32, List.forall_mem_cons.mpr ⟨lw_p33, List.forall_mem_cons.mpr ⟨lw_p34, List.forall_mem_cons.mpr ⟨lw_p35, List.forall_mem_cons.mpr ⟨lw_p36, List.forall_mem_cons.mpr ⟨lw_p37, List.forall_mem_cons.mpr ⟨lw_p38, List.forall_mem_cons.mpr ⟨lw_p39, List.forall_mem_cons.mpr ⟨lw_p40, List.forall_mem_cons.mpr ⟨lw_p41, List.forall_mem_cons.mpr ⟨lw_p42, List.forall_mem_cons.mpr ⟨lw_p43, List.forall_mem_cons.mpr ⟨lw_p44, fun _ h => absurd h List.not_mem_nil⟩⟩⟩⟩⟩⟩⟩⟩⟩⟩⟩⟩⟩
def lw_privs : List (MethodName × Nat) := lw_privs_1 ++ (lw_privs_2 ++ (lw_privs_3))
def lw_tbl : List Cond := k2_sels lw_privs ++ tables_1
theorem lw_privs_ok : ∀ q ∈ lw_privs, lw_okq q := by
  show ∀ q ∈ lw_privs_1 ++ (lw_privs_2 ++ (lw_privs_3)), lw_okq q
  exact List.forall_mem_append.mpr ⟨lw_r1, List.forall_mem_append.mpr ⟨lw_r2, lw_r3⟩⟩
end
section
/-! ===== BEGIN words of one list among another's, by their places ===== -/
theorem goodIn_r {big : List Cond} (ws : List Cond) (ps : List Nat) (hp : ws = ps.filterMap (fun i => big[i]?)) (h : ws.all goodWord = true) : GoodIn big ws := by
  intro w hw
  have h1 := List.all_eq_true.mp h w hw
  rw [hp] at hw
  obtain ⟨i, -, hi⟩ := List.mem_filterMap.mp hw
  have hm : w ∈ big := by first | exact List.mem_of_getElem? hi | exact List.getElem?_mem hi
  exact ⟨hm, good_of_word h1⟩
theorem goodIn_app {big a b : List Cond} (ha : GoodIn big a) (hb : GoodIn big b) : GoodIn big (a ++ b) := fun w h => (List.mem_append.mp h).elim (ha w) (hb w)
theorem goodIn_ca {big a b : List Cond} {c : Cond} (ha : GoodIn big (c :: a)) (hb : GoodIn big b) : GoodIn big (c :: (a ++ b)) := fun w h => (List.mem_cons.mp h).elim (fun e => ha w (List.mem_cons.mpr (Or.inl e))) (fun h => (List.mem_append.mp h).elim (fun h => ha w (List.mem_cons.mpr (Or.inr h))) (hb w))
theorem goodIn_sub {big ws : List Cond} (hm : ∀ w ∈ ws, w ∈ big) (h : ws.all goodWord = true) : GoodIn big ws := fun w hw => ⟨hm w hw, good_of_word (List.all_eq_true.mp h w hw)⟩
/-! ===== END ===== -/

/-! ===== BEGIN exceptions that leave a method, and their catching by the caller (launches without stack traces) ===== -/
section VXA
/-! The laws vx_back, vx_callV, vx_callS, vx_callSW, vx_throw0, vx_throwS follow proofs of the library, with one case more: JvmDerived/Free/Laws.lean (Back.of_free), Shelf42/LK1.lean (callV, callS), Shelf/KitTraced.lean (throwNew0V, throwNewS). -/
/-- where a method has thrown q: the class by its name, the cell, what was written, the world -/
def vx_T (XC : String → State → State → Prop) (st : State) (q : Addr) (t : State) (mc ms : Nat) (free : Addr → Prop) : Prop :=
  ∃ (E : String) (ce : Cell) (L : List Loc), XC E st t ∧ t.heap[q]? = some ce ∧ ce.vm = .none ∧ st.vm.findClass E = some ce.cls ∧ st.WarmedH t.vm ∧ st.sameButNew ({ t with vm := st.vm } : State) L mc ms ∧ ∀ z ∈ L, free z.base
def vx_Q (Qc : Array Value → State → Outcome → State → Prop) (XC : String → State → State → Prop) (mc ms : Nat) (free : Addr → Prop) : Array Value → State → Outcome → State → Prop := fun a st o t =>
  (Qc a st o t ∧ ∃ L, FrameEnd st o t L mc ms ∧ ∀ q ∈ L, free q.base) ∨ ∃ q, o = .threw q ∧ vx_T XC st q t mc ms free
/-- a callee that returns or throws -/
def vx_Met (l : Launch) (y : MethodName) (ws : List Cond) (rm : Room) (Pc : Array Value → State → Prop) (Qc : Array Value → State → Outcome → State → Prop) (XC : String → State → State → Prop) (mc ms : Nat) (free : Addr → Prop) : Prop :=
  MetFree l y (headSpec ws rm) Pc (fun _ _ _ _ _ => True) (vx_Q Qc XC mc ms free)
def vx_Post (XC : String → State → State → Prop) (mc ms : Nat) (free : Addr → Prop) : Pt → Array Value → Addr → Pt → Prop := fun A a q B =>
  ∃ (g : JFrame) (mk : MethodId) (t : State) (L : List Loc) (E : String) (ce : Cell), B.U.heap = t.heap ∧ B.U.vm = t.vm ∧ XC E (A.U.calling g mk a) t ∧ t.heap[q]? = some ce ∧ ce.vm = .none ∧ A.U.vm.findClass E = some ce.cls ∧ B.locs = A.locs ++ L ∧ (∀ z ∈ L, free z.base) ∧ B.cells = A.cells + mc ∧ B.slots = A.slots + ms
def vx_Back (l : Launch) (R : Room) (p : Program) (e : Env) (below : List Frame) (s : State) (sargs : Array Value) (y : MethodName) (len W9 : Nat)
    (Pre : Pt → Array Value → Prop) (Post : Pt → Array Value → Option Value → Pt → Prop) (PostX : Pt → Array Value → Addr → Pt → Prop) : Prop :=
  ∀ (m : MethodId) (meth : Method) (c : Code) (A : Pt) (g : JFrame) (ig : Instr) (mk : MethodId) (a : Array Value),
    Stand p l e R s m sargs below meth c A.U A.locs A.cells A.slots → g.method = m → g.locals.size = c.maxLocals → decode c.code g.pc = .ok (ig, len) →
    2 * g.monitorRoom + (g.stack.map fun v => v.category).sum ≤ W9 → A.U.methodNamed? y = some mk → Pre A a →
    (∃ (v : Option Value) (B : Pt), Stand p l e R s m sargs below meth c B.U B.locs B.cells B.slots ∧ Post A a v B ∧
      Steps p.tables e below (doInvoke e (A.U.setTop g) [] mk a).1 (B.U.setTop { g with pc := g.pc + len, stack := v.toList ++ g.stack })) ∨
    (∃ (q : Addr) (B : Pt), Stand p l e R s m sargs below meth c B.U B.locs B.cells B.slots ∧ PostX A a q B ∧
      Steps p.tables e below (doInvoke e (A.U.setTop g) [] mk a).1 ((B.U.setTop g).pushFrame (.throwing q)))
section Payer
variable {l : Launch} {R : Room} {p : Program} {e : Env} {below : List Frame} {s : State} {sargs : Array Value} {y : MethodName} {len W9 : Nat}
theorem vx_back {ws : List Cond} {rm : Room} {Pc : Array Value → State → Prop} {Qc : Array Value → State → Outcome → State → Prop} {XC : String → State → State → Prop} {mc ms : Nat} {free : Addr → Prop} {bytes : ByteArray} {maxL : Nat} {ret : Option FieldType}
    (hM : vx_Met l y ws rm Pc Qc XC mc ms free) (hblind : FrameBlind Pc) (hrc : rm.cells = mc) (hrs : rm.slots = ms)
    (hframes : rm.frames + 1 ≤ R.frames) (hlocals : W9 + (maxL + 11) + rm.locals ≤ R.locals)
    (hws : ∀ w ∈ ws, ∀ a' U, s.WarmedH U.vm → w.before a' U = true) (hcode : Cond.code y bytes maxL ret ∈ ws) (hinit : ∀ a' U, s.WarmedH U.vm → (Cond.initialized y.cls).before a' U = true) :
    vx_Back l R p e below s sargs y len W9 (PreOf R mc ms Pc) (PostOf Qc mc ms free) (vx_Post XC mc ms free) := by
  intro m meth c A g ig mk a X hg hsize hdg hW hn hp
  have h1 : (headSpec ws rm).pre.before a A.U = true := atoms_intro fun w hw => hws w hw _ _ X.warmed
  have h2 : (Cond.code y bytes maxL ret).before a A.U = true := hws _ hcode _ _ X.warmed
  have h3 : (Cond.initialized y.cls).before a A.U = true := hinit _ _ X.warmed
  have h4 : A.cells + (headSpec ws rm).room.cells ≤ R.cells := by rw [show (headSpec ws rm).room.cells = mc from hrc]; exact hp.1
  have h5 : A.slots + (headSpec ws rm).room.slots ≤ R.slots := by rw [show (headSpec ws rm).room.slots = ms from hrs]; exact hp.2.1
  have hPc : Pc a (A.U.calling g mk a) := hblind _ _ _ _ hp.2.2
  obtain ⟨U, Ls, c0, s0⟩ := A
  dsimp only [Pt.U, Pt.locs, Pt.cells, Pt.slots] at h1 h2 h3 h4 h5 X hn hPc ⊢
  obtain ⟨methY, cY, hmY, hcY, -, hlY, -, -, -, -⟩ := Cond.code_spec hn h2
  obtain ⟨kY, hkY, -⟩ := className_of_methodNamed hn
  have hinitY : kY.init = .initialized := Cond.initialized_spec (findClass_of_methodNamed hn) hkY h3
  have h : At U g.method c below := by rw [hg]; exact X.here
  have hlocals9 : W9 + (maxL + 11) + (headSpec ws rm).room.locals ≤ R.locals := hlocals
  have happ : (headSpec ws rm).appliesLoose y e.platform (U.calling g mk a) = true :=
    Spec.appliesLoose_calling (g := g) h hdg hn hkY hinitY
      (X.room_calling (g := g) (R' := (headSpec ws rm).room) hsize hmY hcY hframes (by rw [hlY]; omega) h4 h5) h1
  obtain ⟨mid, hmid⟩ := h.above
  have hfr : (U.setTop g).frames = (.java g :: mid) ++ below := by rw [State.frames_setTop' g h.top, hmid]; rfl
  obtain ⟨o, s₂, hsteps, -, hend, hq⟩ := Steps.callFree hM p X.admits X.cas X.clock (acts := []) hfr happ hPc trivial
  have hq' : vx_Q Qc XC mc ms free a (U.calling g mk a) o s₂ := hq
  rw [State.frames_setTop' g h.top] at hend
  obtain ⟨g₀, hg0⟩ := Option.isSome_iff_exists.mp h.top
  obtain ⟨r, hr⟩ := State.topJava?_eq_some.mp hg0
  have hr' : (({ U with heap := s₂.heap, slotsUsed := s₂.slotsUsed } : State).setVm s₂.vm).frames = .java g₀ :: r := hr
  rcases hq' with ⟨hqc, L, hfe, hL⟩ | ⟨q, rfl, E, ce, L, hx, hce, hcv, hcl, hW₂, hsm, hL⟩
  · obtain ⟨⟨v, rfl⟩, hW₂, e2, q2, q3, q4, q5, q6⟩ := id hfe
    have e3 : s₂ = ({ (U.calling g mk a).setFrames s₂.frames with heap := s₂.heap, slotsUsed := s₂.slotsUsed } : State).setVm s₂.vm := by
      have : s₂ = ({ s₂ with vm := (U.calling g mk a).vm } : State).setVm s₂.vm := rfl
      rw [e2] at this
      exact this
    obtain ⟨c₂, i₂, len₂, hc₂, hd₂, hf₂⟩ := hend
    have hW' : U.WarmedH s₂.vm := hW₂
    have hcc : c₂ = c := by
      have h1 : s₂.code? g.method = U.code? g.method := by
        rw [State.code?_eq, State.code?_eq, hW'.alike.method?]
      exact Option.some.inj (hc₂.symm.trans (h1.trans h.code))
    subst hcc
    have hlen : len₂ = len := by rw [hdg] at hd₂; cases hd₂; rfl
    subst hlen
    have hs₂ : s₂ = (({ U with heap := s₂.heap, slotsUsed := s₂.slotsUsed } : State).setVm s₂.vm).setTop { g with pc := g.pc + len₂, stack := v.toList ++ g.stack } := by
      refine e3.trans ?_
      rw [hf₂, State.calling_eq h.top, State.setFrames_setFrames, State.setTop_of_frames _ hr', hr]
      rfl
    have hsame : U.sameButNew ({ U with heap := s₂.heap, slotsUsed := s₂.slotsUsed } : State) L mc ms := by
      refine ⟨?_, q2, q3, q4, q5, q6⟩
      obtain ⟨t, ht, -⟩ := State.frames_cons hr
      show ({ U with heap := s₂.heap, slotsUsed := s₂.slotsUsed } : State) = { U.setFrames U.frames with heap := s₂.heap, slotsUsed := s₂.slotsUsed }
      rw [State.setFrames_self ht]
    subst hg
    refine Or.inl ⟨v, ⟨(({ U with heap := s₂.heap, slotsUsed := s₂.slotsUsed } : State).setVm s₂.vm), Ls ++ L, c0 + mc, s0 + ms⟩,
      ⟨X.admits, X.cas, X.clock, X.frames, X.room, X.hears, X.method, X.code, (X.here.setHeapUsed s₂.heap s₂.slotsUsed).setVm hW'.alike, X.tail, State.WarmedH.trans X.warmed hW', X.limits, X.bytes, X.same.trans (hsame.setVm s.vm)⟩,
      ⟨g, mk, s₂, L, rfl, rfl, hqc, rfl, hL, rfl, rfl⟩, ?_⟩
    show Steps p.tables e below _ ((({ U with heap := s₂.heap, slotsUsed := s₂.slotsUsed } : State).setVm s₂.vm).setTop { g with pc := g.pc + len₂, stack := v.toList ++ g.stack })
    rw [← hs₂]
    exact hsteps
  · obtain ⟨e2, q2, q3, q4, q5, q6⟩ := id hsm
    have e3 : s₂ = ({ (U.calling g mk a).setFrames s₂.frames with heap := s₂.heap, slotsUsed := s₂.slotsUsed } : State).setVm s₂.vm := by
      have : s₂ = ({ s₂ with vm := (U.calling g mk a).vm } : State).setVm s₂.vm := rfl
      rw [e2] at this
      exact this
    have hf₂ : s₂.frames = .throwing q :: .java g :: U.frames.tail := hend
    have hW' : U.WarmedH s₂.vm := hW₂
    have hs₂ : s₂ = ((({ U with heap := s₂.heap, slotsUsed := s₂.slotsUsed } : State).setVm s₂.vm).setTop g).pushFrame (.throwing q) := by
      refine e3.trans ?_
      rw [hf₂, State.calling_eq h.top, State.setFrames_setFrames, State.pushFrame, State.frames_setTop _ hr', State.setTop_of_frames _ hr', State.setFrames_setFrames, hr]
      rfl
    have hsame : U.sameButNew ({ U with heap := s₂.heap, slotsUsed := s₂.slotsUsed } : State) L mc ms := by
      refine ⟨?_, q2, q3, q4, q5, q6⟩
      obtain ⟨t, ht, -⟩ := State.frames_cons hr
      show ({ U with heap := s₂.heap, slotsUsed := s₂.slotsUsed } : State) = { U.setFrames U.frames with heap := s₂.heap, slotsUsed := s₂.slotsUsed }
      rw [State.setFrames_self ht]
    subst hg
    refine Or.inr ⟨q, ⟨(({ U with heap := s₂.heap, slotsUsed := s₂.slotsUsed } : State).setVm s₂.vm), Ls ++ L, c0 + mc, s0 + ms⟩,
      ⟨X.admits, X.cas, X.clock, X.frames, X.room, X.hears, X.method, X.code, (X.here.setHeapUsed s₂.heap s₂.slotsUsed).setVm hW'.alike, X.tail, State.WarmedH.trans X.warmed hW', X.limits, X.bytes, X.same.trans (hsame.setVm s.vm)⟩,
      ⟨g, mk, s₂, L, E, ce, rfl, rfl, hx, hce, hcv, hcl, rfl, hL, rfl, rfl⟩, ?_⟩
    show Steps p.tables e below _ (((({ U with heap := s₂.heap, slotsUsed := s₂.slotsUsed } : State).setVm s₂.vm).setTop g).pushFrame (.throwing q))
    rw [← hs₂]
    exact hsteps
end Payer
section Calls
variable {p : Program} {l : Launch} {e : Env} {R : Room} {s : State} {m : MethodId} {args : Array Value} {below : List Frame} {meth : Method} {c : Code} {T : State} {locs : List Loc} {cells slots : Nat}
theorem vx_callV (X : Stand p l e R s m args below meth c T locs cells slots) (hexec : p.tables.exec = Jvm.exec) {own C : String} {index : Nat} {y : MethodName} {bytes : ByteArray} {maxL : Nat} {ret : Option FieldType}
    (hown : s.vm.findClass own = some m.cls) (hlink : (Cond.methodLink own index y).before args s = true) (hinst : (Cond.instanceMethod y).before args s = true) (hsel : (Cond.selects C y y).before args s = true)
    (hcode : (Cond.code y bytes maxL ret).before args s = true) (hy : y.cls ≠ "java/lang/invoke/MethodHandle" ∧ y.cls ≠ "java/lang/invoke/VarHandle")
    {W9 : Nat} {Pre : Pt → Array Value → Prop} {Post : Pt → Array Value → Option Value → Pt → Prop} {PostX : Pt → Array Value → Addr → Pt → Prop} (hK : vx_Back l R p e below s args y 3 W9 Pre Post PostX)
    {b : Addr} {cellB : Cell} (hcell : T.heap[b]? = some cellB) (hobj : cellB.vm.isStatics = false) (hcls : s.vm.findClass C = some cellB.cls)
    {g : JFrame} (hg : g.method = m) (hsize : g.locals.size = c.maxLocals) {argsL rest : List Value} (hlen : ∀ sig, parseMethodDescriptor y.desc = some sig → argsL.length = sig.parameters.length)
    (hstack : g.stack = argsL.reverse ++ .ref b :: rest) (hW : 2 * g.monitorRoom + (rest.map fun v => v.category).sum ≤ W9) (hdg : decode c.code g.pc = .ok (.invokevirtual index, 3))
    (hpre : ∀ vm₁, s.WarmedH vm₁ → Pre ⟨T.setVm vm₁, locs, cells, slots⟩ (Value.ref b :: argsL).toArray) :
    (∃ (v : Option Value) (vm₁ : Vm) (B : Pt), s.WarmedH vm₁ ∧ Stand p l e R s m args below meth c B.U B.locs B.cells B.slots ∧ Post ⟨T.setVm vm₁, locs, cells, slots⟩ (Value.ref b :: argsL).toArray v B ∧
      ∀ target, Steps p.tables e below (B.U.setTop { g with pc := g.pc + 3, stack := v.toList ++ rest }) target → Steps p.tables e below (T.setTop g) target) ∨
    (∃ (q : Addr) (vm₁ : Vm) (B : Pt), s.WarmedH vm₁ ∧ Stand p l e R s m args below meth c B.U B.locs B.cells B.slots ∧ PostX ⟨T.setVm vm₁, locs, cells, slots⟩ (Value.ref b :: argsL).toArray q B ∧
      Steps p.tables e below (T.setTop g) ((B.U.setTop { g with stack := rest }).pushFrame (.throwing q))) := by
  obtain ⟨mk, methM, hnamed, hmethM, hstM, habM⟩ := Cond.instanceMethod_spec hinst
  obtain ⟨methM', cM, hmethM', -, -, -, -, -, -, hsigM⟩ := Cond.code_spec hnamed hcode
  cases hmethM.symm.trans hmethM'
  obtain ⟨c2, r2, m2, q1, q2, q3, q4, kP, hkP, hkPi⟩ := Cond.selects_spec hsel
  cases hcls.symm.trans q1
  cases (State.methodFound?_of_named hnamed hy).symm.trans q2
  cases hnamed.symm.trans q3
  have hselP : selectMethod e.platform s.vm cellB.cls mk = .method mk := by rw [Launch.admits_selectMethod X.admits]; exact q4
  obtain ⟨vm₁, X₁, hstep₁⟩ := X.invokevirtual hexec hown hlink hnamed hmethM hstM hkP hkPi hy (a := b) (cell := cellB) hcell
    (fun z h => by rw [h] at hobj; cases hobj) hselP hmethM habM hkP hkPi (g := g) hg (argsL := argsL) (rest := rest) (hlen _ hsigM) hstack hdg
  rcases hK m meth c ⟨T.setVm vm₁, locs, cells, slots⟩ { g with stack := rest } (.invokevirtual index) mk (Value.ref b :: argsL).toArray X₁ hg hsize hdg hW (X₁.named hnamed) (hpre vm₁ X₁.warmed) with ⟨v, B, X', hpost, hsteps⟩ | ⟨q, B, X', hpost, hsteps⟩
  · exact Or.inl ⟨v, vm₁, B, X₁.warmed, X', hpost, fun target h => hstep₁ _ fun acts => by rw [doInvoke_state]; exact hsteps.trans h⟩
  · exact Or.inr ⟨q, vm₁, B, X₁.warmed, X', hpost, hstep₁ _ fun acts => by rw [doInvoke_state]; exact hsteps⟩
theorem vx_callS (X : Stand p l e R s m args below meth c T locs cells slots) (hexec : p.tables.exec = Jvm.exec) {own : String} {index : Nat} {y : MethodName} {bytes : ByteArray} {maxL : Nat} {ret : Option FieldType}
    (hown : s.vm.findClass own = some m.cls) (hlink : (Cond.methodLink own index y).before args s = true) (hstat : (Cond.static y).before args s = true) (hinit : (Cond.initialized y.cls).before args s = true)
    (hcode : (Cond.code y bytes maxL ret).before args s = true) (hy : y.cls ≠ "java/lang/invoke/MethodHandle" ∧ y.cls ≠ "java/lang/invoke/VarHandle")
    {W9 : Nat} {Pre : Pt → Array Value → Prop} {Post : Pt → Array Value → Option Value → Pt → Prop} {PostX : Pt → Array Value → Addr → Pt → Prop} (hK : vx_Back l R p e below s args y 3 W9 Pre Post PostX)
    {g : JFrame} (hg : g.method = m) (hsize : g.locals.size = c.maxLocals) {argsL rest : List Value} (hlen : ∀ sig, parseMethodDescriptor y.desc = some sig → argsL.length = sig.parameters.length)
    (hstack : g.stack = argsL.reverse ++ rest) (hW : 2 * g.monitorRoom + (rest.map fun v => v.category).sum ≤ W9) (hdg : decode c.code g.pc = .ok (.invokestatic index, 3))
    (hpre : ∀ vm₁, s.WarmedH vm₁ → Pre ⟨T.setVm vm₁, locs, cells, slots⟩ argsL.toArray) :
    (∃ (v : Option Value) (vm₁ : Vm) (B : Pt), s.WarmedH vm₁ ∧ Stand p l e R s m args below meth c B.U B.locs B.cells B.slots ∧ Post ⟨T.setVm vm₁, locs, cells, slots⟩ argsL.toArray v B ∧
      ∀ target, Steps p.tables e below (B.U.setTop { g with pc := g.pc + 3, stack := v.toList ++ rest }) target → Steps p.tables e below (T.setTop g) target) ∨
    (∃ (q : Addr) (vm₁ : Vm) (B : Pt), s.WarmedH vm₁ ∧ Stand p l e R s m args below meth c B.U B.locs B.cells B.slots ∧ PostX ⟨T.setVm vm₁, locs, cells, slots⟩ argsL.toArray q B ∧
      Steps p.tables e below (T.setTop g) ((B.U.setTop { g with stack := rest }).pushFrame (.throwing q))) := by
  obtain ⟨mk, hnamed⟩ := Cond.code_named hcode
  obtain ⟨methM, cM, hmethM, -, -, -, -, -, -, hsigM⟩ := Cond.code_spec hnamed hcode
  have hstatic : methM.isStatic = true := Cond.static_spec hnamed hmethM hstat
  obtain ⟨kP, hkP, -⟩ := className_of_methodNamed hnamed
  have hinitP : kP.init = .initialized := Cond.initialized_spec (findClass_of_methodNamed hnamed) hkP hinit
  obtain ⟨vm₁, X₁, hstep₁⟩ := X.invokestatic hexec hown hlink hnamed hmethM hstatic hkP hinitP hy (g := g) hg (argsL := argsL) (rest := rest) (hlen _ hsigM) hstack hdg
  rcases hK m meth c ⟨T.setVm vm₁, locs, cells, slots⟩ { g with stack := rest } (.invokestatic index) mk argsL.toArray X₁ hg hsize hdg hW (X₁.named hnamed) (hpre vm₁ X₁.warmed) with ⟨v, B, X', hpost, hsteps⟩ | ⟨q, B, X', hpost, hsteps⟩
  · exact Or.inl ⟨v, vm₁, B, X₁.warmed, X', hpost, fun target h => hstep₁ _ fun acts => by rw [doInvoke_state]; exact hsteps.trans h⟩
  · exact Or.inr ⟨q, vm₁, B, X₁.warmed, X', hpost, hstep₁ _ fun acts => by rw [doInvoke_state]; exact hsteps⟩
end Calls
theorem vx_cls {s : State} {T : State} {vm₁ : Vm} {E : String} {k : ClassId} (hW : s.WarmedH vm₁) (h : (T.setVm vm₁).vm.findClass E = some k) : s.vm.findClass E = some k := by
  have h1 : vm₁.findClass E = some k := h
  rw [hW.alike.findClass] at h1
  exact h1
/-- the method's frame g, with q thrown over it -/
def vx_W (p : Program) (l : Launch) (e : Env) (R : Room) (s : State) (m : MethodId) (args : Array Value) (below : List Frame) (meth : Method) (c : Code) (H : Heap) (locs : List Loc) (cells slots : Nat) (Q : State → Prop) (g : JFrame) (q : Addr) : Prop :=
  ∀ T : State, T.heap = H → Stand p l e R s m args below meth c T locs cells slots → ∃ t, Steps p.tables e below ((T.setTop g).pushFrame (.throwing q)) t ∧ Q t
def vx_Run (p : Program) (l : Launch) (e : Env) (R : Room) (s : State) (m : MethodId) (args : Array Value) (below : List Frame) (meth : Method) (c : Code) (H : Heap) (locs : List Loc) (cells slots mc ms : Nat) (g : JFrame) (rest : List Value) (Qa : State → Outcome → State → Prop) (XC : String → State → State → Prop) (free : Addr → Prop) : Prop :=
  ∀ T : State, T.heap = H → Stand p l e R s m args below meth c T locs cells slots →
    (∃ (v : Option Value) (st₀ t T' : State) (L : List Loc), st₀.heap = H ∧ Stand p l e R s m args below meth c T' (locs ++ L) (cells + mc) (slots + ms) ∧ (∀ q ∈ L, free q.base) ∧ T'.heap = t.heap ∧ T'.vm = t.vm ∧ Qa st₀ (.returned v) t ∧
      Goes p e below T g T' { g with pc := g.pc + 3, stack := v.toList ++ rest }) ∨
    (∃ (q : Addr) (st₀ t T' : State) (L : List Loc) (E : String) (ce : Cell), st₀.heap = H ∧ Stand p l e R s m args below meth c T' (locs ++ L) (cells + mc) (slots + ms) ∧ (∀ z ∈ L, free z.base) ∧ T'.heap = t.heap ∧ T'.vm = t.vm ∧ XC E st₀ t ∧ t.heap[q]? = some ce ∧ ce.vm = .none ∧ s.vm.findClass E = some ce.cls ∧
      Steps p.tables e below (T.setTop g) ((T'.setTop { g with stack := rest }).pushFrame (.throwing q)))
def vx_X {S : Type} (px : S → Prop) (B : String → S → State → Prop) (A : Nat → Prop) : String → State → State → Prop := fun E st t => ∃ u : S, px u ∧ B E u t ∧ va_F A st t
section Runs
variable {p : Program} {l : Launch} {e : Env} {R : Room} {s : State} {m : MethodId} {args : Array Value} {below : List Frame} {meth : Method} {c : Code} {H : Heap} {locs : List Loc} {cells slots : Nat}
variable {y : MethodName} {bytes cc : ByteArray} {maxL nL mc ms n index : Nat} {ret : Option FieldType} {ws : List Cond} {rm : Room} {Pc : Array Value → State → Prop} {Qc : Array Value → State → Outcome → State → Prop} {XC : String → State → State → Prop} {free : Addr → Prop} {Ts : List Cond} {own C : String} {b : Addr} {As rest : List Value} {g : JFrame}
theorem vx_callBack (cb : CallB R s args own index y bytes maxL ret ws rm mc ms n) (hM : vx_Met l y ws rm Pc Qc XC mc ms free) (hbl : FrameBlind Pc) : vx_Back l R p e below s args y 3 8 (PreOf R mc ms Pc) (PostOf Qc mc ms free) (vx_Post XC mc ms free) := by
  obtain ⟨hrc, hrs, hfr, hlo, hws, hcw, -, hini, -⟩ := cb
  exact vx_back (bytes := bytes) (maxL := maxL) (ret := ret) hM hbl hrc hrs hfr hlo hws hcw (fun a' U hW => word_at hW (Or.inl (by first | rfl | simp [Cond.onTables, Cond.keeps, Cond.steady])) hini)
theorem vx_runV (S : CallFix p m c cc nL s args Ts own) (hM : vx_Met l y ws rm Pc Qc XC mc ms free) (cw : CallW R s args own C index y bytes maxL ret ws rm mc ms n) (hp : PreV s H C b Pc As)
    (hg : g.method = m) (hn : As.length = n) (hsize : g.locals.size = nL) (hstack : g.stack = As.reverse ++ .ref b :: rest) (hW : 2 * g.monitorRoom + (rest.map fun v => v.category).sum ≤ 8) (hdg : decode cc g.pc = .ok (.invokevirtual index, 3)) (hf : cells + mc ≤ R.cells ∧ slots + ms ≤ R.slots) :
    vx_Run p l e R s m args below meth c H locs cells slots mc ms g rest (Qc (Value.ref b :: As).toArray) XC free := by
  have hK : vx_Back l R p e below s args y 3 8 (PreOf R mc ms Pc) (PostOf Qc mc ms free) (vx_Post XC mc ms free) := vx_callBack cw.1 hM hp.1
  obtain ⟨⟨-, -, -, -, -, -, hcode, -, hy, hlen, hl⟩, hin, hse⟩ := cw
  obtain ⟨hx, hb, hml, ho, -⟩ := S
  obtain ⟨-, ⟨cellB, hcB, hoB, hclB⟩, hPc⟩ := hp
  intro T hT X
  rcases vx_callV X hx (C := C) (bytes := bytes) (maxL := maxL) (ret := ret) ho hl hin hse hcode hy hK (by rw [hT]; exact hcB) hoB hclB hg (hsize.trans hml.symm) (argsL := As) (rest := rest) (fun sig h => hn.trans (hlen sig h)) hstack hW (by rw [hb]; exact hdg)
    (fun vm₁ hW₁ => ⟨hf.1, hf.2, hPc (T.setVm vm₁) hT hW₁⟩) with ⟨v, vm₁, ⟨U', l2, c2, s2⟩, hW₁, X', ⟨g', mk, t, L, e1, e2, hq, h1, hL, h2, h3⟩, st⟩ | ⟨q, vm₁, ⟨U', l2, c2, s2⟩, hW₁, X', ⟨g', mk, t, L, E, ce, e1, e2, hq, hce, hcv, hcl, h1, hL, h2, h3⟩, st⟩
  · dsimp only [Pt.U, Pt.locs, Pt.cells, Pt.slots] at X' e1 e2 h1 h2 h3 st
    subst h1; subst h2; subst h3
    exact Or.inl ⟨v, (T.setVm vm₁).calling g' mk (Value.ref b :: As).toArray, t, U', L, hT, X', hL, e1, e2, hq, st⟩
  · dsimp only [Pt.U, Pt.locs, Pt.cells, Pt.slots] at X' e1 e2 h1 h2 h3 st hcl
    subst h1; subst h2; subst h3
    exact Or.inr ⟨q, (T.setVm vm₁).calling g' mk (Value.ref b :: As).toArray, t, U', L, E, ce, hT, X', hL, e1, e2, hq, hce, hcv, vx_cls hW₁ hcl, st⟩
theorem vx_runS (S : CallFix p m c cc nL s args Ts own) (hM : vx_Met l y ws rm Pc Qc XC mc ms free) (cw : CallB R s args own index y bytes maxL ret ws rm mc ms n ∧ (Cond.static y).before args s = true) (hp : PreS s H Pc As)
    (hg : g.method = m) (hn : As.length = n) (hsize : g.locals.size = nL) (hstack : g.stack = As.reverse ++ rest) (hW : 2 * g.monitorRoom + (rest.map fun v => v.category).sum ≤ 8) (hdg : decode cc g.pc = .ok (.invokestatic index, 3)) (hf : cells + mc ≤ R.cells ∧ slots + ms ≤ R.slots) :
    vx_Run p l e R s m args below meth c H locs cells slots mc ms g rest (Qc As.toArray) XC free := by
  have hK : vx_Back l R p e below s args y 3 8 (PreOf R mc ms Pc) (PostOf Qc mc ms free) (vx_Post XC mc ms free) := vx_callBack cw.1 hM hp.1
  obtain ⟨⟨-, -, -, -, -, -, hcode, hini, hy, hlen, hl⟩, hstt⟩ := cw
  obtain ⟨hx, hb, hml, ho, -⟩ := S
  intro T hT X
  rcases vx_callS X hx (bytes := bytes) (maxL := maxL) (ret := ret) ho hl hstt hini hcode hy hK hg (hsize.trans hml.symm) (argsL := As) (rest := rest) (fun sig h => hn.trans (hlen sig h)) hstack hW (by rw [hb]; exact hdg)
    (fun vm₁ hW₁ => ⟨hf.1, hf.2, hp.2 (T.setVm vm₁) hT hW₁⟩) with ⟨v, vm₁, ⟨U', l2, c2, s2⟩, hW₁, X', ⟨g', mk, t, L, e1, e2, hq, h1, hL, h2, h3⟩, st⟩ | ⟨q, vm₁, ⟨U', l2, c2, s2⟩, hW₁, X', ⟨g', mk, t, L, E, ce, e1, e2, hq, hce, hcv, hcl, h1, hL, h2, h3⟩, st⟩
  · dsimp only [Pt.U, Pt.locs, Pt.cells, Pt.slots] at X' e1 e2 h1 h2 h3 st
    subst h1; subst h2; subst h3
    exact Or.inl ⟨v, (T.setVm vm₁).calling g' mk As.toArray, t, U', L, hT, X', hL, e1, e2, hq, st⟩
  · dsimp only [Pt.U, Pt.locs, Pt.cells, Pt.slots] at X' e1 e2 h1 h2 h3 st hcl
    subst h1; subst h2; subst h3
    exact Or.inr ⟨q, (T.setVm vm₁).calling g' mk As.toArray, t, U', L, E, ce, hT, X', hL, e1, e2, hq, hce, hcv, vx_cls hW₁ hcl, st⟩
end Runs
section Rows
variable {p : Program} {l : Launch} {e : Env} {R : Room} {s : State} {m : MethodId} {args : Array Value} {below : List Frame} {meth : Method} {c : Code} {H : Heap} {locs : List Loc} {cells slots : Nat} {Q : State → Prop}
variable {mc ms : Nat} {free : Addr → Prop} {A0 A1 : Nat → Prop} {H0 : Heap} {a : Array Value} {pc : Nat} {ls : Array Slot} {st0 rest : List Value}
theorem vx_keep {st₀ t T' : State} {L : List Loc} (h0 : st₀.heap = H) (e1 : T'.heap = t.heap) (hS : va_S A0 H0 H locs) (hA : ∀ q, q < H.size → A1 q → A0 q) (hf : ∀ q, free q → A0 q) (hL : ∀ q ∈ L, free q.base) (hF : va_F A1 st₀ t) :
    H.size ≤ T'.heap.size ∧ (∀ q : Nat, q < H.size → ¬ A1 q → T'.heap[q]? = H[q]?) ∧ va_S A0 H0 T'.heap (locs ++ L) := by
  obtain ⟨hz, hk⟩ := hF
  rw [h0] at hz hk
  exact ⟨by rw [e1]; exact hz, fun q h1 h2 => by rw [e1]; exact hk q h1 h2,
    ⟨Nat.le_trans hS.1 (by rw [e1]; exact hz), fun q h1 h2 => by rw [e1, hk q (Nat.lt_of_lt_of_le h1 hS.1) (fun z => h2 (hA q (Nat.lt_of_lt_of_le h1 hS.1) z))]; exact hS.2.1 q h1 h2, fun q hq => by
      rcases List.mem_append.mp hq with h | h
      · exact hS.2.2 q h
      · exact hf _ (hL q h)⟩⟩
theorem vx_calli {S SX : Type} {post : Int32 → S → Prop} {px : SX → Prop} {B : S → State → Prop} {BX : String → SX → State → Prop} {AX : Nat → Prop} (hr : vx_Run p l e R s m args below meth c H locs cells slots mc ms (F0 m pc ls st0) rest (va_Qi post B A1 a) (vx_X px BX AX) free) (hS : va_S A0 H0 H locs) (hA : ∀ q, q < H.size → A1 q → A0 q) (hf : ∀ q, free q → A0 q) (hAX : ∀ q, q < H.size → AX q → A0 q)
    (kx : ∀ (E : String) (ce : Cell) (q9 : Addr) (u : SX) (t : State) (H1 : Heap) (locs1 : List Loc), t.heap = H1 → s.vm.Alike t.vm → px u → BX E u t → H.size ≤ H1.size → (∀ q : Nat, q < H.size → ¬ AX q → H1[q]? = H[q]?) → va_S A0 H0 H1 locs1 → H1[q9]? = some ce → ce.vm = .none → s.vm.findClass E = some ce.cls → vx_W p l e R s m args below meth c H1 locs1 (cells + mc) (slots + ms) Q (F0 m pc ls rest) q9)
    (kk : ∀ (r : Int32) (u : S) (t : State) (H1 : Heap) (locs1 : List Loc), t.heap = H1 → s.vm.Alike t.vm → post r u → B u t → H.size ≤ H1.size → (∀ q : Nat, q < H.size → ¬ A1 q → H1[q]? = H[q]?) → va_S A0 H0 H1 locs1 → W p l e R s m args below meth c H1 locs1 (cells + mc) (slots + ms) Q (F0 m (pc + 3) ls (.int r :: rest))) : W p l e R s m args below meth c H locs cells slots Q (F0 m pc ls st0) := by
  intro T hT X
  rcases hr T hT X with ⟨v, st₀, t, T', L, h0, X', hL, e1, e2, ⟨⟨r, u, hv, hp, hb⟩, hF⟩, st⟩ | ⟨q, st₀, t, T', L, E, ce, h0, X', hL, e1, e2, ⟨u, hp, hb, hF⟩, hce, hcv, hcl, st⟩
  · cases hv
    obtain ⟨k1, k2, k3⟩ := vx_keep h0 e1 hS hA hf hL hF
    obtain ⟨t2, a1, b1⟩ := kk r u t T'.heap (locs ++ L) e1.symm (by rw [← e2]; exact X'.warmed.alike) hp hb k1 k2 k3 T' rfl X'
    exact ⟨t2, st t2 a1, b1⟩
  · obtain ⟨k1, k2, k3⟩ := vx_keep h0 e1 hS hAX hf hL hF
    obtain ⟨t2, a1, b1⟩ := kx E ce q u t T'.heap (locs ++ L) e1.symm (by rw [← e2]; exact X'.warmed.alike) hp hb k1 k2 k3 (by rw [e1]; exact hce) hcv hcl T' rfl X'
    exact ⟨t2, st.trans a1, b1⟩
theorem vx_calll {S SX : Type} {post : Int64 → S → Prop} {px : SX → Prop} {B : S → State → Prop} {BX : String → SX → State → Prop} {AX : Nat → Prop} (hr : vx_Run p l e R s m args below meth c H locs cells slots mc ms (F0 m pc ls st0) rest (va_Ql post B A1 a) (vx_X px BX AX) free) (hS : va_S A0 H0 H locs) (hA : ∀ q, q < H.size → A1 q → A0 q) (hf : ∀ q, free q → A0 q) (hAX : ∀ q, q < H.size → AX q → A0 q)
    (kx : ∀ (E : String) (ce : Cell) (q9 : Addr) (u : SX) (t : State) (H1 : Heap) (locs1 : List Loc), t.heap = H1 → s.vm.Alike t.vm → px u → BX E u t → H.size ≤ H1.size → (∀ q : Nat, q < H.size → ¬ AX q → H1[q]? = H[q]?) → va_S A0 H0 H1 locs1 → H1[q9]? = some ce → ce.vm = .none → s.vm.findClass E = some ce.cls → vx_W p l e R s m args below meth c H1 locs1 (cells + mc) (slots + ms) Q (F0 m pc ls rest) q9)
    (kk : ∀ (r : Int64) (u : S) (t : State) (H1 : Heap) (locs1 : List Loc), t.heap = H1 → s.vm.Alike t.vm → post r u → B u t → H.size ≤ H1.size → (∀ q : Nat, q < H.size → ¬ A1 q → H1[q]? = H[q]?) → va_S A0 H0 H1 locs1 → W p l e R s m args below meth c H1 locs1 (cells + mc) (slots + ms) Q (F0 m (pc + 3) ls (.long r :: rest))) : W p l e R s m args below meth c H locs cells slots Q (F0 m pc ls st0) := by
  intro T hT X
  rcases hr T hT X with ⟨v, st₀, t, T', L, h0, X', hL, e1, e2, ⟨⟨r, u, hv, hp, hb⟩, hF⟩, st⟩ | ⟨q, st₀, t, T', L, E, ce, h0, X', hL, e1, e2, ⟨u, hp, hb, hF⟩, hce, hcv, hcl, st⟩
  · cases hv
    obtain ⟨k1, k2, k3⟩ := vx_keep h0 e1 hS hA hf hL hF
    obtain ⟨t2, a1, b1⟩ := kk r u t T'.heap (locs ++ L) e1.symm (by rw [← e2]; exact X'.warmed.alike) hp hb k1 k2 k3 T' rfl X'
    exact ⟨t2, st t2 a1, b1⟩
  · obtain ⟨k1, k2, k3⟩ := vx_keep h0 e1 hS hAX hf hL hF
    obtain ⟨t2, a1, b1⟩ := kx E ce q u t T'.heap (locs ++ L) e1.symm (by rw [← e2]; exact X'.warmed.alike) hp hb k1 k2 k3 (by rw [e1]; exact hce) hcv hcl T' rfl X'
    exact ⟨t2, st.trans a1, b1⟩
theorem vx_callf {S SX : Type} {post : UInt32 → S → Prop} {px : SX → Prop} {B : S → State → Prop} {BX : String → SX → State → Prop} {AX : Nat → Prop} (hr : vx_Run p l e R s m args below meth c H locs cells slots mc ms (F0 m pc ls st0) rest (va_Qf post B A1 a) (vx_X px BX AX) free) (hS : va_S A0 H0 H locs) (hA : ∀ q, q < H.size → A1 q → A0 q) (hf : ∀ q, free q → A0 q) (hAX : ∀ q, q < H.size → AX q → A0 q)
    (kx : ∀ (E : String) (ce : Cell) (q9 : Addr) (u : SX) (t : State) (H1 : Heap) (locs1 : List Loc), t.heap = H1 → s.vm.Alike t.vm → px u → BX E u t → H.size ≤ H1.size → (∀ q : Nat, q < H.size → ¬ AX q → H1[q]? = H[q]?) → va_S A0 H0 H1 locs1 → H1[q9]? = some ce → ce.vm = .none → s.vm.findClass E = some ce.cls → vx_W p l e R s m args below meth c H1 locs1 (cells + mc) (slots + ms) Q (F0 m pc ls rest) q9)
    (kk : ∀ (r : UInt32) (u : S) (t : State) (H1 : Heap) (locs1 : List Loc), t.heap = H1 → s.vm.Alike t.vm → post r u → B u t → H.size ≤ H1.size → (∀ q : Nat, q < H.size → ¬ A1 q → H1[q]? = H[q]?) → va_S A0 H0 H1 locs1 → W p l e R s m args below meth c H1 locs1 (cells + mc) (slots + ms) Q (F0 m (pc + 3) ls (.float r :: rest))) : W p l e R s m args below meth c H locs cells slots Q (F0 m pc ls st0) := by
  intro T hT X
  rcases hr T hT X with ⟨v, st₀, t, T', L, h0, X', hL, e1, e2, ⟨⟨r, u, hv, hp, hb⟩, hF⟩, st⟩ | ⟨q, st₀, t, T', L, E, ce, h0, X', hL, e1, e2, ⟨u, hp, hb, hF⟩, hce, hcv, hcl, st⟩
  · cases hv
    obtain ⟨k1, k2, k3⟩ := vx_keep h0 e1 hS hA hf hL hF
    obtain ⟨t2, a1, b1⟩ := kk r u t T'.heap (locs ++ L) e1.symm (by rw [← e2]; exact X'.warmed.alike) hp hb k1 k2 k3 T' rfl X'
    exact ⟨t2, st t2 a1, b1⟩
  · obtain ⟨k1, k2, k3⟩ := vx_keep h0 e1 hS hAX hf hL hF
    obtain ⟨t2, a1, b1⟩ := kx E ce q u t T'.heap (locs ++ L) e1.symm (by rw [← e2]; exact X'.warmed.alike) hp hb k1 k2 k3 (by rw [e1]; exact hce) hcv hcl T' rfl X'
    exact ⟨t2, st.trans a1, b1⟩
theorem vx_calld {S SX : Type} {post : UInt64 → S → Prop} {px : SX → Prop} {B : S → State → Prop} {BX : String → SX → State → Prop} {AX : Nat → Prop} (hr : vx_Run p l e R s m args below meth c H locs cells slots mc ms (F0 m pc ls st0) rest (va_Qd post B A1 a) (vx_X px BX AX) free) (hS : va_S A0 H0 H locs) (hA : ∀ q, q < H.size → A1 q → A0 q) (hf : ∀ q, free q → A0 q) (hAX : ∀ q, q < H.size → AX q → A0 q)
    (kx : ∀ (E : String) (ce : Cell) (q9 : Addr) (u : SX) (t : State) (H1 : Heap) (locs1 : List Loc), t.heap = H1 → s.vm.Alike t.vm → px u → BX E u t → H.size ≤ H1.size → (∀ q : Nat, q < H.size → ¬ AX q → H1[q]? = H[q]?) → va_S A0 H0 H1 locs1 → H1[q9]? = some ce → ce.vm = .none → s.vm.findClass E = some ce.cls → vx_W p l e R s m args below meth c H1 locs1 (cells + mc) (slots + ms) Q (F0 m pc ls rest) q9)
    (kk : ∀ (r : UInt64) (u : S) (t : State) (H1 : Heap) (locs1 : List Loc), t.heap = H1 → s.vm.Alike t.vm → post r u → B u t → H.size ≤ H1.size → (∀ q : Nat, q < H.size → ¬ A1 q → H1[q]? = H[q]?) → va_S A0 H0 H1 locs1 → W p l e R s m args below meth c H1 locs1 (cells + mc) (slots + ms) Q (F0 m (pc + 3) ls (.double r :: rest))) : W p l e R s m args below meth c H locs cells slots Q (F0 m pc ls st0) := by
  intro T hT X
  rcases hr T hT X with ⟨v, st₀, t, T', L, h0, X', hL, e1, e2, ⟨⟨r, u, hv, hp, hb⟩, hF⟩, st⟩ | ⟨q, st₀, t, T', L, E, ce, h0, X', hL, e1, e2, ⟨u, hp, hb, hF⟩, hce, hcv, hcl, st⟩
  · cases hv
    obtain ⟨k1, k2, k3⟩ := vx_keep h0 e1 hS hA hf hL hF
    obtain ⟨t2, a1, b1⟩ := kk r u t T'.heap (locs ++ L) e1.symm (by rw [← e2]; exact X'.warmed.alike) hp hb k1 k2 k3 T' rfl X'
    exact ⟨t2, st t2 a1, b1⟩
  · obtain ⟨k1, k2, k3⟩ := vx_keep h0 e1 hS hAX hf hL hF
    obtain ⟨t2, a1, b1⟩ := kx E ce q u t T'.heap (locs ++ L) e1.symm (by rw [← e2]; exact X'.warmed.alike) hp hb k1 k2 k3 (by rw [e1]; exact hce) hcv hcl T' rfl X'
    exact ⟨t2, st.trans a1, b1⟩
theorem vx_callv {S SX : Type} {post : S → Prop} {px : SX → Prop} {B : S → State → Prop} {BX : String → SX → State → Prop} {AX : Nat → Prop} (hr : vx_Run p l e R s m args below meth c H locs cells slots mc ms (F0 m pc ls st0) rest (va_Qv post B A1 a) (vx_X px BX AX) free) (hS : va_S A0 H0 H locs) (hA : ∀ q, q < H.size → A1 q → A0 q) (hf : ∀ q, free q → A0 q) (hAX : ∀ q, q < H.size → AX q → A0 q)
    (kx : ∀ (E : String) (ce : Cell) (q9 : Addr) (u : SX) (t : State) (H1 : Heap) (locs1 : List Loc), t.heap = H1 → s.vm.Alike t.vm → px u → BX E u t → H.size ≤ H1.size → (∀ q : Nat, q < H.size → ¬ AX q → H1[q]? = H[q]?) → va_S A0 H0 H1 locs1 → H1[q9]? = some ce → ce.vm = .none → s.vm.findClass E = some ce.cls → vx_W p l e R s m args below meth c H1 locs1 (cells + mc) (slots + ms) Q (F0 m pc ls rest) q9)
    (kk : ∀ (u : S) (t : State) (H1 : Heap) (locs1 : List Loc), t.heap = H1 → s.vm.Alike t.vm → post u → B u t → H.size ≤ H1.size → (∀ q : Nat, q < H.size → ¬ A1 q → H1[q]? = H[q]?) → va_S A0 H0 H1 locs1 → W p l e R s m args below meth c H1 locs1 (cells + mc) (slots + ms) Q (F0 m (pc + 3) ls (rest))) : W p l e R s m args below meth c H locs cells slots Q (F0 m pc ls st0) := by
  intro T hT X
  rcases hr T hT X with ⟨v, st₀, t, T', L, h0, X', hL, e1, e2, ⟨⟨u, hv, hp, hb⟩, hF⟩, st⟩ | ⟨q, st₀, t, T', L, E, ce, h0, X', hL, e1, e2, ⟨u, hp, hb, hF⟩, hce, hcv, hcl, st⟩
  · cases hv
    obtain ⟨k1, k2, k3⟩ := vx_keep h0 e1 hS hA hf hL hF
    obtain ⟨t2, a1, b1⟩ := kk u t T'.heap (locs ++ L) e1.symm (by rw [← e2]; exact X'.warmed.alike) hp hb k1 k2 k3 T' rfl X'
    exact ⟨t2, st t2 a1, b1⟩
  · obtain ⟨k1, k2, k3⟩ := vx_keep h0 e1 hS hAX hf hL hF
    obtain ⟨t2, a1, b1⟩ := kx E ce q u t T'.heap (locs ++ L) e1.symm (by rw [← e2]; exact X'.warmed.alike) hp hb k1 k2 k3 (by rw [e1]; exact hce) hcv hcl T' rfl X'
    exact ⟨t2, st.trans a1, b1⟩
/-- caught by the row x of this method's table; the rows ahead don't take it -/
theorem vx_catch {own name : String} {E : String} {ce : Cell} {q : Addr} (hown : s.vm.findClass own = some m.cls) (pre : List ExceptionTableEntry) (x : ExceptionTableEntry) (suf : List ExceptionTableEntry) (hsplit : c.exceptionTable.toList = pre ++ x :: suf)
    (hpass : ∀ z ∈ pre, covers z pc = false ∨ (z.catchType ≠ 0 ∧ ∃ nm : String, (Cond.classLink own z.catchType nm).before args s = true ∧ va_Nc E nm s)) (hx : covers x pc = true) (h0 : x.catchType ≠ 0)
    (hlink : (Cond.classLink own x.catchType name).before args s = true) (hcast : (Cond.castable E name).before args s = true) (hcell : H[q]? = some ce) (hv : ce.vm = .none) (hcl : s.vm.findClass E = some ce.cls)
    (kk : W p l e R s m args below meth c H locs cells slots Q (F0 m x.handlerPc ls [.ref q])) : vx_W p l e R s m args below meth c H locs cells slots Q (F0 m pc ls rest) q := by
  intro T hT X
  have hpl : e.platform.magicAccessors = ({} : Platform).magicAccessors := by rw [X.admits.platform]
  obtain ⟨c3, c4, hc3, hc4, hasg⟩ := Cond.castable_spec hcast
  cases Option.some.inj (hc3.symm.trans hcl)
  obtain ⟨c5, hc5, hcl5⟩ := Cond.classLink_spec hown hlink e.platform hpl
  cases Option.some.inj (hc4.symm.trans hc5)
  obtain ⟨vm', X', st⟩ := X.thenCaughtThrough q (g := F0 m pc ls rest) rfl (Steps.refl _) (by rw [hT]; exact hcell) (by rw [hv]; rfl) (by obtain ⟨k9, h9, -⟩ := Vm.findClass_spec hcl; exact ⟨k9, h9⟩) pre x suf hsplit
    (fun z hz => by
      rcases hpass z hz with h | ⟨hz0, nm, hl1, hn1⟩
      · exact Or.inl h
      · obtain ⟨c6, hc6, hcl6⟩ := Cond.classLink_spec hown hl1 e.platform hpl
        obtain ⟨a8, b8, h1, h2, h3⟩ := hn1
        cases Option.some.inj (h1.symm.trans hcl)
        cases Option.some.inj (h2.symm.trans hc6)
        exact Or.inr ⟨hz0, _, hcl6, h3⟩) hx (Or.inr ⟨h0, c4, hcl5, hasg⟩)
  obtain ⟨t, a1, b1⟩ := kk (T.setVm vm') hT X'
  exact ⟨t, st.trans a1, b1⟩
end Rows
section Ends
variable {p : Program} {l : Launch} {e : Env} {R : Room} {s : State} {m : MethodId} {args : Array Value} {below : List Frame} {meth : Method} {c : Code} {H : Heap} {locs : List Loc} {cells slots : Nat} {Q : State → Prop}
variable {mc ms : Nat} {free : Addr → Prop} {A0 A1 : Nat → Prop} {H0 : Heap} {a : Array Value} {ls : Array Slot} {st0 rest : List Value}
variable {Qc : Array Value → State → Outcome → State → Prop} {XC : String → State → State → Prop}
/-- what a body that may throw owes at its end -/
def vx_MQ (below : List Frame) (Qc : Array Value → State → Outcome → State → Prop) (XC : String → State → State → Prop) (a : Array Value) (s : State) (mc ms : Nat) (free : Addr → Prop) : State → Prop := fun t =>
  ∃ o, t.status = .running ∧ Ended t below o ∧ vx_Q Qc XC mc ms free a s o t
theorem vx_ret {g : JFrame} {mc ms : Nat} (k : W p l e R s m args below meth c H locs cells slots (MQ below Qc args s mc ms free) g) : W p l e R s m args below meth c H locs cells slots (vx_MQ below Qc XC args s mc ms free) g := by
  intro T hT X
  obtain ⟨t, a1, o, b1, b2, b3, b4⟩ := k T hT X
  exact ⟨t, a1, o, b1, b2, Or.inl ⟨b3, b4⟩⟩
/-- not caught here: it goes on to the caller -/
theorem vx_widen {g : JFrame} {q : Addr} {k n : Nat} (h1 : cells ≤ k) (h2 : slots ≤ n) (kk : vx_W p l e R s m args below meth c H locs k n Q g q) : vx_W p l e R s m args below meth c H locs cells slots Q g q := fun T hT X => kk T hT (stand_widen X h1 h2)
theorem vx_out {pc : Nat} {E : String} {ce : Cell} {q : Addr} {mc ms : Nat} (hout : ∀ x ∈ c.exceptionTable.toList, covers x pc = false) (hlocks : meth.locks = false) (hcell : H[q]? = some ce) (hv : ce.vm = .none) (hcl : s.vm.findClass E = some ce.cls)
    (hx : ∀ t : State, t.heap = H → s.vm.Alike t.vm → XC E s t) (hf : ∀ z ∈ locs, free z.base) (hc : cells ≤ mc) (hs : slots ≤ ms) :
    vx_W p l e R s m args below meth c H locs cells slots (vx_MQ below Qc XC args s mc ms free) (F0 m pc ls rest) q := by
  intro T hT X
  obtain ⟨st1, hrun, hend, hW, hsm⟩ := X.leaveThrown q (g := F0 m pc ls rest) rfl rfl rfl hout hlocks
  have hcell9 : (T.setFrames (.throwing q :: below)).heap[q]? = some ce := by
    show T.heap[q]? = some ce
    rw [hT]; exact hcell
  exact ⟨_, st1, .threw q, hrun, hend, Or.inr ⟨q, rfl, E, ce, locs, hx _ hT hW.alike, hcell9, hv, hcl, hW, hsm.mono hc hs, hf⟩⟩
theorem vx_frame {U : State} {k n : Nat} (h : s.sameButNew ({ U with vm := s.vm } : State) locs k n) : s.heap.size ≤ U.heap.size ∧ ∀ q : Nat, q < s.heap.size → (∀ z ∈ locs, z.base ≠ q) → U.heap[q]? = s.heap[q]? := by
  obtain ⟨-, h2, -, -, -, h6⟩ := h
  refine ⟨h2, fun q hq hz => ?_⟩
  obtain ⟨c9, e1, e2, e3, e4⟩ := h6 q _ (Array.getElem?_eq_getElem hq)
  have hs : c9.slots = (s.heap[q]).slots := Array.ext_getElem? fun i => e4 i fun hm => hz _ hm rfl
  have h9 : c9 = s.heap[q] := by
    rw [hs] at e2
    exact e2
  have e5 : U.heap[q]? = some c9 := e1
  rw [e5, h9, Array.getElem?_eq_getElem hq]
/-- the words of a throw but the four that speak of the heap -/
def vx_no (w : Cond) : Bool := decide (w ≠ .isRef (.static Bundle.tN "UNASSIGNED_STACK" Bundle.steD)) && decide (w ≠ .isRef (.static Bundle.tN "SUPPRESSED_SENTINEL" Bundle.listD)) && decide (w ≠ .laysStatic Bundle.tN "UNASSIGNED_STACK" Bundle.steD) && decide (w ≠ .laysStatic Bundle.tN "SUPPRESSED_SENTINEL" Bundle.listD)
def vx_at0 (own : String) (ic : Nat) (X : String) (names : List String) : List Cond := (Bundle.ownAtoms0 own ic X names).filter vx_no
def vx_atS (own : String) (ic : Nat) (X : String) (names : List String) : List Cond := (Bundle.ownAtoms own ic X names).filter vx_no
/-- a word that the tables alone decide, or a good one -/
def vx_ot (w : Cond) : Bool := w.onTables || goodWord w
theorem vx_ot_at {args a' : Array Value} {s U : State} {w : Cond} (hW : s.WarmedH U.vm) (hvm : s.vm = U.vm) (hg : vx_ot w = true) (h : w.before args s = true) : w.before a' U = true := by
  simp only [vx_ot, Bool.or_eq_true] at hg
  rcases hg with hg | hg
  · exact va_tabs hg hvm h
  · exact word_at hW (good_of_word hg) h
/-- a list's words: the good ones out of the method's own list, the others by premises of their own -/
theorem vx_hat {args : Array Value} {s : State} {L B : List Cond} (h1 : ∀ w ∈ L.filter goodWord, w.before args s = true) (h2 : ∀ w ∈ L.filter (fun w => !goodWord w), w ∈ B) (h3 : ∀ w ∈ B, w.before args s = true) : ∀ w ∈ L, w.before args s = true := by
  intro w hw
  by_cases g : goodWord w = true
  · exact h1 w (List.mem_filter.mpr ⟨hw, g⟩)
  · refine h3 w (h2 w (List.mem_filter.mpr ⟨hw, ?_⟩))
    show (!goodWord w) = true
    cases hgw : goodWord w
    · rfl
    · exact absurd hgw g
theorem vx_c {args : Array Value} {s : State} {w : Cond} {B : List Cond} (h : w.before args s = true) (t : ∀ w ∈ B, w.before args s = true) : ∀ w' ∈ w :: B, w'.before args s = true := fun w' h' => (List.mem_cons.mp h').elim (fun e => by rw [e]; exact h) (t w')
theorem vx_n {args : Array Value} {s : State} : ∀ w ∈ ([] : List Cond), w.before args s = true := fun _ h => nomatch h
theorem vx_own {args : Array Value} {s : State} {L : List Cond} (h1 : ∀ w ∈ L.filter vx_no, w.before args s = true)
    (hU : (Cond.isRef (.static Bundle.tN "UNASSIGNED_STACK" Bundle.steD)).before args s = true) (hN : (Cond.isRef (.static Bundle.tN "SUPPRESSED_SENTINEL" Bundle.listD)).before args s = true)
    (lU : (Cond.laysStatic Bundle.tN "UNASSIGNED_STACK" Bundle.steD).before args s = true) (lN : (Cond.laysStatic Bundle.tN "SUPPRESSED_SENTINEL" Bundle.listD).before args s = true) : ∀ w ∈ L, w.before args s = true := by
  intro w hw
  by_cases e1 : w = .isRef (.static Bundle.tN "UNASSIGNED_STACK" Bundle.steD)
  · rw [e1]; exact hU
  · by_cases e2 : w = .isRef (.static Bundle.tN "SUPPRESSED_SENTINEL" Bundle.listD)
    · rw [e2]; exact hN
    · by_cases e3 : w = .laysStatic Bundle.tN "UNASSIGNED_STACK" Bundle.steD
      · rw [e3]; exact lU
      · by_cases e4 : w = .laysStatic Bundle.tN "SUPPRESSED_SENTINEL" Bundle.listD
        · rw [e4]; exact lN
        · exact h1 w (List.mem_filter.mpr ⟨hw, by unfold vx_no; rw [decide_eq_true e1, decide_eq_true e2, decide_eq_true e3, decide_eq_true e4]; rfl⟩)
/-- where a static field lies, its class's statics cell in H -/
def vx_L (C n d : String) (A : Nat → Prop) (U : State) (H : Heap) : Prop := ∃ (c : ClassId) (k : Class) (i : Nat) (f : Field) (a : Nat) (cell : Cell), U.vm.findClass C = some c ∧ U.fieldFound? C n d = some (c, k, i, f) ∧ f.isStatic = true ∧ k.statics = some a ∧ H[a]? = some cell ∧ cell.vm.isStatics = true ∧ cell.cls = c ∧ f.slot < cell.slots.size ∧ k.staticTypes[f.slot]? = some f.type ∧ ¬ A a
theorem vx_L.moved {C n d : String} {A : Nat → Prop} {u U : State} {H : Heap} (hvm : u.vm.Alike U.vm) (h : vx_L C n d A u H) : vx_L C n d A U H := by
  obtain ⟨c, k, i, f, a, cell, h1, h2, h3, h4, h5, h6, h7, h8, h9, h10⟩ := h
  obtain ⟨k', hi', he⟩ := State.fieldFound?_setVm hvm h2
  exact ⟨c, k', i, f, a, cell, by rw [hvm.findClass]; exact h1, hi', h3, by rw [he]; exact h4, h5, h6, h7, h8, by rw [he]; exact h9, h10⟩
theorem vx_L.kept {C n d : String} {A : Nat → Prop} {U : State} {H H1 : Heap} (h : vx_L C n d A U H) (hq : ∀ a : Nat, a < H.size → ¬ A a → H1[a]? = H[a]?) : vx_L C n d A U H1 := by
  obtain ⟨c, k, i, f, a, cell, h1, h2, h3, h4, h5, h6, h7, h8, h9, h10⟩ := h
  exact ⟨c, k, i, f, a, cell, h1, h2, h3, h4, by rw [hq a (Array.getElem?_eq_some_iff.mp h5).1 h10]; exact h5, h6, h7, h8, h9, h10⟩
theorem vx_L.narrow {C n d : String} {A B : Nat → Prop} {U : State} {H : Heap} (h : vx_L C n d A U H) (hAB : ∀ q, B q → A q) : vx_L C n d B U H := by
  obtain ⟨c, k, i, f, a, cell, h1, h2, h3, h4, h5, h6, h7, h8, h9, h10⟩ := h
  exact ⟨c, k, i, f, a, cell, h1, h2, h3, h4, h5, h6, h7, h8, h9, fun z => h10 (hAB _ z)⟩
theorem vx_L.word {C n d : String} {A : Nat → Prop} {s : State} {args : Array Value} (h : vx_L C n d A s s.heap) : (Cond.laysStatic C n d).before args s = true := by
  obtain ⟨c, k, i, f, a, cell, h1, h2, h3, h4, h5, h6, h7, h8, h9, -⟩ := h
  show (Cond.laysStatic C n d).holds args s none s [] = true
  exact Cond.laysStatic_of h1 h2 h3 h4 h5 h6 h7 h8 h9
/-- .. and what it holds: null or some reference -/
def vx_Zq (C n d : String) (A : Nat → Prop) (U : State) (H : Heap) : Prop := va_Zq C n d A U H ∧ vx_L C n d A U H
theorem vx_Zq.moved {C n d : String} {A : Nat → Prop} {u U : State} {H : Heap} (hvm : u.vm.Alike U.vm) (h : vx_Zq C n d A u H) : vx_Zq C n d A U H := ⟨va_Zq.moved hvm h.1, vx_L.moved hvm h.2⟩
theorem vx_Zq.kept {C n d : String} {A : Nat → Prop} {U : State} {H H1 : Heap} (h : vx_Zq C n d A U H) (hq : ∀ a : Nat, a < H.size → ¬ A a → H1[a]? = H[a]?) : vx_Zq C n d A U H1 := ⟨va_Zq.kept h.1 hq, vx_L.kept h.2 hq⟩
theorem vx_Zq.narrow {C n d : String} {A B : Nat → Prop} {U : State} {H : Heap} (h : vx_Zq C n d A U H) (hAB : ∀ q, B q → A q) : vx_Zq C n d B U H := ⟨va_Zq.narrow h.1 hAB, vx_L.narrow h.2 hAB⟩
theorem vx_Zqof {args : Array Value} {s : State} {C n d : String} {A : Nat → Prop} (hl : (Cond.laysStatic C n d).before args s = true) (hini : (Cond.initialized C).before args s = true) (h : (Cond.isRef (.static C n d)).before args s = true) (hA : ∀ a : Nat, a < s.heap.size → ¬ A a) : vx_Zq C n d A s s.heap := by
  refine ⟨va_Zqof hl hini h hA, ?_⟩
  obtain ⟨c, k, i, f, a, cell, h1, h2, h3, h4, h5, h6, h7, h8, h9⟩ := Cond.laysStatic_spec hl
  exact ⟨c, k, i, f, a, cell, h1, h2, h3, h4, h5, h6, h7, h8, h9, hA a (Array.getElem?_eq_some_iff.mp h5).1⟩
theorem vx_isRef {C n d : String} {v : Value} {A : Nat → Prop} {s : State} {args : Array Value} (h : va_Z C n d v A s s.heap) (hv : v.isRef = true) : (Cond.isRef (.static C n d)).before args s = true := by
  obtain ⟨cf, kf, fi, f, a, cell, h1, h2, h3, h4, h5, h6, h7, -⟩ := h
  have he : (Term.static C n d).eval args s none [] s = some v := by
    simp [Term.eval, State.fieldNamed?, h1, h2, h4, h5, h6, h7]
  simp only [Cond.before, Cond.holds, Cond.value, he]
  cases v <;> simp_all [Value.isRef]
theorem vx_isRefq {C n d : String} {A : Nat → Prop} {s : State} {args : Array Value} (h : va_Zq C n d A s s.heap) : (Cond.isRef (.static C n d)).before args s = true := by
  rcases h with h | ⟨t, h⟩
  · exact vx_isRef h rfl
  · exact vx_isRef h rfl
/-- the same frame, seen from here: as if the method were called anew in this heap -/
theorem vx_rebase {T : State} (X : Stand p l e R s m args below meth c T locs cells slots) {R' : Room} (hf : R'.frames ≤ R.frames) (hl : R'.locals ≤ R.locals) (hc : cells + R'.cells ≤ R.cells) (hs : slots + R'.slots ≤ R.slots) :
    Stand p l e R' ((T.setVm s.vm).setFrames (.invoking m args :: below)) m args below meth c T [] 0 0 := by
  have htop : (T.setVm s.vm).topJava?.isSome := X.here.top
  have hF : ((T.setVm s.vm).setFrames (.invoking m args :: below)).frames = .invoking m args :: below := State.frames_setFrames _ (State.cur_lt_of_top htop)
  obtain ⟨g₀, hg0⟩ := Option.isSome_iff_exists.mp htop
  obtain ⟨r, hr⟩ := State.topJava?_eq_some.mp hg0
  have hl9 : e.platform.stackLimits (T.setVm s.vm).me = e.platform.stackLimits s.me := X.limits
  have hb9 : (T.setVm s.vm).me.stackBytes = s.me.stackBytes := X.bytes
  refine ⟨X.admits, X.cas, X.clock, hF, ?_, X.hears, X.method, X.code, X.here, X.tail, X.warmed, ?_, ?_, ?_⟩
  · have h := X.room
    have hU : ((T.setVm s.vm).setFrames (.invoking m args :: below)).localsInUse = s.localsInUse := by
      rw [State.localsInUse_invoking hF (meth := meth) (c := c) X.method X.code, State.localsInUse_invoking X.frames X.method X.code]
    simp only [State.hasRoom, Bool.and_eq_true, decide_eq_true_eq] at h ⊢
    obtain ⟨⟨⟨⟨h1, h2, h3, h4, h5, h6⟩, h7⟩, h8⟩, h9⟩ := h
    rw [X.frames, List.length_cons] at h2 h3
    have q1 := X.heapSize
    have q2 := X.used
    simp only [hF, hU, List.length_cons, State.stackLimits_setFrames, State.stackBytes_setFrames, hl9, hb9]
    refine ⟨⟨⟨⟨by omega, by omega, by omega, by omega, by omega, h6⟩, ?_⟩, ?_⟩, X.book⟩
    · show T.heap.size + R'.cells ≤ e.platform.maxCells
      omega
    · show T.slotsUsed + R'.slots ≤ e.platform.maxSlots
      omega
  · rw [State.stackLimits_setFrames]; rfl
  · rw [State.stackBytes_setFrames]; rfl
  · refine ⟨?_, Nat.le_refl _, Nat.le_refl _, ?_, ?_, fun a c9 h9 => ⟨c9, h9, rfl, rfl, fun _ _ => rfl⟩⟩
    · obtain ⟨t, ht, -⟩ := State.frames_cons hr
      show T.setVm s.vm = { ((T.setVm s.vm).setFrames (.invoking m args :: below)).setFrames (T.setVm s.vm).frames with heap := T.heap, slotsUsed := T.slotsUsed }
      rw [State.setFrames_setFrames, State.setFrames_self ht]
      rfl
    · show T.slotsUsed = T.slotsUsed + ((T.heap.toList.drop T.heap.size).map (·.slots.size)).sum
      rw [List.drop_eq_nil_of_le (Nat.le_of_eq Array.length_toList)]
      rfl
    · show ((T.heap.toList.drop T.heap.size).map (·.slots.size)).sum ≤ 0
      rw [List.drop_eq_nil_of_le (Nat.le_of_eq Array.length_toList)]
      exact Nat.le_refl _
/-- 'throw new E()': new; dup; invokespecial; athrow -/
theorem vx_throw0 {cc : ByteArray} {pc : Nat} (hexec : p.tables.exec = Jvm.exec) (hb : c.code = cc) (hl : l.stackTraces = false) {own cls : String} {names : List String} {ik ic mc ms : Nat} {A : Nat → Prop}
    (hown : s.vm.findClass own = some m.cls) (hcls : Bundle.fit cls = true) (hnames : ∀ n ∈ names, Bundle.fit n = true)
    (hk : (Cond.classLink own ik cls).before args s = true) (hini : (Cond.initialized cls).before args s = true) (hat : ∀ w ∈ vx_at0 own ic cls names, w.before args s = true)
    (hgood : ∀ w ∈ Cond.classLink own ik cls :: Cond.initialized cls :: vx_at0 own ic cls names, vx_ot w = true)
    (hU : vx_Zq Bundle.tN "UNASSIGNED_STACK" Bundle.steD A s s.heap) (hN : vx_Zq Bundle.tN "SUPPRESSED_SENTINEL" Bundle.listD A s s.heap) (hS : va_S A s.heap H locs) (hsize : ls.size = c.maxLocals)
    (d0 : decode cc pc = .ok (.new ik, 3)) (d3 : decode cc (pc + 3) = .ok (.dup, 1)) (d4 : decode cc (pc + 4) = .ok (.invokespecial ic, 3)) (d7 : decode cc (pc + 7) = .ok (.athrow, 1))
    (hout : ∀ x ∈ c.exceptionTable.toList, covers x (pc + 7) = false)
    (hRframes : names.length + 3 < R.frames) (hRlocals : (rest.map fun v => v.category).sum + (13 * (names.length + 1) + 42) ≤ R.locals) (hRcells : cells + 1 ≤ R.cells) (hRslots : slots + 6 ≤ R.slots) (hlocks : meth.locks = false)
    (hx : ∀ t : State, s.vm.Alike t.vm → H.size ≤ t.heap.size → (∀ q : Nat, q < H.size → t.heap[q]? = H[q]?) → XC cls s t)
    (hf : ∀ z ∈ locs, free z.base) (hc : cells + 1 ≤ mc) (hs : slots + 6 ≤ ms) :
    W p l e R s m args below meth c H locs cells slots (vx_MQ below Qc XC args s mc ms free) (F0 m pc ls rest) := by
  intro T hT X
  have htr : e.platform.stackTraces = false := (show e.platform.stackTraces = l.stackTraces by rw [X.admits.platform]).trans hl
  have Y := vx_rebase X (R' := { frames := R.frames, locals := R.locals, cells := 1, slots := 6 }) (Nat.le_refl _) (Nat.le_refl _) hRcells hRslots
  obtain ⟨s', hA⟩ : ∃ z, z = (T.setVm s.vm).setFrames (.invoking m args :: below) := ⟨_, rfl⟩
  rw [← hA] at Y
  have hvm : s'.vm = s.vm := by rw [hA]; rfl
  have hhp : s'.heap = H := by rw [hA]; exact hT
  have hW0 : s.WarmedH s'.vm := by rw [hvm]; exact State.WarmedH.refl s
  have hat' : ∀ w ∈ vx_at0 own ic cls names, w.before args s' = true := fun w hw => vx_ot_at hW0 hvm.symm (hgood w (List.mem_cons_of_mem _ (List.mem_cons_of_mem _ hw))) (hat w hw)
  have hk' : (Cond.classLink own ik cls).before args s' = true := vx_ot_at hW0 hvm.symm (hgood _ List.mem_cons_self) hk
  have hini' : (Cond.initialized cls).before args s' = true := vx_ot_at hW0 hvm.symm (hgood _ (List.mem_cons_of_mem _ List.mem_cons_self)) hini
  have hU' : vx_Zq Bundle.tN "UNASSIGNED_STACK" Bundle.steD A s' s'.heap := by rw [hhp]; exact vx_Zq.moved hW0.alike (hU.kept hS.2.1)
  have hN' : vx_Zq Bundle.tN "SUPPRESSED_SENTINEL" Bundle.listD A s' s'.heap := by rw [hhp]; exact vx_Zq.moved hW0.alike (hN.kept hS.2.1)
  have h : ∀ w ∈ Bundle.ownAtoms0 own ic cls names, w.before args s' = true := vx_own hat' (vx_isRefq hU'.1) (vx_isRefq hN'.1) hU'.2.word hN'.2.word
  have hown' : s'.vm.findClass own = some m.cls := by rw [hvm]; exact hown
  have hins : (Cond.instantiable cls 6).before args s' = true := h _ (by simp [Bundle.ownAtoms0])
  obtain ⟨vm₁, cX, kX, hfX, hkX, -, -, X₁, st1⟩ := Y.newCold hexec (own := own) (C := cls) (index := ik) (n := 6) hown' hk' hins hini'
    (g := F0 m pc ls rest) rfl (by rw [hb]; exact d0) (Nat.le_refl _) (Nat.le_refl _)
  generalize hT1 : (T.setVm vm₁).pushCell { cls := cX, slots := kX.instanceTypes.map defaultValue, vm := .none } = T1 at X₁ st1
  have hcat : (Value.ref T.heap.size).category = 1 := rfl
  have hcellA : T1.heap[T.heap.size]? = some (freshCell cX kX) := by rw [← hT1]; exact State.heap_pushCell_size _ _
  have d3' : decode c.code (pc + 3) = .ok (.dup, 1) := by rw [hb]; exact d3
  obtain ⟨U, hsteps, hrun, hend, hW, hsame, ce, hce, hO⟩ := X₁.ctorThrow0 hexec htr (own := own) (cls := cls) (names := names) (ic := ic) hown' hcls hnames h (fun x hx => nomatch hx) hfX hkX hcellA (by rw [hhp, hT]; exact Nat.le_refl _)
    (g := { method := m, pc := pc + 4, locals := ls, stack := .ref T.heap.size :: .ref T.heap.size :: rest, locked := none }) rfl hsize rfl rfl (rest := rest) rfl
    (by rw [hb]; exact d4) (by rw [hb]; exact d7) hout hRframes (by simp only [List.map_cons, List.sum_cons, hcat]; omega) hlocks
  obtain ⟨f1, f2⟩ := vx_frame hsame
  rw [hhp] at f1 f2
  have hWs : s.WarmedH U.vm := State.WarmedH.trans hW0 hW
  have hcl : s.vm.findClass cls = some ce.cls := by
    have h9 := hO.cls
    rw [hvm] at h9
    exact h9
  have hall : s.sameButNew ({ U with vm := s.vm } : State) locs mc ms := by
    subst hA
    obtain ⟨e1, e2⟩ := hsame
    rw [State.setFrames_setFrames] at e1
    have h2 : (T.setVm s.vm).sameButNew ({ U with vm := s.vm } : State) [] (0 + 1) (0 + 6) := ⟨e1, e2⟩
    have h3 := X.same.trans h2
    rw [List.append_nil] at h3
    exact h3.mono hc hs
  refine ⟨U, ?_, .threw T.heap.size, hrun, hend, Or.inr ⟨T.heap.size, rfl, cls, ce, locs, hx U hWs.alike f1 (fun q hq => f2 q hq (fun z hz => nomatch hz)), hce, hO.vm, hcl, hWs, hall, hf⟩⟩
  refine st1 _ ?_
  show Steps p.tables e below (T1.setTop { method := m, pc := pc + 3, locals := ls, stack := .ref T.heap.size :: rest, locked := none }) _
  jvm_step X₁.here [X₁.here.top, hexec, d3', Value.category]
  exact hsteps
/-- 'throw new E("text")': new; dup; ldc; invokespecial; athrow -/
theorem vx_throwS {cc : ByteArray} {pc : Nat} (hexec : p.tables.exec = Jvm.exec) (hb : c.code = cc) (hl : l.stackTraces = false) {own cls text : String} {names : List String} {ik is ic mc ms sa : Nat} {A : Nat → Prop}
    (hown : s.vm.findClass own = some m.cls) (hcls : Bundle.fit cls = true) (hnames : ∀ n ∈ names, Bundle.fit n = true)
    (hk : (Cond.classLink own ik cls).before args s = true) (hini : (Cond.initialized cls).before args s = true) (hstr : vk_R own is text sa s) (hat : ∀ w ∈ vx_atS own ic cls names, w.before args s = true)
    (hgood : ∀ w ∈ Cond.classLink own ik cls :: Cond.initialized cls :: vx_atS own ic cls names, vx_ot w = true)
    (hU : vx_Zq Bundle.tN "UNASSIGNED_STACK" Bundle.steD A s s.heap) (hN : vx_Zq Bundle.tN "SUPPRESSED_SENTINEL" Bundle.listD A s s.heap) (hS : va_S A s.heap H locs) (hsize : ls.size = c.maxLocals)
    (d0 : decode cc pc = .ok (.new ik, 3)) (d3 : decode cc (pc + 3) = .ok (.dup, 1)) (d4 : decode cc (pc + 4) = .ok (.ldc is, 2)) (d6 : decode cc (pc + 6) = .ok (.invokespecial ic, 3)) (d9 : decode cc (pc + 9) = .ok (.athrow, 1))
    (hout : ∀ x ∈ c.exceptionTable.toList, covers x (pc + 9) = false)
    (hRframes : names.length + 3 < R.frames) (hRlocals : (rest.map fun v => v.category).sum + (13 * (names.length + 1) + 43) ≤ R.locals) (hRcells : cells + 1 ≤ R.cells) (hRslots : slots + 6 ≤ R.slots) (hlocks : meth.locks = false)
    (hx : ∀ t : State, s.vm.Alike t.vm → H.size ≤ t.heap.size → (∀ q : Nat, q < H.size → t.heap[q]? = H[q]?) → XC cls s t)
    (hf : ∀ z ∈ locs, free z.base) (hc : cells + 1 ≤ mc) (hs : slots + 6 ≤ ms) :
    W p l e R s m args below meth c H locs cells slots (vx_MQ below Qc XC args s mc ms free) (F0 m pc ls rest) := by
  intro T hT X
  have htr : e.platform.stackTraces = false := (show e.platform.stackTraces = l.stackTraces by rw [X.admits.platform]).trans hl
  have Y := vx_rebase X (R' := { frames := R.frames, locals := R.locals, cells := 1, slots := 6 }) (Nat.le_refl _) (Nat.le_refl _) hRcells hRslots
  obtain ⟨s', hA⟩ : ∃ z, z = (T.setVm s.vm).setFrames (.invoking m args :: below) := ⟨_, rfl⟩
  rw [← hA] at Y
  have hvm : s'.vm = s.vm := by rw [hA]; rfl
  have hhp : s'.heap = H := by rw [hA]; exact hT
  have hW0 : s.WarmedH s'.vm := by rw [hvm]; exact State.WarmedH.refl s
  have hat' : ∀ w ∈ vx_atS own ic cls names, w.before args s' = true := fun w hw => vx_ot_at hW0 hvm.symm (hgood w (List.mem_cons_of_mem _ (List.mem_cons_of_mem _ hw))) (hat w hw)
  have hk' : (Cond.classLink own ik cls).before args s' = true := vx_ot_at hW0 hvm.symm (hgood _ List.mem_cons_self) hk
  have hini' : (Cond.initialized cls).before args s' = true := vx_ot_at hW0 hvm.symm (hgood _ (List.mem_cons_of_mem _ List.mem_cons_self)) hini
  have hU' : vx_Zq Bundle.tN "UNASSIGNED_STACK" Bundle.steD A s' s'.heap := by rw [hhp]; exact vx_Zq.moved hW0.alike (hU.kept hS.2.1)
  have hN' : vx_Zq Bundle.tN "SUPPRESSED_SENTINEL" Bundle.listD A s' s'.heap := by rw [hhp]; exact vx_Zq.moved hW0.alike (hN.kept hS.2.1)
  have h : ∀ w ∈ Bundle.ownAtoms own ic cls names, w.before args s' = true := vx_own hat' (vx_isRefq hU'.1) (vx_isRefq hN'.1) hU'.2.word hN'.2.word
  have hown' : s'.vm.findClass own = some m.cls := by rw [hvm]; exact hown
  have hins : (Cond.instantiable cls 6).before args s' = true := h _ (by simp [Bundle.ownAtoms])
  obtain ⟨vm₁, cX, kX, hfX, hkX, -, -, X₁, st1⟩ := Y.newCold hexec (own := own) (C := cls) (index := ik) (n := 6) hown' hk' hins hini'
    (g := F0 m pc ls rest) rfl (by rw [hb]; exact d0) (Nat.le_refl _) (Nat.le_refl _)
  generalize hT1 : (T.setVm vm₁).pushCell { cls := cX, slots := kX.instanceTypes.map defaultValue, vm := .none } = T1 at X₁ st1
  have hcat : (Value.ref T.heap.size).category = 1 := rfl
  have hcellA : T1.heap[T.heap.size]? = some (freshCell cX kX) := by rw [← hT1]; exact State.heap_pushCell_size _ _
  have d3' : decode c.code (pc + 3) = .ok (.dup, 1) := by rw [hb]; exact d3
  have d4' : decode c.code (pc + 4) = .ok (.ldc is, 2) := by rw [hb]; exact d4
  have hstr' : vk_R own is text sa s' := vk_R.warm hW0 hstr
  obtain ⟨U, hsteps, hrun, hend, hW, hsame, ce, hce, hO⟩ := X₁.ctorThrowS hexec htr (own := own) (cls := cls) (names := names) (ic := ic) hown' hcls hnames h (fun x hx => nomatch hx) hfX hkX hcellA (by rw [hhp, hT]; exact Nat.le_refl _) (msg := .ref sa) rfl
    (g := { method := m, pc := pc + 6, locals := ls, stack := .ref sa :: .ref T.heap.size :: .ref T.heap.size :: rest, locked := none }) rfl hsize rfl rfl (rest := rest) rfl
    (by rw [hb]; exact d6) (by rw [hb]; exact d9) hout hRframes (by simp only [List.map_cons, List.sum_cons, hcat]; omega) hlocks
  obtain ⟨f1, f2⟩ := vx_frame hsame
  rw [hhp] at f1 f2
  have hWs : s.WarmedH U.vm := State.WarmedH.trans hW0 hW
  have hcl : s.vm.findClass cls = some ce.cls := by
    have h9 := hO.cls
    rw [hvm] at h9
    exact h9
  have hall : s.sameButNew ({ U with vm := s.vm } : State) locs mc ms := by
    subst hA
    obtain ⟨e1, e2⟩ := hsame
    rw [State.setFrames_setFrames] at e1
    have h2 : (T.setVm s.vm).sameButNew ({ U with vm := s.vm } : State) [] (0 + 1) (0 + 6) := ⟨e1, e2⟩
    have h3 := X.same.trans h2
    rw [List.append_nil] at h3
    exact h3.mono hc hs
  refine ⟨U, ?_, .threw T.heap.size, hrun, hend, Or.inr ⟨T.heap.size, rfl, cls, ce, locs, hx U hWs.alike f1 (fun q hq => f2 q hq (fun z hz => nomatch hz)), hce, hO.vm, hcl, hWs, hall, hf⟩⟩
  refine st1 _ ?_
  show Steps p.tables e below (T1.setTop { method := m, pc := pc + 3, locals := ls, stack := .ref T.heap.size :: rest, locked := none }) _
  jvm_step X₁.here [X₁.here.top, hexec, d3', Value.category]
  exact X₁.ldcString hexec (own := own) (text := text) (index := is) (a := sa) hown' hstr'.1 hstr'.2
    (g := { method := m, pc := pc + 4, locals := ls, stack := .ref T.heap.size :: .ref T.heap.size :: rest, locked := none }) rfl d4' _ hsteps
/-- 'throw new E("text")', the text by a wide index -/
theorem vx_throwSW {cc : ByteArray} {pc : Nat} (hexec : p.tables.exec = Jvm.exec) (hb : c.code = cc) (hl : l.stackTraces = false) {own cls text : String} {names : List String} {ik is ic mc ms sa : Nat} {A : Nat → Prop}
    (hown : s.vm.findClass own = some m.cls) (hcls : Bundle.fit cls = true) (hnames : ∀ n ∈ names, Bundle.fit n = true)
    (hk : (Cond.classLink own ik cls).before args s = true) (hini : (Cond.initialized cls).before args s = true) (hstr : vk_R own is text sa s) (hat : ∀ w ∈ vx_atS own ic cls names, w.before args s = true)
    (hgood : ∀ w ∈ Cond.classLink own ik cls :: Cond.initialized cls :: vx_atS own ic cls names, vx_ot w = true)
    (hU : vx_Zq Bundle.tN "UNASSIGNED_STACK" Bundle.steD A s s.heap) (hN : vx_Zq Bundle.tN "SUPPRESSED_SENTINEL" Bundle.listD A s s.heap) (hS : va_S A s.heap H locs) (hsize : ls.size = c.maxLocals)
    (d0 : decode cc pc = .ok (.new ik, 3)) (d3 : decode cc (pc + 3) = .ok (.dup, 1)) (d4 : decode cc (pc + 4) = .ok (.ldc_w is, 3)) (d7 : decode cc (pc + 7) = .ok (.invokespecial ic, 3)) (d10 : decode cc (pc + 10) = .ok (.athrow, 1))
    (hout : ∀ x ∈ c.exceptionTable.toList, covers x (pc + 10) = false)
    (hRframes : names.length + 3 < R.frames) (hRlocals : (rest.map fun v => v.category).sum + (13 * (names.length + 1) + 43) ≤ R.locals) (hRcells : cells + 1 ≤ R.cells) (hRslots : slots + 6 ≤ R.slots) (hlocks : meth.locks = false)
    (hx : ∀ t : State, s.vm.Alike t.vm → H.size ≤ t.heap.size → (∀ q : Nat, q < H.size → t.heap[q]? = H[q]?) → XC cls s t)
    (hf : ∀ z ∈ locs, free z.base) (hc : cells + 1 ≤ mc) (hs : slots + 6 ≤ ms) :
    W p l e R s m args below meth c H locs cells slots (vx_MQ below Qc XC args s mc ms free) (F0 m pc ls rest) := by
  intro T hT X
  have htr : e.platform.stackTraces = false := (show e.platform.stackTraces = l.stackTraces by rw [X.admits.platform]).trans hl
  have Y := vx_rebase X (R' := { frames := R.frames, locals := R.locals, cells := 1, slots := 6 }) (Nat.le_refl _) (Nat.le_refl _) hRcells hRslots
  obtain ⟨s', hA⟩ : ∃ z, z = (T.setVm s.vm).setFrames (.invoking m args :: below) := ⟨_, rfl⟩
  rw [← hA] at Y
  have hvm : s'.vm = s.vm := by rw [hA]; rfl
  have hhp : s'.heap = H := by rw [hA]; exact hT
  have hW0 : s.WarmedH s'.vm := by rw [hvm]; exact State.WarmedH.refl s
  have hat' : ∀ w ∈ vx_atS own ic cls names, w.before args s' = true := fun w hw => vx_ot_at hW0 hvm.symm (hgood w (List.mem_cons_of_mem _ (List.mem_cons_of_mem _ hw))) (hat w hw)
  have hk' : (Cond.classLink own ik cls).before args s' = true := vx_ot_at hW0 hvm.symm (hgood _ List.mem_cons_self) hk
  have hini' : (Cond.initialized cls).before args s' = true := vx_ot_at hW0 hvm.symm (hgood _ (List.mem_cons_of_mem _ List.mem_cons_self)) hini
  have hU' : vx_Zq Bundle.tN "UNASSIGNED_STACK" Bundle.steD A s' s'.heap := by rw [hhp]; exact vx_Zq.moved hW0.alike (hU.kept hS.2.1)
  have hN' : vx_Zq Bundle.tN "SUPPRESSED_SENTINEL" Bundle.listD A s' s'.heap := by rw [hhp]; exact vx_Zq.moved hW0.alike (hN.kept hS.2.1)
  have h : ∀ w ∈ Bundle.ownAtoms own ic cls names, w.before args s' = true := vx_own hat' (vx_isRefq hU'.1) (vx_isRefq hN'.1) hU'.2.word hN'.2.word
  have hown' : s'.vm.findClass own = some m.cls := by rw [hvm]; exact hown
  have hins : (Cond.instantiable cls 6).before args s' = true := h _ (by simp [Bundle.ownAtoms])
  obtain ⟨vm₁, cX, kX, hfX, hkX, -, -, X₁, st1⟩ := Y.newCold hexec (own := own) (C := cls) (index := ik) (n := 6) hown' hk' hins hini'
    (g := F0 m pc ls rest) rfl (by rw [hb]; exact d0) (Nat.le_refl _) (Nat.le_refl _)
  generalize hT1 : (T.setVm vm₁).pushCell { cls := cX, slots := kX.instanceTypes.map defaultValue, vm := .none } = T1 at X₁ st1
  have hcat : (Value.ref T.heap.size).category = 1 := rfl
  have hcellA : T1.heap[T.heap.size]? = some (freshCell cX kX) := by rw [← hT1]; exact State.heap_pushCell_size _ _
  have d3' : decode c.code (pc + 3) = .ok (.dup, 1) := by rw [hb]; exact d3
  have d4' : decode c.code (pc + 4) = .ok (.ldc_w is, 3) := by rw [hb]; exact d4
  have hstr' : vk_R own is text sa s' := vk_R.warm hW0 hstr
  obtain ⟨U, hsteps, hrun, hend, hW, hsame, ce, hce, hO⟩ := X₁.ctorThrowS hexec htr (own := own) (cls := cls) (names := names) (ic := ic) hown' hcls hnames h (fun x hx => nomatch hx) hfX hkX hcellA (by rw [hhp, hT]; exact Nat.le_refl _) (msg := .ref sa) rfl
    (g := { method := m, pc := pc + 7, locals := ls, stack := .ref sa :: .ref T.heap.size :: .ref T.heap.size :: rest, locked := none }) rfl hsize rfl rfl (rest := rest) rfl
    (by rw [hb]; exact d7) (by rw [hb]; exact d10) hout hRframes (by simp only [List.map_cons, List.sum_cons, hcat]; omega) hlocks
  obtain ⟨f1, f2⟩ := vx_frame hsame
  rw [hhp] at f1 f2
  have hWs : s.WarmedH U.vm := State.WarmedH.trans hW0 hW
  have hcl : s.vm.findClass cls = some ce.cls := by
    have h9 := hO.cls
    rw [hvm] at h9
    exact h9
  have hall : s.sameButNew ({ U with vm := s.vm } : State) locs mc ms := by
    subst hA
    obtain ⟨e1, e2⟩ := hsame
    rw [State.setFrames_setFrames] at e1
    have h2 : (T.setVm s.vm).sameButNew ({ U with vm := s.vm } : State) [] (0 + 1) (0 + 6) := ⟨e1, e2⟩
    have h3 := X.same.trans h2
    rw [List.append_nil] at h3
    exact h3.mono hc hs
  refine ⟨U, ?_, .threw T.heap.size, hrun, hend, Or.inr ⟨T.heap.size, rfl, cls, ce, locs, hx U hWs.alike f1 (fun q hq => f2 q hq (fun z hz => nomatch hz)), hce, hO.vm, hcl, hWs, hall, hf⟩⟩
  refine st1 _ ?_
  show Steps p.tables e below (T1.setTop { method := m, pc := pc + 3, locals := ls, stack := .ref T.heap.size :: rest, locked := none }) _
  jvm_step X₁.here [X₁.here.top, hexec, d3', Value.category]
  exact X₁.ldcStringW hexec (own := own) (text := text) (index := is) (a := sa) hown' hstr'.1 hstr'.2
    (g := { method := m, pc := pc + 4, locals := ls, stack := .ref T.heap.size :: .ref T.heap.size :: rest, locked := none }) rfl d4' _ hsteps
end Ends
section Bodies
variable {l : Launch}
theorem vx_ofW {y : MethodName} {ws ws' : List Cond} {rm : Room} {Pc : Array Value → State → Prop} {Qc : Array Value → State → Outcome → State → Prop} {XC : String → State → State → Prop} {mc ms : Nat} {free : Addr → Prop} {cc : ByteArray} {maxL : Nat} {ret : Option FieldType}
    (hy : plainName y.cls = true) (hw : ws = Cond.code y cc maxL ret :: ws')
    (body : ∀ p e s m args below meth c s₁, BodyLoose p l y (headSpec ws rm) cc maxL ret e s m args below meth c s₁ → c.maxLocals = maxL → (∀ x ∈ c.exceptionTable.toList, False) → Pc args s →
      W p l e (headSpec ws rm).room s m args below meth c s.heap [] 0 0 (vx_MQ below Qc XC args s mc ms free) (entryFrame m args maxL)) : vx_Met l y ws rm Pc Qc XC mc ms free := by
  refine MetFree.of_bodyS (code := cc) (maxLocals := maxL) (ret := ret) hy ?_ ?_
  · intro args s m h hn
    obtain ⟨meth, c, h1, h2, h3, h4, h5, h6, -, -⟩ := Cond.code_spec hn (atoms_spec (ws := ws) h _ (by rw [hw]; exact List.mem_cons_self))
    exact ⟨meth, c, h1, h2, h3, h4, h5, h6⟩
  · intro p e s m args below meth c s₁ B hml hP _
    have hh0 : s₁.heap = s.heap := by rw [B.state]; rfl
    have ht : ∀ x ∈ c.exceptionTable.toList, False := by
      obtain ⟨meth9, c9, h1, h2, -, -, -, -, h7, -⟩ := Cond.code_spec B.named (atoms_spec (ws := ws) B.pre _ (by rw [hw]; exact List.mem_cons_self))
      cases Option.some.inj (h1.symm.trans B.method)
      cases Option.some.inj (h2.symm.trans (Stand.of_body B).code)
      intro x hx
      rw [Array.isEmpty_iff.mp h7] at hx
      cases hx
    obtain ⟨t, a1, o, b1, b2, b3⟩ := body p e s m args below meth c s₁ B hml ht hP s₁ hh0 (Stand.of_body B)
    exact ⟨t, o, a1, b1, b2, b3⟩
/-- the table of a body with handlers -/
theorem vx_table {p : Program} {x y : MethodName} {S : Spec} {cc bytes : ByteArray} {maxL maxL' : Nat} {ret ret' : Option FieldType} {e : Env} {s s₁ : State} {m : MethodId} {args : Array Value} {below : List Frame} {meth : Method} {c : Code} {hh : List (Nat × Nat × Nat × Nat)}
    (B : BodyLoose p l y S cc maxL ret e s m args below meth c s₁) (h : (Cond.codeWith y bytes maxL' ret' hh).before args s = true) : c.exceptionTable.toList = tableOf hh := by
  obtain ⟨m9, meth9, c9, hn9, h1, h2, -, -, h6, -⟩ := Cond.codeWith_spec h
  cases Option.some.inj (hn9.symm.trans B.named)
  cases Option.some.inj (h1.symm.trans B.method)
  cases Option.some.inj (h2.symm.trans (Stand.of_body B).code)
  rw [← h6, table_eq]
end Bodies
end VXA
/-! ===== END ===== -/
/-! ===== BEGIN a static call of a method with an exception table ===== -/
section VXS
variable {p : Program} {l : Launch} {e : Env} {R : Room} {s : State} {m : MethodId} {args : Array Value} {below : List Frame} {meth : Method} {c : Code} {T : State} {H : Heap} {locs : List Loc} {cells slots : Nat}
abbrev vx_CSW (R : Room) (s : State) (args : Array Value) (own : String) (index : Nat) (y : MethodName) (bytes : ByteArray) (maxL : Nat) (ret : Option FieldType) (hh : List (Nat × Nat × Nat × Nat)) (ws : List Cond) (rm : Room) (mc ms n : Nat) : Prop :=
  (rm.cells = mc ∧ rm.slots = ms ∧ rm.frames + 1 ≤ R.frames ∧ 8 + (maxL + 11) + rm.locals ≤ R.locals ∧ (∀ w ∈ ws, ∀ (a' : Array Value) (U : State), s.WarmedH U.vm → w.before a' U = true) ∧ Cond.codeWith y bytes maxL ret hh ∈ ws) ∧
  (Cond.codeWith y bytes maxL ret hh).before args s = true ∧ (Cond.initialized y.cls).before args s = true ∧ (y.cls ≠ "java/lang/invoke/MethodHandle" ∧ y.cls ≠ "java/lang/invoke/VarHandle") ∧
  (∀ sig, parseMethodDescriptor y.desc = some sig → n = sig.parameters.length) ∧ (Cond.methodLink own index y).before args s = true ∧ (Cond.static y).before args s = true
theorem vx_cwSW {own : String} {index maxL mc ms : Nat} {y : MethodName} {bytes : ByteArray} {ret : Option FieldType} {hh : List (Nat × Nat × Nat × Nat)} {Ts ws ws' : List Cond} {rm : Room} (n : Nat) (ht : ∀ w ∈ Ts, w.before args s = true) (hT : GoodIn Ts (va_wsS own index y ws)) (hw : ws = Cond.codeWith y bytes maxL ret hh :: ws') (hrc : rm.cells = mc) (hrs : rm.slots = ms)
    (hd : y.cls ≠ "java/lang/invoke/MethodHandle" ∧ y.cls ≠ "java/lang/invoke/VarHandle" ∧ (parseMethodDescriptor y.desc).map (fun d => d.parameters.length) = some n) (hR : rm.frames + 1 ≤ R.frames ∧ 8 + (maxL + 11) + rm.locals ≤ R.locals) :
    vx_CSW R s args own index y bytes maxL ret hh ws rm mc ms n := by
  have ok : ∀ w ∈ va_wsS own index y ws, w.before args s = true := fun w h => ht w (hT w h).1
  have hG : GoodIn Ts ws := fun w h => hT w (by unfold va_wsS; exact List.mem_append_right _ h)
  have hc : Cond.codeWith y bytes maxL ret hh ∈ ws := by rw [hw]; exact List.mem_cons_self
  refine ⟨⟨hrc, hrs, hR.1, hR.2, pay_in ht hG, hc⟩, ht _ (hG _ hc).1, ok _ (by simp [va_wsS]), ⟨hd.1, hd.2.1⟩, fun sig h => ?_, ok _ (by simp [va_wsS]), ok _ (by simp [va_wsS])⟩
  have h2 := hd.2.2
  rw [h] at h2
  exact (Option.some.inj h2).symm
theorem vx_callSW (X : Stand p l e R s m args below meth c T locs cells slots) (hexec : p.tables.exec = Jvm.exec) {own : String} {index : Nat} {y : MethodName} {bytes : ByteArray} {maxL : Nat} {ret : Option FieldType} {hh : List (Nat × Nat × Nat × Nat)}
    (hown : s.vm.findClass own = some m.cls) (hlink : (Cond.methodLink own index y).before args s = true) (hstat : (Cond.static y).before args s = true) (hinit : (Cond.initialized y.cls).before args s = true)
    (hcode : (Cond.codeWith y bytes maxL ret hh).before args s = true) (hy : y.cls ≠ "java/lang/invoke/MethodHandle" ∧ y.cls ≠ "java/lang/invoke/VarHandle")
    {W9 : Nat} {Pre : Pt → Array Value → Prop} {Post : Pt → Array Value → Option Value → Pt → Prop} (hK : Back l R p e below s args y 3 W9 Pre Post)
    {g : JFrame} (hg : g.method = m) (hsize : g.locals.size = c.maxLocals) {argsL rest : List Value} (hlen : ∀ sig, parseMethodDescriptor y.desc = some sig → argsL.length = sig.parameters.length)
    (hstack : g.stack = argsL.reverse ++ rest) (hW : 2 * g.monitorRoom + (rest.map fun v => v.category).sum ≤ W9) (hdg : decode c.code g.pc = .ok (.invokestatic index, 3))
    (hpre : ∀ vm₁, s.WarmedH vm₁ → Pre ⟨T.setVm vm₁, locs, cells, slots⟩ argsL.toArray) :
    ∃ (v : Option Value) (vm₁ : Vm) (B : Pt), s.WarmedH vm₁ ∧ Stand p l e R s m args below meth c B.U B.locs B.cells B.slots ∧ Post ⟨T.setVm vm₁, locs, cells, slots⟩ argsL.toArray v B ∧
      ∀ target, Steps p.tables e below (B.U.setTop { g with pc := g.pc + 3, stack := v.toList ++ rest }) target → Steps p.tables e below (T.setTop g) target := by
  obtain ⟨mk, methM, cM, hnamed, hmethM, -, -, -, -, -, -, hsigM⟩ := Cond.codeWith_spec hcode
  have hstatic : methM.isStatic = true := Cond.static_spec hnamed hmethM hstat
  obtain ⟨kP, hkP, -⟩ := className_of_methodNamed hnamed
  have hinitP : kP.init = .initialized := Cond.initialized_spec (findClass_of_methodNamed hnamed) hkP hinit
  obtain ⟨vm₁, X₁, hstep₁⟩ := X.invokestatic hexec hown hlink hnamed hmethM hstatic hkP hinitP hy (g := g) hg (argsL := argsL) (rest := rest) (hlen _ hsigM) hstack hdg
  obtain ⟨v, B, X', hpost, hsteps⟩ := hK m meth c ⟨T.setVm vm₁, locs, cells, slots⟩ { g with stack := rest } (.invokestatic index) mk argsL.toArray X₁ hg hsize hdg hW (X₁.named hnamed) (hpre vm₁ X₁.warmed)
  exact ⟨v, vm₁, B, X₁.warmed, X', hpost, fun target h => hstep₁ _ fun acts => by rw [doInvoke_state]; exact hsteps.trans h⟩
theorem vx_runSW {y : MethodName} {bytes cc : ByteArray} {maxL nL mc ms n index : Nat} {ret : Option FieldType} {hh : List (Nat × Nat × Nat × Nat)} {ws : List Cond} {rm : Room} {Pc : Array Value → State → Prop} {Qc : Array Value → State → Outcome → State → Prop} {free : Addr → Prop} {Ts : List Cond} {own : String} {As rest : List Value} {g : JFrame}
    (S : CallFix p m c cc nL s args Ts own) (hM : Met l y ws rm Pc Qc mc ms free) (cw : vx_CSW R s args own index y bytes maxL ret hh ws rm mc ms n) (hp : PreS s H Pc As)
    (hg : g.method = m) (hn : As.length = n) (hsize : g.locals.size = nL) (hstack : g.stack = As.reverse ++ rest) (hW : 2 * g.monitorRoom + (rest.map fun v => v.category).sum ≤ 8) (hdg : decode cc g.pc = .ok (.invokestatic index, 3)) (hf : cells + mc ≤ R.cells ∧ slots + ms ≤ R.slots) :
    va_Run p l e R s m args below meth c H locs cells slots mc ms g rest (Qc As.toArray) (free) := by
  obtain ⟨⟨hrc, hrs, hfr, hlo, hws, hcw⟩, hcode, hini, hy, hlen, hl, hstt⟩ := cw
  have hK : Back l R p e below s args y 3 8 (PreOf R mc ms Pc) (PostOf Qc mc ms free) := va_backW (hh := hh) (bytes := bytes) (maxL := maxL) (ret := ret) hM hp.1 hrc hrs hfr hlo hws hcw (fun a' U hW => word_at hW (Or.inl (by first | rfl | simp [Cond.onTables, Cond.keeps, Cond.steady])) hini)
  obtain ⟨hx, hb, hml, ho, -⟩ := S
  intro T hT X
  obtain ⟨v, vm₁, ⟨U', l2, c2, s2⟩, hW₁, X', ⟨g', mk, t, L, e1, e2, hq, h1, hL, h2, h3⟩, st⟩ := vx_callSW X hx (hh := hh) (bytes := bytes) (maxL := maxL) (ret := ret) ho hl hstt hini hcode hy hK hg (hsize.trans hml.symm) (argsL := As) (rest := rest) (fun sig h => hn.trans (hlen sig h)) hstack hW (by rw [hb]; exact hdg)
    (fun vm₁ hW₁ => ⟨hf.1, hf.2, hp.2 (T.setVm vm₁) hT hW₁⟩)
  dsimp only [Pt.U, Pt.locs, Pt.cells, Pt.slots] at X' e1 e2 h1 h2 h3 st
  subst h1; subst h2; subst h3
  exact ⟨v, (T.setVm vm₁).calling g' mk As.toArray, t, U', L, hT, X', hL, e1, e2, hq, st⟩
/-- not caught here, past rows that name other classes: it goes on to the caller -/
theorem vx_outP {p : Program} {l : Launch} {e : Env} {R : Room} {s : State} {m : MethodId} {args : Array Value} {below : List Frame} {meth : Method} {c : Code} {H : Heap} {locs : List Loc} {cells slots : Nat} {free : Addr → Prop} {ls : Array Slot} {rest : List Value} {Qc : Array Value → State → Outcome → State → Prop} {XC : String → State → State → Prop}
    {pc : Nat} {own E : String} {ce : Cell} {q : Addr} {mc ms : Nat} (hown : s.vm.findClass own = some m.cls) (hlocks : meth.locks = false)
    (hpass : ∀ z ∈ c.exceptionTable.toList, covers z pc = false ∨ (z.catchType ≠ 0 ∧ ∃ nm : String, (Cond.classLink own z.catchType nm).before args s = true ∧ va_Nc E nm s)) (hcell : H[q]? = some ce) (hv : ce.vm = .none) (hcl : s.vm.findClass E = some ce.cls)
    (hx : ∀ t : State, t.heap = H → s.vm.Alike t.vm → XC E s t) (hf : ∀ z ∈ locs, free z.base) (hc : cells ≤ mc) (hs : slots ≤ ms) :
    vx_W p l e R s m args below meth c H locs cells slots (vx_MQ below Qc XC args s mc ms free) (F0 m pc ls rest) q := by
  intro T hT X
  have hpl : e.platform.magicAccessors = ({} : Platform).magicAccessors := by rw [X.admits.platform]
  obtain ⟨vm', hW', X', st⟩ := X.outThrough hlocks q (g := F0 m pc ls rest) rfl rfl rfl (cell := ce) (by rw [hT]; exact hcell) (by rw [hv]; rfl)
    (by obtain ⟨k9, h9, -⟩ := Vm.findClass_spec hcl; exact ⟨k9, h9⟩) (fun z hz => by
      rcases hpass z hz with h | ⟨hz0, nm, hl1, hn1⟩
      · exact Or.inl h
      · obtain ⟨c6, hc6, hcl6⟩ := Cond.classLink_spec hown hl1 e.platform hpl
        obtain ⟨a8, b8, h1, h2, h3⟩ := hn1
        cases Option.some.inj (h1.symm.trans hcl)
        cases Option.some.inj (h2.symm.trans hc6)
        exact Or.inr ⟨hz0, _, hcl6, h3⟩)
  obtain ⟨g₀, hfr⟩ := X'.frames_eq
  have hcell9 : ((T.setVm vm').setFrames (.throwing q :: below)).heap[q]? = some ce := by
    show T.heap[q]? = some ce
    rw [hT]; exact hcell
  have hend : Ended ((T.setVm vm').setFrames (.throwing q :: below)) below (.threw q) := State.frames_setFrames _ (State.cur_lt_of_frames hfr)
  refine ⟨(T.setVm vm').setFrames (.throwing q :: below), ?_, .threw q, X'.here.running, hend, Or.inr ⟨q, rfl, E, ce, locs, hx _ hT (X'.ends _).1.alike, hcell9, hv, hcl, (X'.ends _).1, (X'.ends _).2.mono hc hs, hf⟩⟩
  rw [X.pushThrowing_eq]
  exact st
/-- a thing of a world lies in the heap -/
theorem vx_lt {D : va_G} {cl : List vw_C} {ws : va_W} {H1 : Heap} (h : va_P D cl ws H1) {k : Nat} {q : Nat × va_E} (hk : ws[k]? = some q) : q.1 < H1.size := (h k q hk).lt
end VXS
/-! ===== END ===== -/
/-! ===== BEGIN methods with a table of their own: called by a name, returning or throwing ===== -/
section VXH
/-! vx_backW, vx_callVX, vx_callSX, vx_callVW, vx_runVW, vx_runVX, vx_runSX, vx_ofWH follow the same proofs as their sisters above (Free/Laws.lean, Shelf42/LK1.lean); vx_outP calls Shelf42/NT130.lean (outThrough). -/
section
variable {l : Launch} {R : Room} {p : Program} {e : Env} {below : List Frame} {s : State} {sargs : Array Value} {y : MethodName} {len W9 : Nat}
theorem vx_backW {ws : List Cond} {rm : Room} {Pc : Array Value → State → Prop} {Qc : Array Value → State → Outcome → State → Prop} {XC : String → State → State → Prop} {mc ms : Nat} {free : Addr → Prop} {bytes : ByteArray} {maxL : Nat} {ret : Option FieldType} {hh : List (Nat × Nat × Nat × Nat)}
    (hM : vx_Met l y ws rm Pc Qc XC mc ms free) (hblind : FrameBlind Pc) (hrc : rm.cells = mc) (hrs : rm.slots = ms)
    (hframes : rm.frames + 1 ≤ R.frames) (hlocals : W9 + (maxL + 11) + rm.locals ≤ R.locals)
    (hws : ∀ w ∈ ws, ∀ a' U, s.WarmedH U.vm → w.before a' U = true) (hcode : Cond.codeWith y bytes maxL ret hh ∈ ws) (hinit : ∀ a' U, s.WarmedH U.vm → (Cond.initialized y.cls).before a' U = true) :
    vx_Back l R p e below s sargs y len W9 (PreOf R mc ms Pc) (PostOf Qc mc ms free) (vx_Post XC mc ms free) := by
  intro m meth c A g ig mk a X hg hsize hdg hW hn hp
  have h1 : (headSpec ws rm).pre.before a A.U = true := atoms_intro fun w hw => hws w hw _ _ X.warmed
  have h2 : (Cond.codeWith y bytes maxL ret hh).before a A.U = true := hws _ hcode _ _ X.warmed
  have h3 : (Cond.initialized y.cls).before a A.U = true := hinit _ _ X.warmed
  have h4 : A.cells + (headSpec ws rm).room.cells ≤ R.cells := by rw [show (headSpec ws rm).room.cells = mc from hrc]; exact hp.1
  have h5 : A.slots + (headSpec ws rm).room.slots ≤ R.slots := by rw [show (headSpec ws rm).room.slots = ms from hrs]; exact hp.2.1
  have hPc : Pc a (A.U.calling g mk a) := hblind _ _ _ _ hp.2.2
  obtain ⟨U, Ls, c0, s0⟩ := A
  dsimp only [Pt.U, Pt.locs, Pt.cells, Pt.slots] at h1 h2 h3 h4 h5 X hn hPc ⊢
  obtain ⟨m9, methY, cY, hn9, hmY, hcY, -, hlY, -⟩ := Cond.codeWith_spec h2
  cases Option.some.inj (hn9.symm.trans hn)
  obtain ⟨kY, hkY, -⟩ := className_of_methodNamed hn
  have hinitY : kY.init = .initialized := Cond.initialized_spec (findClass_of_methodNamed hn) hkY h3
  have h : At U g.method c below := by rw [hg]; exact X.here
  have hlocals9 : W9 + (maxL + 11) + (headSpec ws rm).room.locals ≤ R.locals := hlocals
  have happ : (headSpec ws rm).appliesLoose y e.platform (U.calling g mk a) = true :=
    Spec.appliesLoose_calling (g := g) h hdg hn hkY hinitY
      (X.room_calling (g := g) (R' := (headSpec ws rm).room) hsize hmY hcY hframes (by rw [hlY]; omega) h4 h5) h1
  obtain ⟨mid, hmid⟩ := h.above
  have hfr : (U.setTop g).frames = (.java g :: mid) ++ below := by rw [State.frames_setTop' g h.top, hmid]; rfl
  obtain ⟨o, s₂, hsteps, -, hend, hq⟩ := Steps.callFree hM p X.admits X.cas X.clock (acts := []) hfr happ hPc trivial
  have hq' : vx_Q Qc XC mc ms free a (U.calling g mk a) o s₂ := hq
  rw [State.frames_setTop' g h.top] at hend
  obtain ⟨g₀, hg0⟩ := Option.isSome_iff_exists.mp h.top
  obtain ⟨r, hr⟩ := State.topJava?_eq_some.mp hg0
  have hr' : (({ U with heap := s₂.heap, slotsUsed := s₂.slotsUsed } : State).setVm s₂.vm).frames = .java g₀ :: r := hr
  rcases hq' with ⟨hqc, L, hfe, hL⟩ | ⟨q, rfl, E, ce, L, hx, hce, hcv, hcl, hW₂, hsm, hL⟩
  · obtain ⟨⟨v, rfl⟩, hW₂, e2, q2, q3, q4, q5, q6⟩ := id hfe
    have e3 : s₂ = ({ (U.calling g mk a).setFrames s₂.frames with heap := s₂.heap, slotsUsed := s₂.slotsUsed } : State).setVm s₂.vm := by
      have : s₂ = ({ s₂ with vm := (U.calling g mk a).vm } : State).setVm s₂.vm := rfl
      rw [e2] at this
      exact this
    obtain ⟨c₂, i₂, len₂, hc₂, hd₂, hf₂⟩ := hend
    have hW' : U.WarmedH s₂.vm := hW₂
    have hcc : c₂ = c := by
      have h1 : s₂.code? g.method = U.code? g.method := by
        rw [State.code?_eq, State.code?_eq, hW'.alike.method?]
      exact Option.some.inj (hc₂.symm.trans (h1.trans h.code))
    subst hcc
    have hlen : len₂ = len := by rw [hdg] at hd₂; cases hd₂; rfl
    subst hlen
    have hs₂ : s₂ = (({ U with heap := s₂.heap, slotsUsed := s₂.slotsUsed } : State).setVm s₂.vm).setTop { g with pc := g.pc + len₂, stack := v.toList ++ g.stack } := by
      refine e3.trans ?_
      rw [hf₂, State.calling_eq h.top, State.setFrames_setFrames, State.setTop_of_frames _ hr', hr]
      rfl
    have hsame : U.sameButNew ({ U with heap := s₂.heap, slotsUsed := s₂.slotsUsed } : State) L mc ms := by
      refine ⟨?_, q2, q3, q4, q5, q6⟩
      obtain ⟨t, ht, -⟩ := State.frames_cons hr
      show ({ U with heap := s₂.heap, slotsUsed := s₂.slotsUsed } : State) = { U.setFrames U.frames with heap := s₂.heap, slotsUsed := s₂.slotsUsed }
      rw [State.setFrames_self ht]
    subst hg
    refine Or.inl ⟨v, ⟨(({ U with heap := s₂.heap, slotsUsed := s₂.slotsUsed } : State).setVm s₂.vm), Ls ++ L, c0 + mc, s0 + ms⟩,
      ⟨X.admits, X.cas, X.clock, X.frames, X.room, X.hears, X.method, X.code, (X.here.setHeapUsed s₂.heap s₂.slotsUsed).setVm hW'.alike, X.tail, State.WarmedH.trans X.warmed hW', X.limits, X.bytes, X.same.trans (hsame.setVm s.vm)⟩,
      ⟨g, mk, s₂, L, rfl, rfl, hqc, rfl, hL, rfl, rfl⟩, ?_⟩
    show Steps p.tables e below _ ((({ U with heap := s₂.heap, slotsUsed := s₂.slotsUsed } : State).setVm s₂.vm).setTop { g with pc := g.pc + len₂, stack := v.toList ++ g.stack })
    rw [← hs₂]
    exact hsteps
  · obtain ⟨e2, q2, q3, q4, q5, q6⟩ := id hsm
    have e3 : s₂ = ({ (U.calling g mk a).setFrames s₂.frames with heap := s₂.heap, slotsUsed := s₂.slotsUsed } : State).setVm s₂.vm := by
      have : s₂ = ({ s₂ with vm := (U.calling g mk a).vm } : State).setVm s₂.vm := rfl
      rw [e2] at this
      exact this
    have hf₂ : s₂.frames = .throwing q :: .java g :: U.frames.tail := hend
    have hW' : U.WarmedH s₂.vm := hW₂
    have hs₂ : s₂ = ((({ U with heap := s₂.heap, slotsUsed := s₂.slotsUsed } : State).setVm s₂.vm).setTop g).pushFrame (.throwing q) := by
      refine e3.trans ?_
      rw [hf₂, State.calling_eq h.top, State.setFrames_setFrames, State.pushFrame, State.frames_setTop _ hr', State.setTop_of_frames _ hr', State.setFrames_setFrames, hr]
      rfl
    have hsame : U.sameButNew ({ U with heap := s₂.heap, slotsUsed := s₂.slotsUsed } : State) L mc ms := by
      refine ⟨?_, q2, q3, q4, q5, q6⟩
      obtain ⟨t, ht, -⟩ := State.frames_cons hr
      show ({ U with heap := s₂.heap, slotsUsed := s₂.slotsUsed } : State) = { U.setFrames U.frames with heap := s₂.heap, slotsUsed := s₂.slotsUsed }
      rw [State.setFrames_self ht]
    subst hg
    refine Or.inr ⟨q, ⟨(({ U with heap := s₂.heap, slotsUsed := s₂.slotsUsed } : State).setVm s₂.vm), Ls ++ L, c0 + mc, s0 + ms⟩,
      ⟨X.admits, X.cas, X.clock, X.frames, X.room, X.hears, X.method, X.code, (X.here.setHeapUsed s₂.heap s₂.slotsUsed).setVm hW'.alike, X.tail, State.WarmedH.trans X.warmed hW', X.limits, X.bytes, X.same.trans (hsame.setVm s.vm)⟩,
      ⟨g, mk, s₂, L, E, ce, rfl, rfl, hx, hce, hcv, hcl, rfl, hL, rfl, rfl⟩, ?_⟩
    show Steps p.tables e below _ (((({ U with heap := s₂.heap, slotsUsed := s₂.slotsUsed } : State).setVm s₂.vm).setTop g).pushFrame (.throwing q))
    rw [← hs₂]
    exact hsteps
end
variable {p : Program} {l : Launch} {e : Env} {R : Room} {s : State} {m : MethodId} {args : Array Value} {below : List Frame} {meth : Method} {c : Code} {T : State} {H : Heap} {locs : List Loc} {cells slots : Nat}
theorem vx_callVX (X : Stand p l e R s m args below meth c T locs cells slots) (hexec : p.tables.exec = Jvm.exec) {own C : String} {index : Nat} {y : MethodName} {bytes : ByteArray} {maxL : Nat} {ret : Option FieldType} {hh : List (Nat × Nat × Nat × Nat)}
    (hown : s.vm.findClass own = some m.cls) (hlink : (Cond.methodLink own index y).before args s = true) (hinst : (Cond.instanceMethod y).before args s = true) (hsel : (Cond.selects C y y).before args s = true)
    (hcode : (Cond.codeWith y bytes maxL ret hh).before args s = true) (hy : y.cls ≠ "java/lang/invoke/MethodHandle" ∧ y.cls ≠ "java/lang/invoke/VarHandle")
    {W9 : Nat} {Pre : Pt → Array Value → Prop} {Post : Pt → Array Value → Option Value → Pt → Prop} {PostX : Pt → Array Value → Addr → Pt → Prop} (hK : vx_Back l R p e below s args y 3 W9 Pre Post PostX)
    {b : Addr} {cellB : Cell} (hcell : T.heap[b]? = some cellB) (hobj : cellB.vm.isStatics = false) (hcls : s.vm.findClass C = some cellB.cls)
    {g : JFrame} (hg : g.method = m) (hsize : g.locals.size = c.maxLocals) {argsL rest : List Value} (hlen : ∀ sig, parseMethodDescriptor y.desc = some sig → argsL.length = sig.parameters.length)
    (hstack : g.stack = argsL.reverse ++ .ref b :: rest) (hW : 2 * g.monitorRoom + (rest.map fun v => v.category).sum ≤ W9) (hdg : decode c.code g.pc = .ok (.invokevirtual index, 3))
    (hpre : ∀ vm₁, s.WarmedH vm₁ → Pre ⟨T.setVm vm₁, locs, cells, slots⟩ (Value.ref b :: argsL).toArray) :
    (∃ (v : Option Value) (vm₁ : Vm) (B : Pt), s.WarmedH vm₁ ∧ Stand p l e R s m args below meth c B.U B.locs B.cells B.slots ∧ Post ⟨T.setVm vm₁, locs, cells, slots⟩ (Value.ref b :: argsL).toArray v B ∧
      ∀ target, Steps p.tables e below (B.U.setTop { g with pc := g.pc + 3, stack := v.toList ++ rest }) target → Steps p.tables e below (T.setTop g) target) ∨
    (∃ (q : Addr) (vm₁ : Vm) (B : Pt), s.WarmedH vm₁ ∧ Stand p l e R s m args below meth c B.U B.locs B.cells B.slots ∧ PostX ⟨T.setVm vm₁, locs, cells, slots⟩ (Value.ref b :: argsL).toArray q B ∧
      Steps p.tables e below (T.setTop g) ((B.U.setTop { g with stack := rest }).pushFrame (.throwing q))) := by
  obtain ⟨mk, methM, hnamed, hmethM, hstM, habM⟩ := Cond.instanceMethod_spec hinst
  obtain ⟨m8, methM', cM, hn8, hmethM', -, -, -, -, -, -, hsigM⟩ := Cond.codeWith_spec hcode
  cases Option.some.inj (hn8.symm.trans hnamed)
  cases hmethM.symm.trans hmethM'
  obtain ⟨c2, r2, m2, q1, q2, q3, q4, kP, hkP, hkPi⟩ := Cond.selects_spec hsel
  cases hcls.symm.trans q1
  cases (State.methodFound?_of_named hnamed hy).symm.trans q2
  cases hnamed.symm.trans q3
  have hselP : selectMethod e.platform s.vm cellB.cls mk = .method mk := by rw [Launch.admits_selectMethod X.admits]; exact q4
  obtain ⟨vm₁, X₁, hstep₁⟩ := X.invokevirtual hexec hown hlink hnamed hmethM hstM hkP hkPi hy (a := b) (cell := cellB) hcell
    (fun z h => by rw [h] at hobj; cases hobj) hselP hmethM habM hkP hkPi (g := g) hg (argsL := argsL) (rest := rest) (hlen _ hsigM) hstack hdg
  rcases hK m meth c ⟨T.setVm vm₁, locs, cells, slots⟩ { g with stack := rest } (.invokevirtual index) mk (Value.ref b :: argsL).toArray X₁ hg hsize hdg hW (X₁.named hnamed) (hpre vm₁ X₁.warmed) with ⟨v, B, X', hpost, hsteps⟩ | ⟨q, B, X', hpost, hsteps⟩
  · exact Or.inl ⟨v, vm₁, B, X₁.warmed, X', hpost, fun target h => hstep₁ _ fun acts => by rw [doInvoke_state]; exact hsteps.trans h⟩
  · exact Or.inr ⟨q, vm₁, B, X₁.warmed, X', hpost, hstep₁ _ fun acts => by rw [doInvoke_state]; exact hsteps⟩
theorem vx_callSX (X : Stand p l e R s m args below meth c T locs cells slots) (hexec : p.tables.exec = Jvm.exec) {own : String} {index : Nat} {y : MethodName} {bytes : ByteArray} {maxL : Nat} {ret : Option FieldType} {hh : List (Nat × Nat × Nat × Nat)}
    (hown : s.vm.findClass own = some m.cls) (hlink : (Cond.methodLink own index y).before args s = true) (hstat : (Cond.static y).before args s = true) (hinit : (Cond.initialized y.cls).before args s = true)
    (hcode : (Cond.codeWith y bytes maxL ret hh).before args s = true) (hy : y.cls ≠ "java/lang/invoke/MethodHandle" ∧ y.cls ≠ "java/lang/invoke/VarHandle")
    {W9 : Nat} {Pre : Pt → Array Value → Prop} {Post : Pt → Array Value → Option Value → Pt → Prop} {PostX : Pt → Array Value → Addr → Pt → Prop} (hK : vx_Back l R p e below s args y 3 W9 Pre Post PostX)
    {g : JFrame} (hg : g.method = m) (hsize : g.locals.size = c.maxLocals) {argsL rest : List Value} (hlen : ∀ sig, parseMethodDescriptor y.desc = some sig → argsL.length = sig.parameters.length)
    (hstack : g.stack = argsL.reverse ++ rest) (hW : 2 * g.monitorRoom + (rest.map fun v => v.category).sum ≤ W9) (hdg : decode c.code g.pc = .ok (.invokestatic index, 3))
    (hpre : ∀ vm₁, s.WarmedH vm₁ → Pre ⟨T.setVm vm₁, locs, cells, slots⟩ argsL.toArray) :
    (∃ (v : Option Value) (vm₁ : Vm) (B : Pt), s.WarmedH vm₁ ∧ Stand p l e R s m args below meth c B.U B.locs B.cells B.slots ∧ Post ⟨T.setVm vm₁, locs, cells, slots⟩ argsL.toArray v B ∧
      ∀ target, Steps p.tables e below (B.U.setTop { g with pc := g.pc + 3, stack := v.toList ++ rest }) target → Steps p.tables e below (T.setTop g) target) ∨
    (∃ (q : Addr) (vm₁ : Vm) (B : Pt), s.WarmedH vm₁ ∧ Stand p l e R s m args below meth c B.U B.locs B.cells B.slots ∧ PostX ⟨T.setVm vm₁, locs, cells, slots⟩ argsL.toArray q B ∧
      Steps p.tables e below (T.setTop g) ((B.U.setTop { g with stack := rest }).pushFrame (.throwing q))) := by
  obtain ⟨mk, methM, cM, hnamed, hmethM, -, -, -, -, -, -, hsigM⟩ := Cond.codeWith_spec hcode
  have hstatic : methM.isStatic = true := Cond.static_spec hnamed hmethM hstat
  obtain ⟨kP, hkP, -⟩ := className_of_methodNamed hnamed
  have hinitP : kP.init = .initialized := Cond.initialized_spec (findClass_of_methodNamed hnamed) hkP hinit
  obtain ⟨vm₁, X₁, hstep₁⟩ := X.invokestatic hexec hown hlink hnamed hmethM hstatic hkP hinitP hy (g := g) hg (argsL := argsL) (rest := rest) (hlen _ hsigM) hstack hdg
  rcases hK m meth c ⟨T.setVm vm₁, locs, cells, slots⟩ { g with stack := rest } (.invokestatic index) mk argsL.toArray X₁ hg hsize hdg hW (X₁.named hnamed) (hpre vm₁ X₁.warmed) with ⟨v, B, X', hpost, hsteps⟩ | ⟨q, B, X', hpost, hsteps⟩
  · exact Or.inl ⟨v, vm₁, B, X₁.warmed, X', hpost, fun target h => hstep₁ _ fun acts => by rw [doInvoke_state]; exact hsteps.trans h⟩
  · exact Or.inr ⟨q, vm₁, B, X₁.warmed, X', hpost, hstep₁ _ fun acts => by rw [doInvoke_state]; exact hsteps⟩
theorem vx_callVW (X : Stand p l e R s m args below meth c T locs cells slots) (hexec : p.tables.exec = Jvm.exec) {own C : String} {index : Nat} {y : MethodName} {bytes : ByteArray} {maxL : Nat} {ret : Option FieldType} {hh : List (Nat × Nat × Nat × Nat)}
    (hown : s.vm.findClass own = some m.cls) (hlink : (Cond.methodLink own index y).before args s = true) (hinst : (Cond.instanceMethod y).before args s = true) (hsel : (Cond.selects C y y).before args s = true)
    (hcode : (Cond.codeWith y bytes maxL ret hh).before args s = true) (hy : y.cls ≠ "java/lang/invoke/MethodHandle" ∧ y.cls ≠ "java/lang/invoke/VarHandle")
    {W9 : Nat} {Pre : Pt → Array Value → Prop} {Post : Pt → Array Value → Option Value → Pt → Prop} (hK : Back l R p e below s args y 3 W9 Pre Post)
    {b : Addr} {cellB : Cell} (hcell : T.heap[b]? = some cellB) (hobj : cellB.vm.isStatics = false) (hcls : s.vm.findClass C = some cellB.cls)
    {g : JFrame} (hg : g.method = m) (hsize : g.locals.size = c.maxLocals) {argsL rest : List Value} (hlen : ∀ sig, parseMethodDescriptor y.desc = some sig → argsL.length = sig.parameters.length)
    (hstack : g.stack = argsL.reverse ++ .ref b :: rest) (hW : 2 * g.monitorRoom + (rest.map fun v => v.category).sum ≤ W9) (hdg : decode c.code g.pc = .ok (.invokevirtual index, 3))
    (hpre : ∀ vm₁, s.WarmedH vm₁ → Pre ⟨T.setVm vm₁, locs, cells, slots⟩ (Value.ref b :: argsL).toArray) :
    ∃ (v : Option Value) (vm₁ : Vm) (B : Pt), s.WarmedH vm₁ ∧ Stand p l e R s m args below meth c B.U B.locs B.cells B.slots ∧ Post ⟨T.setVm vm₁, locs, cells, slots⟩ (Value.ref b :: argsL).toArray v B ∧
      ∀ target, Steps p.tables e below (B.U.setTop { g with pc := g.pc + 3, stack := v.toList ++ rest }) target → Steps p.tables e below (T.setTop g) target := by
  obtain ⟨mk, methM, hnamed, hmethM, hstM, habM⟩ := Cond.instanceMethod_spec hinst
  obtain ⟨m8, methM', cM, hn8, hmethM', -, -, -, -, -, -, hsigM⟩ := Cond.codeWith_spec hcode
  cases Option.some.inj (hn8.symm.trans hnamed)
  cases hmethM.symm.trans hmethM'
  obtain ⟨c2, r2, m2, q1, q2, q3, q4, kP, hkP, hkPi⟩ := Cond.selects_spec hsel
  cases hcls.symm.trans q1
  cases (State.methodFound?_of_named hnamed hy).symm.trans q2
  cases hnamed.symm.trans q3
  have hselP : selectMethod e.platform s.vm cellB.cls mk = .method mk := by rw [Launch.admits_selectMethod X.admits]; exact q4
  obtain ⟨vm₁, X₁, hstep₁⟩ := X.invokevirtual hexec hown hlink hnamed hmethM hstM hkP hkPi hy (a := b) (cell := cellB) hcell
    (fun z h => by rw [h] at hobj; cases hobj) hselP hmethM habM hkP hkPi (g := g) hg (argsL := argsL) (rest := rest) (hlen _ hsigM) hstack hdg
  obtain ⟨v, B, X', hpost, hsteps⟩ := hK m meth c ⟨T.setVm vm₁, locs, cells, slots⟩ { g with stack := rest } (.invokevirtual index) mk (Value.ref b :: argsL).toArray X₁ hg hsize hdg hW (X₁.named hnamed) (hpre vm₁ X₁.warmed)
  exact ⟨v, vm₁, B, X₁.warmed, X', hpost, fun target h => hstep₁ _ fun acts => by rw [doInvoke_state]; exact hsteps.trans h⟩
abbrev vx_CVW (R : Room) (s : State) (args : Array Value) (own C : String) (index : Nat) (y : MethodName) (bytes : ByteArray) (maxL : Nat) (ret : Option FieldType) (hh : List (Nat × Nat × Nat × Nat)) (ws : List Cond) (rm : Room) (mc ms n : Nat) : Prop :=
  (rm.cells = mc ∧ rm.slots = ms ∧ rm.frames + 1 ≤ R.frames ∧ 8 + (maxL + 11) + rm.locals ≤ R.locals ∧ (∀ w ∈ ws, ∀ (a' : Array Value) (U : State), s.WarmedH U.vm → w.before a' U = true) ∧ Cond.codeWith y bytes maxL ret hh ∈ ws) ∧
  (Cond.codeWith y bytes maxL ret hh).before args s = true ∧ (Cond.initialized y.cls).before args s = true ∧ (y.cls ≠ "java/lang/invoke/MethodHandle" ∧ y.cls ≠ "java/lang/invoke/VarHandle") ∧
  (∀ sig, parseMethodDescriptor y.desc = some sig → n = sig.parameters.length) ∧ (Cond.methodLink own index y).before args s = true ∧ (Cond.instanceMethod y).before args s = true ∧ (Cond.selects C y y).before args s = true
theorem vx_cwVW {own C : String} {index maxL mc ms : Nat} {y : MethodName} {bytes : ByteArray} {ret : Option FieldType} {hh : List (Nat × Nat × Nat × Nat)} {Ts ws ws' : List Cond} {rm : Room} (n : Nat) (ht : ∀ w ∈ Ts, w.before args s = true) (hT : GoodIn Ts (wsV own index C y ws)) (hw : ws = Cond.codeWith y bytes maxL ret hh :: ws') (hrc : rm.cells = mc) (hrs : rm.slots = ms)
    (hd : y.cls = C ∧ y.cls ≠ "java/lang/invoke/MethodHandle" ∧ y.cls ≠ "java/lang/invoke/VarHandle" ∧ (parseMethodDescriptor y.desc).map (fun d => d.parameters.length) = some n) (hR : rm.frames + 1 ≤ R.frames ∧ 8 + (maxL + 11) + rm.locals ≤ R.locals) :
    vx_CVW R s args own C index y bytes maxL ret hh ws rm mc ms n := by
  obtain ⟨hC, hd⟩ := hd
  subst hC
  have ok : ∀ w ∈ wsV own index y.cls y ws, w.before args s = true := fun w h => ht w (hT w h).1
  have hG : GoodIn Ts ws := fun w h => hT w (by unfold wsV; exact List.mem_append_right _ h)
  have hc : Cond.codeWith y bytes maxL ret hh ∈ ws := by rw [hw]; exact List.mem_cons_self
  refine ⟨⟨hrc, hrs, hR.1, hR.2, pay_in ht hG, hc⟩, ht _ (hG _ hc).1, ok _ (by simp [wsV]), ⟨hd.1, hd.2.1⟩, fun sig h => ?_, ok _ (by simp [wsV]), ok _ (by simp [wsV]), ok _ (by simp [wsV])⟩
  have h2 := hd.2.2
  rw [h] at h2
  exact (Option.some.inj h2).symm
theorem vx_runVW {y : MethodName} {bytes cc : ByteArray} {maxL nL mc ms n index : Nat} {ret : Option FieldType} {hh : List (Nat × Nat × Nat × Nat)} {ws : List Cond} {rm : Room} {Pc : Array Value → State → Prop} {Qc : Array Value → State → Outcome → State → Prop} {free : Addr → Prop} {Ts : List Cond} {own C : String} {b : Addr} {As rest : List Value} {g : JFrame}
    (S : CallFix p m c cc nL s args Ts own) (hM : Met l y ws rm Pc Qc mc ms free) (cw : vx_CVW R s args own C index y bytes maxL ret hh ws rm mc ms n) (hp : PreV s H C b Pc As)
    (hg : g.method = m) (hn : As.length = n) (hsize : g.locals.size = nL) (hstack : g.stack = As.reverse ++ .ref b :: rest) (hW : 2 * g.monitorRoom + (rest.map fun v => v.category).sum ≤ 8) (hdg : decode cc g.pc = .ok (.invokevirtual index, 3)) (hf : cells + mc ≤ R.cells ∧ slots + ms ≤ R.slots) :
    va_Run p l e R s m args below meth c H locs cells slots mc ms g rest (Qc (Value.ref b :: As).toArray) free := by
  obtain ⟨⟨hrc, hrs, hfr, hlo, hws, hcw⟩, hcode, hini, hy, hlen, hl, hin, hse⟩ := cw
  have hK : Back l R p e below s args y 3 8 (PreOf R mc ms Pc) (PostOf Qc mc ms free) := va_backW (hh := hh) (bytes := bytes) (maxL := maxL) (ret := ret) hM hp.1 hrc hrs hfr hlo hws hcw (fun a' U hW => word_at hW (Or.inl (by first | rfl | simp [Cond.onTables, Cond.keeps, Cond.steady])) hini)
  obtain ⟨hx, hb, hml, ho, -⟩ := S
  obtain ⟨-, ⟨cellB, hcB, hoB, hclB⟩, hPc⟩ := hp
  intro T hT X
  obtain ⟨v, vm₁, ⟨U', l2, c2, s2⟩, hW₁, X', ⟨g', mk, t, L, e1, e2, hq, h1, hL, h2, h3⟩, st⟩ := vx_callVW X hx (C := C) (hh := hh) (bytes := bytes) (maxL := maxL) (ret := ret) ho hl hin hse hcode hy hK (by rw [hT]; exact hcB) hoB hclB hg (hsize.trans hml.symm) (argsL := As) (rest := rest) (fun sig h => hn.trans (hlen sig h)) hstack hW (by rw [hb]; exact hdg)
    (fun vm₁ hW₁ => ⟨hf.1, hf.2, hPc (T.setVm vm₁) hT hW₁⟩)
  dsimp only [Pt.U, Pt.locs, Pt.cells, Pt.slots] at X' e1 e2 h1 h2 h3 st
  subst h1; subst h2; subst h3
  exact ⟨v, (T.setVm vm₁).calling g' mk (Value.ref b :: As).toArray, t, U', L, hT, X', hL, e1, e2, hq, st⟩
section
variable {y : MethodName} {bytes cc : ByteArray} {maxL nL mc ms n index : Nat} {ret : Option FieldType} {ws : List Cond} {rm : Room} {Pc : Array Value → State → Prop} {Qc : Array Value → State → Outcome → State → Prop} {XC : String → State → State → Prop} {free : Addr → Prop} {Ts : List Cond} {own C : String} {b : Addr} {As rest : List Value} {g : JFrame}
theorem vx_runVX {hh : List (Nat × Nat × Nat × Nat)} (S : CallFix p m c cc nL s args Ts own) (hM : vx_Met l y ws rm Pc Qc XC mc ms free) (cw : vx_CVW R s args own C index y bytes maxL ret hh ws rm mc ms n) (hp : PreV s H C b Pc As)
    (hg : g.method = m) (hn : As.length = n) (hsize : g.locals.size = nL) (hstack : g.stack = As.reverse ++ .ref b :: rest) (hW : 2 * g.monitorRoom + (rest.map fun v => v.category).sum ≤ 8) (hdg : decode cc g.pc = .ok (.invokevirtual index, 3)) (hf : cells + mc ≤ R.cells ∧ slots + ms ≤ R.slots) :
    vx_Run p l e R s m args below meth c H locs cells slots mc ms g rest (Qc (Value.ref b :: As).toArray) XC free := by
  obtain ⟨⟨hrc, hrs, hfr, hlo, hws, hcw⟩, hcode, hini, hy, hlen, hl, hin, hse⟩ := cw
  have hK : vx_Back l R p e below s args y 3 8 (PreOf R mc ms Pc) (PostOf Qc mc ms free) (vx_Post XC mc ms free) := vx_backW (hh := hh) (bytes := bytes) (maxL := maxL) (ret := ret) hM hp.1 hrc hrs hfr hlo hws hcw (fun a' U hW => word_at hW (Or.inl (by first | rfl | simp [Cond.onTables, Cond.keeps, Cond.steady])) hini)
  obtain ⟨hx, hb, hml, ho, -⟩ := S
  obtain ⟨-, ⟨cellB, hcB, hoB, hclB⟩, hPc⟩ := hp
  intro T hT X
  rcases vx_callVX X hx (C := C) (hh := hh) (bytes := bytes) (maxL := maxL) (ret := ret) ho hl hin hse hcode hy hK (by rw [hT]; exact hcB) hoB hclB hg (hsize.trans hml.symm) (argsL := As) (rest := rest) (fun sig h => hn.trans (hlen sig h)) hstack hW (by rw [hb]; exact hdg)
    (fun vm₁ hW₁ => ⟨hf.1, hf.2, hPc (T.setVm vm₁) hT hW₁⟩) with ⟨v, vm₁, ⟨U', l2, c2, s2⟩, hW₁, X', ⟨g', mk, t, L, e1, e2, hq, h1, hL, h2, h3⟩, st⟩ | ⟨q, vm₁, ⟨U', l2, c2, s2⟩, hW₁, X', ⟨g', mk, t, L, E, ce, e1, e2, hq, hce, hcv, hcl, h1, hL, h2, h3⟩, st⟩
  · dsimp only [Pt.U, Pt.locs, Pt.cells, Pt.slots] at X' e1 e2 h1 h2 h3 st
    subst h1; subst h2; subst h3
    exact Or.inl ⟨v, (T.setVm vm₁).calling g' mk (Value.ref b :: As).toArray, t, U', L, hT, X', hL, e1, e2, hq, st⟩
  · dsimp only [Pt.U, Pt.locs, Pt.cells, Pt.slots] at X' e1 e2 h1 h2 h3 st hcl
    subst h1; subst h2; subst h3
    exact Or.inr ⟨q, (T.setVm vm₁).calling g' mk (Value.ref b :: As).toArray, t, U', L, E, ce, hT, X', hL, e1, e2, hq, hce, hcv, vx_cls hW₁ hcl, st⟩
theorem vx_runSX {hh : List (Nat × Nat × Nat × Nat)} (S : CallFix p m c cc nL s args Ts own) (hM : vx_Met l y ws rm Pc Qc XC mc ms free) (cw : vx_CSW R s args own index y bytes maxL ret hh ws rm mc ms n) (hp : PreS s H Pc As)
    (hg : g.method = m) (hn : As.length = n) (hsize : g.locals.size = nL) (hstack : g.stack = As.reverse ++ rest) (hW : 2 * g.monitorRoom + (rest.map fun v => v.category).sum ≤ 8) (hdg : decode cc g.pc = .ok (.invokestatic index, 3)) (hf : cells + mc ≤ R.cells ∧ slots + ms ≤ R.slots) :
    vx_Run p l e R s m args below meth c H locs cells slots mc ms g rest (Qc As.toArray) XC free := by
  obtain ⟨⟨hrc, hrs, hfr, hlo, hws, hcw⟩, hcode, hini, hy, hlen, hl, hstt⟩ := cw
  have hK : vx_Back l R p e below s args y 3 8 (PreOf R mc ms Pc) (PostOf Qc mc ms free) (vx_Post XC mc ms free) := vx_backW (hh := hh) (bytes := bytes) (maxL := maxL) (ret := ret) hM hp.1 hrc hrs hfr hlo hws hcw (fun a' U hW => word_at hW (Or.inl (by first | rfl | simp [Cond.onTables, Cond.keeps, Cond.steady])) hini)
  obtain ⟨hx, hb, hml, ho, -⟩ := S
  intro T hT X
  rcases vx_callSX X hx (hh := hh) (bytes := bytes) (maxL := maxL) (ret := ret) ho hl hstt hini hcode hy hK hg (hsize.trans hml.symm) (argsL := As) (rest := rest) (fun sig h => hn.trans (hlen sig h)) hstack hW (by rw [hb]; exact hdg)
    (fun vm₁ hW₁ => ⟨hf.1, hf.2, hp.2 (T.setVm vm₁) hT hW₁⟩) with ⟨v, vm₁, ⟨U', l2, c2, s2⟩, hW₁, X', ⟨g', mk, t, L, e1, e2, hq, h1, hL, h2, h3⟩, st⟩ | ⟨q, vm₁, ⟨U', l2, c2, s2⟩, hW₁, X', ⟨g', mk, t, L, E, ce, e1, e2, hq, hce, hcv, hcl, h1, hL, h2, h3⟩, st⟩
  · dsimp only [Pt.U, Pt.locs, Pt.cells, Pt.slots] at X' e1 e2 h1 h2 h3 st
    subst h1; subst h2; subst h3
    exact Or.inl ⟨v, (T.setVm vm₁).calling g' mk As.toArray, t, U', L, hT, X', hL, e1, e2, hq, st⟩
  · dsimp only [Pt.U, Pt.locs, Pt.cells, Pt.slots] at X' e1 e2 h1 h2 h3 st hcl
    subst h1; subst h2; subst h3
    exact Or.inr ⟨q, (T.setVm vm₁).calling g' mk As.toArray, t, U', L, E, ce, hT, X', hL, e1, e2, hq, hce, hcv, vx_cls hW₁ hcl, st⟩
end
end VXH
theorem vx_ofWH {l : Launch} {y : MethodName} {ws ws' : List Cond} {rm : Room} {Pc : Array Value → State → Prop} {Qc : Array Value → State → Outcome → State → Prop} {XC : String → State → State → Prop} {mc ms : Nat} {free : Addr → Prop} {cc : ByteArray} {maxL : Nat} {ret : Option FieldType} {hh : List (Nat × Nat × Nat × Nat)}
    (hy : plainName y.cls = true) (hw : ws = Cond.codeWith y cc maxL ret hh :: ws')
    (body : ∀ p e s m args below meth c s₁, BodyLoose p l y (headSpec ws rm) cc maxL ret e s m args below meth c s₁ → c.maxLocals = maxL → Pc args s →
      W p l e (headSpec ws rm).room s m args below meth c s.heap [] 0 0 (vx_MQ below Qc XC args s mc ms free) (entryFrame m args maxL)) : vx_Met l y ws rm Pc Qc XC mc ms free := by
  refine MetFree.of_bodyS (code := cc) (maxLocals := maxL) (ret := ret) hy ?_ ?_
  · intro args s m h hn
    obtain ⟨m9, meth, c, hn9, h1, h2, h3, h4, -, h5, h6, -⟩ := Cond.codeWith_spec (atoms_spec (ws := ws) h _ (by rw [hw]; exact List.mem_cons_self))
    cases hn.symm.trans hn9
    exact ⟨meth, c, h1, h2, h3, h4, h5, h6⟩
  · intro p e s m args below meth c s₁ B hml hP _
    have hh0 : s₁.heap = s.heap := by rw [B.state]; rfl
    obtain ⟨t, a1, o, b1, b2, b3⟩ := body p e s m args below meth c s₁ B hml hP s₁ hh0 (Stand.of_body B)
    exact ⟨t, o, a1, b1, b2, b3⟩
/-! ===== END ===== -/
end
section
def RX0 : String := "MuseumTill$Member"
def TX0 : u_T := fun k => match k with
  | 0 => ("MuseumTill$Member", "memberships", "I", false)
  | _ => ("MuseumTill$Member", "lastDay", "I", false)
def tyX0 : Nat → FieldType := fun k => match k with
  | 0 => .int
  | _ => .int
abbrev wsX00 : List Cond := u_ws RX0 TX0 2
theorem nmX0 : ∀ a, a < 2 → ∀ b, b < 2 → a ≠ b → (TX0 a).2.1 ≠ (TX0 b).2.1 := by decide +kernel
theorem tyX0_ok : ∀ k, k < 2 → parseFieldDescriptor (TX0 k).2.2.1 = some (tyX0 k) := by decide +kernel
abbrev cX0_init : ByteArray := prog_2_method_1_code
def yX0_init : MethodName := ⟨RX0, "<init>", "()V"⟩
abbrev cX0_belongs : ByteArray := prog_2_method_2_code
def yX0_belongs : MethodName := ⟨RX0, "belongs", "(I)Z"⟩
abbrev cX0_daysLeft : ByteArray := prog_2_method_3_code
def yX0_daysLeft : MethodName := ⟨RX0, "daysLeft", "(I)I"⟩
abbrev cX0_daysEnded : ByteArray := prog_2_method_4_code
def yX0_daysEnded : MethodName := ⟨RX0, "daysEnded", "(I)I"⟩
def RX1 : String := "MuseumTill$Room"
def TX1 : u_T := fun k => match k with
  | 0 => ("MuseumTill$Room", "number", "I", true)
  | 1 => ("MuseumTill$Room", "house", "I", true)
  | 2 => ("MuseumTill$Room", "cap", "I", false)
  | 3 => ("MuseumTill$Room", "isClosed", "Z", false)
  | 4 => ("MuseumTill$Room", "visitors", "I", false)
  | _ => ("MuseumTill$Room", "queue", "Ljava/util/ArrayList;", true)
def tyX1 : Nat → FieldType := fun k => match k with
  | 0 => .int
  | 1 => .int
  | 2 => .int
  | 3 => .boolean
  | 4 => .int
  | _ => .object "java/util/ArrayList"
abbrev wsX10 : List Cond := u_ws RX1 TX1 6
theorem nmX1 : ∀ a, a < 6 → ∀ b, b < 6 → a ≠ b → (TX1 a).2.1 ≠ (TX1 b).2.1 := by decide +kernel
theorem tyX1_ok : ∀ k, k < 6 → parseFieldDescriptor (TX1 k).2.2.1 = some (tyX1 k) := by decide +kernel
abbrev cX1_init : ByteArray := prog_3_method_1_code
def yX1_init : MethodName := ⟨RX1, "<init>", "(I)V"⟩
abbrev cX1_queueUp : ByteArray := prog_3_method_2_code
def yX1_queueUp : MethodName := ⟨RX1, "queueUp", "(LMuseumTill$Ticket;)V"⟩
abbrev cX1_waitingMembers : ByteArray := prog_3_method_3_code
def yX1_waitingMembers : MethodName := ⟨RX1, "waitingMembers", "()I"⟩
abbrev cX1_leaveQueue : ByteArray := prog_3_method_4_code
def yX1_leaveQueue : MethodName := ⟨RX1, "leaveQueue", "(LMuseumTill$Ticket;)V"⟩
def RX2 : String := "MuseumTill$Ticket"
def TX2 : u_T := fun k => match k with
  | 0 => ("MuseumTill$Ticket", "number", "I", true)
  | 1 => ("MuseumTill$Ticket", "sort", "I", true)
  | 2 => ("MuseumTill$Ticket", "house", "I", true)
  | 3 => ("MuseumTill$Ticket", "member", "I", true)
  | 4 => ("MuseumTill$Ticket", "cost", "I", true)
  | 5 => ("MuseumTill$Ticket", "isVoid", "Z", false)
  | 6 => ("MuseumTill$Ticket", "seenRooms", "I", false)
  | 7 => ("MuseumTill$Ticket", "room", "I", false)
  | _ => ("MuseumTill$Ticket", "isWaiting", "Z", false)
def tyX2 : Nat → FieldType := fun k => match k with
  | 0 => .int
  | 1 => .int
  | 2 => .int
  | 3 => .int
  | 4 => .int
  | 5 => .boolean
  | 6 => .int
  | 7 => .int
  | _ => .boolean
abbrev wsX20 : List Cond := u_ws RX2 TX2 9
theorem nmX2 : ∀ a, a < 9 → ∀ b, b < 9 → a ≠ b → (TX2 a).2.1 ≠ (TX2 b).2.1 := by decide +kernel
theorem tyX2_ok : ∀ k, k < 9 → parseFieldDescriptor (TX2 k).2.2.1 = some (tyX2 k) := by decide +kernel
abbrev cX2_init : ByteArray := prog_4_method_1_code
def yX2_init : MethodName := ⟨RX2, "<init>", "(IIIII)V"⟩
abbrev cX2_isFor : ByteArray := prog_4_method_2_code
def yX2_isFor : MethodName := ⟨RX2, "isFor", "(I)Z"⟩
abbrev cX2_isOfMember : ByteArray := prog_4_method_3_code
def yX2_isOfMember : MethodName := ⟨RX2, "isOfMember", "(II)Z"⟩
abbrev cX2_leaveRoom : ByteArray := prog_4_method_4_code
def yX2_leaveRoom : MethodName := ⟨RX2, "leaveRoom", "()V"⟩
def RX3 : String := "MuseumTill$Till"
def TX3 : u_T := fun k => match k with
  | 0 => ("MuseumTill$Till", "ticketPrice", "I", false)
  | 1 => ("MuseumTill$Till", "kept", "I", false)
  | 2 => ("MuseumTill$Till", "fees", "I", false)
  | 3 => ("MuseumTill$Till", "sales", "I", false)
  | _ => ("MuseumTill$Till", "gifts", "I", false)
def tyX3 : Nat → FieldType := fun k => match k with
  | 0 => .int
  | 1 => .int
  | 2 => .int
  | 3 => .int
  | _ => .int
abbrev wsX30 : List Cond := u_ws RX3 TX3 5
theorem nmX3 : ∀ a, a < 5 → ∀ b, b < 5 → a ≠ b → (TX3 a).2.1 ≠ (TX3 b).2.1 := by decide +kernel
theorem tyX3_ok : ∀ k, k < 5 → parseFieldDescriptor (TX3 k).2.2.1 = some (tyX3 k) := by decide +kernel
abbrev cX3_init : ByteArray := prog_5_method_1_code
def yX3_init : MethodName := ⟨RX3, "<init>", "(I)V"⟩
abbrev cX3_bookFee : ByteArray := prog_5_method_2_code
def yX3_bookFee : MethodName := ⟨RX3, "bookFee", "(I)V"⟩
abbrev cX3_bookSale : ByteArray := prog_5_method_3_code
def yX3_bookSale : MethodName := ⟨RX3, "bookSale", "(I)V"⟩
abbrev cX3_bookGift : ByteArray := prog_5_method_4_code
def yX3_bookGift : MethodName := ⟨RX3, "bookGift", "(I)V"⟩
def RX4 : String := "MuseumTill$Work"
def TX4 : u_T := fun k => match k with
  | 0 => ("MuseumTill$Work", "number", "I", true)
  | 1 => ("MuseumTill$Work", "house", "I", true)
  | 2 => ("MuseumTill$Work", "room", "I", false)
  | 3 => ("MuseumTill$Work", "isLent", "Z", false)
  | 4 => ("MuseumTill$Work", "fee", "I", false)
  | 5 => ("MuseumTill$Work", "loanFees", "I", false)
  | 6 => ("MuseumTill$Work", "share", "I", false)
  | _ => ("MuseumTill$Work", "timesSeen", "I", false)
def tyX4 : Nat → FieldType := fun k => match k with
  | 0 => .int
  | 1 => .int
  | 2 => .int
  | 3 => .boolean
  | 4 => .int
  | 5 => .int
  | 6 => .int
  | _ => .int
abbrev wsX40 : List Cond := u_ws RX4 TX4 8
theorem nmX4 : ∀ a, a < 8 → ∀ b, b < 8 → a ≠ b → (TX4 a).2.1 ≠ (TX4 b).2.1 := by decide +kernel
theorem tyX4_ok : ∀ k, k < 8 → parseFieldDescriptor (TX4 k).2.2.1 = some (tyX4 k) := by decide +kernel
abbrev cX4_init : ByteArray := prog_6_method_1_code
def yX4_init : MethodName := ⟨RX4, "<init>", "(ILMuseumTill$Room;)V"⟩
def RX5 : String := "MuseumTill"
def TX5 : u_T := fun k => match k with
  | 0 => ("MuseumTill", "tills", "[LMuseumTill$Till;", true)
  | 1 => ("MuseumTill", "rooms", "[LMuseumTill$Room;", true)
  | 2 => ("MuseumTill", "members", "[LMuseumTill$Member;", true)
  | 3 => ("MuseumTill", "allTickets", "Ljava/util/ArrayList;", true)
  | 4 => ("MuseumTill", "works", "Ljava/util/ArrayList;", true)
  | 5 => ("MuseumTill", "today", "I", false)
  | 6 => ("MuseumTill", "firstOfToday", "I", false)
  | _ => ("MuseumTill", "paidIn", "I", false)
def tyX5 : Nat → FieldType := fun k => match k with
  | 0 => .array (.object "MuseumTill$Till")
  | 1 => .array (.object "MuseumTill$Room")
  | 2 => .array (.object "MuseumTill$Member")
  | 3 => .object "java/util/ArrayList"
  | 4 => .object "java/util/ArrayList"
  | 5 => .int
  | 6 => .int
  | _ => .int
abbrev wsX50 : List Cond := u_ws RX5 TX5 8
theorem nmX5 : ∀ a, a < 8 → ∀ b, b < 8 → a ≠ b → (TX5 a).2.1 ≠ (TX5 b).2.1 := by decide +kernel
theorem tyX5_ok : ∀ k, k < 8 → parseFieldDescriptor (TX5 k).2.2.1 = some (tyX5 k) := by decide +kernel
abbrev cX5_init : ByteArray := prog_1_method_1_code
def yX5_init : MethodName := ⟨RX5, "<init>", "()V"⟩
abbrev cX5_setPrice : ByteArray := prog_1_method_2_code
def yX5_setPrice : MethodName := ⟨RX5, "setPrice", "(II)I"⟩
abbrev cX5_buy : ByteArray := prog_1_method_3_code
def yX5_buy : MethodName := ⟨RX5, "buy", "(I)I"⟩
abbrev cX5_admit : ByteArray := prog_1_method_4_code
def yX5_admit : MethodName := ⟨RX5, "admit", "(IZ)I"⟩
abbrev cX5_giveBack : ByteArray := prog_1_method_5_code
def yX5_giveBack : MethodName := ⟨RX5, "giveBack", "(I)I"⟩
abbrev cX5_join : ByteArray := prog_1_method_6_code
def yX5_join : MethodName := ⟨RX5, "join", "(I)I"⟩
abbrev cX5_setCap : ByteArray := prog_1_method_7_code
def yX5_setCap : MethodName := ⟨RX5, "setCap", "(II)I"⟩
abbrev cX5_close : ByteArray := prog_1_method_8_code
def yX5_close : MethodName := ⟨RX5, "close", "(IZ)I"⟩
abbrev cX5_enter : ByteArray := prog_1_method_9_code
def yX5_enter : MethodName := ⟨RX5, "enter", "(II)Z"⟩
abbrev cX5_goOut : ByteArray := prog_1_method_10_code
def yX5_goOut : MethodName := ⟨RX5, "goOut", "(I)I"⟩
abbrev cX5_addWork : ByteArray := prog_1_method_11_code
def yX5_addWork : MethodName := ⟨RX5, "addWork", "(I)I"⟩
abbrev cX5_hang : ByteArray := prog_1_method_12_code
def yX5_hang : MethodName := ⟨RX5, "hang", "(II)I"⟩
abbrev cX5_lend : ByteArray := prog_1_method_13_code
def yX5_lend : MethodName := ⟨RX5, "lend", "(III)I"⟩
abbrev cX5_bringHome : ByteArray := prog_1_method_14_code
def yX5_bringHome : MethodName := ⟨RX5, "bringHome", "(II)I"⟩
abbrev cX5_setShare : ByteArray := prog_1_method_15_code
def yX5_setShare : MethodName := ⟨RX5, "setShare", "(II)I"⟩
abbrev cX5_sell : ByteArray := prog_1_method_16_code
def yX5_sell : MethodName := ⟨RX5, "sell", "(III)I"⟩
abbrev cX5_give : ByteArray := prog_1_method_17_code
def yX5_give : MethodName := ⟨RX5, "give", "(III)I"⟩
abbrev cX5_advance : ByteArray := prog_1_method_18_code
def yX5_advance : MethodName := ⟨RX5, "advance", "(I)I"⟩
abbrev cX5_day : ByteArray := prog_1_method_19_code
def yX5_day : MethodName := ⟨RX5, "day", "()I"⟩
abbrev cX5_tickets : ByteArray := prog_1_method_20_code
def yX5_tickets : MethodName := ⟨RX5, "tickets", "()I"⟩
abbrev cX5_whereIs : ByteArray := prog_1_method_21_code
def yX5_whereIs : MethodName := ⟨RX5, "whereIs", "(I)I"⟩
abbrev cX5_seen : ByteArray := prog_1_method_22_code
def yX5_seen : MethodName := ⟨RX5, "seen", "(I)I"⟩
abbrev cX5_inside : ByteArray := prog_1_method_23_code
def yX5_inside : MethodName := ⟨RX5, "inside", "(I)I"⟩
abbrev cX5_queued : ByteArray := prog_1_method_24_code
def yX5_queued : MethodName := ⟨RX5, "queued", "(II)I"⟩
abbrev cX5_views : ByteArray := prog_1_method_25_code
def yX5_views : MethodName := ⟨RX5, "views", "(I)I"⟩
abbrev cX5_titleAt : ByteArray := prog_1_method_26_code
def yX5_titleAt : MethodName := ⟨RX5, "titleAt", "(II)I"⟩
abbrev cX5_money : ByteArray := prog_1_method_27_code
def yX5_money : MethodName := ⟨RX5, "money", "(I)I"⟩
abbrev cX5_moneyBySeen : ByteArray := prog_1_method_28_code
def yX5_moneyBySeen : MethodName := ⟨RX5, "moneyBySeen", "(I)I"⟩
abbrev cX5_held : ByteArray := prog_1_method_29_code
def yX5_held : MethodName := ⟨RX5, "held", "()I"⟩
abbrev cX5_takings : ByteArray := prog_1_method_30_code
def yX5_takings : MethodName := ⟨RX5, "takings", "()I"⟩
abbrev cX5_tillAt : ByteArray := prog_1_method_31_code
def yX5_tillAt : MethodName := ⟨RX5, "tillAt", "(I)LMuseumTill$Till;"⟩
abbrev cX5_checkRealHouse : ByteArray := prog_1_method_32_code
def yX5_checkRealHouse : MethodName := ⟨RX5, "checkRealHouse", "(I)V"⟩
abbrev cX5_roomAt : ByteArray := prog_1_method_33_code
def yX5_roomAt : MethodName := ⟨RX5, "roomAt", "(I)LMuseumTill$Room;"⟩
abbrev cX5_memberAt : ByteArray := prog_1_method_34_code
def yX5_memberAt : MethodName := ⟨RX5, "memberAt", "(I)LMuseumTill$Member;"⟩
abbrev cX5_ticketAt : ByteArray := prog_1_method_35_code
def yX5_ticketAt : MethodName := ⟨RX5, "ticketAt", "(I)LMuseumTill$Ticket;"⟩
abbrev cX5_workAt : ByteArray := prog_1_method_36_code
def yX5_workAt : MethodName := ⟨RX5, "workAt", "(I)LMuseumTill$Work;"⟩
abbrev cX5_checkPlace : ByteArray := prog_1_method_37_code
def yX5_checkPlace : MethodName := ⟨RX5, "checkPlace", "(I)V"⟩
abbrev cX5_checkRange : ByteArray := prog_1_method_38_code
def yX5_checkRange : MethodName := ⟨RX5, "checkRange", "(III)V"⟩
abbrev cX5_checkTicketsLeft : ByteArray := prog_1_method_39_code
def yX5_checkTicketsLeft : MethodName := ⟨RX5, "checkTicketsLeft", "()V"⟩
abbrev cX5_checkUsable : ByteArray := prog_1_method_40_code
def yX5_checkUsable : MethodName := ⟨RX5, "checkUsable", "(LMuseumTill$Ticket;)V"⟩
abbrev cX5_issue : ByteArray := prog_1_method_41_code
def yX5_issue : MethodName := ⟨RX5, "issue", "(IIII)I"⟩
abbrev cX5_countOfToday : ByteArray := prog_1_method_42_code
def yX5_countOfToday : MethodName := ⟨RX5, "countOfToday", "(II)I"⟩
abbrev cX5_areClosedFor : ByteArray := prog_1_method_43_code
def yX5_areClosedFor : MethodName := ⟨RX5, "areClosedFor", "(LMuseumTill$Ticket;)Z"⟩
abbrev cX5_letQueueIn : ByteArray := prog_1_method_44_code
def yX5_letQueueIn : MethodName := ⟨RX5, "letQueueIn", "(LMuseumTill$Room;)V"⟩
abbrev cX5_showRoom : ByteArray := prog_1_method_45_code
def yX5_showRoom : MethodName := ⟨RX5, "showRoom", "(LMuseumTill$Ticket;LMuseumTill$Room;)V"⟩
abbrev cX5_payFee : ByteArray := prog_1_method_46_code
def yX5_payFee : MethodName := ⟨RX5, "payFee", "(LMuseumTill$Work;LMuseumTill$Room;)V"⟩
abbrev cX5_sendAllOut : ByteArray := prog_1_method_47_code
def yX5_sendAllOut : MethodName := ⟨RX5, "sendAllOut", "(LMuseumTill$Room;)I"⟩
abbrev cX5_endDay : ByteArray := prog_1_method_48_code
def yX5_endDay : MethodName := ⟨RX5, "endDay", "()V"⟩
abbrev cX5_seenToday : ByteArray := prog_1_method_49_code
def yX5_seenToday : MethodName := ⟨RX5, "seenToday", "(I)I"⟩
abbrev cX5_shareOut : ByteArray := prog_1_method_50_code
def yX5_shareOut : MethodName := ⟨RX5, "shareOut", "(II)V"⟩
abbrev cX5_partOf : ByteArray := prog_1_method_51_code
def yX5_partOf : MethodName := ⟨RX5, "partOf", "(III)I"⟩
abbrev cX5_broughtByTickets : ByteArray := prog_1_method_52_code
def yX5_broughtByTickets : MethodName := ⟨RX5, "broughtByTickets", "(I)I"⟩
abbrev cX5_broughtByMemberships : ByteArray := prog_1_method_53_code
def yX5_broughtByMemberships : MethodName := ⟨RX5, "broughtByMemberships", "(I)I"⟩
def RX6 : String := "MuseumTillModel"
def TX6 : u_T := fun k => match k with
  | 0 => ("MuseumTillModel", "prices", "[I", true)
  | 1 => ("MuseumTillModel", "dayPrice", "I", false)
  | 2 => ("MuseumTillModel", "lastDays", "[I", true)
  | 3 => ("MuseumTillModel", "ticketMany", "I", false)
  | 4 => ("MuseumTillModel", "sorts", "[I", true)
  | 5 => ("MuseumTillModel", "houseOf", "[I", true)
  | 6 => ("MuseumTillModel", "memberOf", "[I", true)
  | 7 => ("MuseumTillModel", "dayOf", "[I", true)
  | 8 => ("MuseumTillModel", "costs", "[I", true)
  | 9 => ("MuseumTillModel", "isVoid", "[Z", true)
  | 10 => ("MuseumTillModel", "places", "[I", true)
  | 11 => ("MuseumTillModel", "cameAt", "[I", true)
  | 12 => ("MuseumTillModel", "cameMany", "I", false)
  | 13 => ("MuseumTillModel", "seenRooms", "[I", true)
  | 14 => ("MuseumTillModel", "caps", "[I", true)
  | 15 => ("MuseumTillModel", "isClosed", "[Z", true)
  | 16 => ("MuseumTillModel", "workMany", "I", false)
  | 17 => ("MuseumTillModel", "homes", "[I", true)
  | 18 => ("MuseumTillModel", "hangs", "[I", true)
  | 19 => ("MuseumTillModel", "isLent", "[Z", true)
  | 20 => ("MuseumTillModel", "fees", "[I", true)
  | 21 => ("MuseumTillModel", "broughtIn", "[I", true)
  | 22 => ("MuseumTillModel", "shares", "[I", true)
  | 23 => ("MuseumTillModel", "viewMany", "[I", true)
  | 24 => ("MuseumTillModel", "accounts", "[I", true)
  | 25 => ("MuseumTillModel", "paidIn", "I", false)
  | 26 => ("MuseumTillModel", "now", "I", false)
  | 27 => ("MuseumTillModel", "thrown", "I", false)
  | 28 => ("MuseumTillModel", "title", "[I", true)
  | _ => ("MuseumTillModel", "titleMany", "I", false)
def tyX6 : Nat → FieldType := fun k => match k with
  | 0 => .array .int
  | 1 => .int
  | 2 => .array .int
  | 3 => .int
  | 4 => .array .int
  | 5 => .array .int
  | 6 => .array .int
  | 7 => .array .int
  | 8 => .array .int
  | 9 => .array .boolean
  | 10 => .array .int
  | 11 => .array .int
  | 12 => .int
  | 13 => .array .int
  | 14 => .array .int
  | 15 => .array .boolean
  | 16 => .int
  | 17 => .array .int
  | 18 => .array .int
  | 19 => .array .boolean
  | 20 => .array .int
  | 21 => .array .int
  | 22 => .array .int
  | 23 => .array .int
  | 24 => .array .int
  | 25 => .int
  | 26 => .int
  | 27 => .int
  | 28 => .array .int
  | _ => .int
abbrev wsX60 : List Cond := u_ws RX6 TX6 30
theorem nmX6 : ∀ a, a < 30 → ∀ b, b < 30 → a ≠ b → (TX6 a).2.1 ≠ (TX6 b).2.1 := by decide +kernel
theorem tyX6_ok : ∀ k, k < 30 → parseFieldDescriptor (TX6 k).2.2.1 = some (tyX6 k) := by decide +kernel
abbrev cX6_init : ByteArray := prog_8_method_1_code
def yX6_init : MethodName := ⟨RX6, "<init>", "()V"⟩
abbrev cX6_thrown : ByteArray := prog_8_method_2_code
def yX6_thrown : MethodName := ⟨RX6, "thrown", "()I"⟩
abbrev cX6_in : ByteArray := prog_8_method_3_code
def yX6_in : MethodName := ⟨RX6, "in", "(III)Z"⟩
abbrev cX6_isHouse : ByteArray := prog_8_method_4_code
def yX6_isHouse : MethodName := ⟨RX6, "isHouse", "(I)Z"⟩
abbrev cX6_isRoom : ByteArray := prog_8_method_5_code
def yX6_isRoom : MethodName := ⟨RX6, "isRoom", "(I)Z"⟩
abbrev cX6_isMember : ByteArray := prog_8_method_6_code
def yX6_isMember : MethodName := ⟨RX6, "isMember", "(I)Z"⟩
abbrev cX6_isTicket : ByteArray := prog_8_method_7_code
def yX6_isTicket : MethodName := ⟨RX6, "isTicket", "(I)Z"⟩
abbrev cX6_isWork : ByteArray := prog_8_method_8_code
def yX6_isWork : MethodName := ⟨RX6, "isWork", "(I)Z"⟩
abbrev cX6_isNow : ByteArray := prog_8_method_9_code
def yX6_isNow : MethodName := ⟨RX6, "isNow", "(I)Z"⟩
abbrev cX6_setPrice : ByteArray := prog_8_method_10_code
def yX6_setPrice : MethodName := ⟨RX6, "setPrice", "(II)I"⟩
abbrev cX6_make : ByteArray := prog_8_method_11_code
def yX6_make : MethodName := ⟨RX6, "make", "(IIII)I"⟩
abbrev cX6_buy : ByteArray := prog_8_method_12_code
def yX6_buy : MethodName := ⟨RX6, "buy", "(I)I"⟩
abbrev cX6_isValid : ByteArray := prog_8_method_13_code
def yX6_isValid : MethodName := ⟨RX6, "isValid", "(I)Z"⟩
abbrev cX6_has : ByteArray := prog_8_method_14_code
def yX6_has : MethodName := ⟨RX6, "has", "(II)I"⟩
abbrev cX6_admit : ByteArray := prog_8_method_15_code
def yX6_admit : MethodName := ⟨RX6, "admit", "(IZ)I"⟩
abbrev cX6_isFor : ByteArray := prog_8_method_16_code
def yX6_isFor : MethodName := ⟨RX6, "isFor", "(II)Z"⟩
abbrev cX6_giveBack : ByteArray := prog_8_method_17_code
def yX6_giveBack : MethodName := ⟨RX6, "giveBack", "(I)I"⟩
abbrev cX6_join : ByteArray := prog_8_method_18_code
def yX6_join : MethodName := ⟨RX6, "join", "(I)I"⟩
abbrev cX6_insideOf : ByteArray := prog_8_method_19_code
def yX6_insideOf : MethodName := ⟨RX6, "insideOf", "(I)I"⟩
abbrev cX6_isAhead : ByteArray := prog_8_method_20_code
def yX6_isAhead : MethodName := ⟨RX6, "isAhead", "(II)Z"⟩
abbrev cX6_inQueue : ByteArray := prog_8_method_21_code
def yX6_inQueue : MethodName := ⟨RX6, "inQueue", "(II)I"⟩
abbrev cX6_see : ByteArray := prog_8_method_22_code
def yX6_see : MethodName := ⟨RX6, "see", "(II)V"⟩
abbrev cX6_letIn : ByteArray := prog_8_method_23_code
def yX6_letIn : MethodName := ⟨RX6, "letIn", "(I)V"⟩
abbrev cX6_setCap : ByteArray := prog_8_method_24_code
def yX6_setCap : MethodName := ⟨RX6, "setCap", "(II)I"⟩
abbrev cX6_clear : ByteArray := prog_8_method_25_code
def yX6_clear : MethodName := ⟨RX6, "clear", "(I)I"⟩
abbrev cX6_close : ByteArray := prog_8_method_26_code
def yX6_close : MethodName := ⟨RX6, "close", "(IZ)I"⟩
abbrev cX6_enter : ByteArray := prog_8_method_27_code
def yX6_enter : MethodName := ⟨RX6, "enter", "(II)Z"⟩
abbrev cX6_goOut : ByteArray := prog_8_method_28_code
def yX6_goOut : MethodName := ⟨RX6, "goOut", "(I)I"⟩
abbrev cX6_addWork : ByteArray := prog_8_method_29_code
def yX6_addWork : MethodName := ⟨RX6, "addWork", "(I)I"⟩
abbrev cX6_areOne : ByteArray := prog_8_method_30_code
def yX6_areOne : MethodName := ⟨RX6, "areOne", "(II)Z"⟩
abbrev cX6_hang : ByteArray := prog_8_method_31_code
def yX6_hang : MethodName := ⟨RX6, "hang", "(II)I"⟩
abbrev cX6_lend : ByteArray := prog_8_method_32_code
def yX6_lend : MethodName := ⟨RX6, "lend", "(III)I"⟩
abbrev cX6_bringHome : ByteArray := prog_8_method_33_code
def yX6_bringHome : MethodName := ⟨RX6, "bringHome", "(II)I"⟩
abbrev cX6_setShare : ByteArray := prog_8_method_34_code
def yX6_setShare : MethodName := ⟨RX6, "setShare", "(II)I"⟩
abbrev cX6_sell : ByteArray := prog_8_method_35_code
def yX6_sell : MethodName := ⟨RX6, "sell", "(III)I"⟩
abbrev cX6_give : ByteArray := prog_8_method_36_code
def yX6_give : MethodName := ⟨RX6, "give", "(III)I"⟩
abbrev cX6_bits : ByteArray := prog_8_method_37_code
def yX6_bits : MethodName := ⟨RX6, "bits", "(I)I"⟩
abbrev cX6_share : ByteArray := prog_8_method_38_code
def yX6_share : MethodName := ⟨RX6, "share", "(II)V"⟩
abbrev cX6_endDay : ByteArray := prog_8_method_39_code
def yX6_endDay : MethodName := ⟨RX6, "endDay", "()V"⟩
abbrev cX6_advance : ByteArray := prog_8_method_40_code
def yX6_advance : MethodName := ⟨RX6, "advance", "(I)I"⟩
abbrev cX6_day : ByteArray := prog_8_method_41_code
def yX6_day : MethodName := ⟨RX6, "day", "()I"⟩
abbrev cX6_tickets : ByteArray := prog_8_method_42_code
def yX6_tickets : MethodName := ⟨RX6, "tickets", "()I"⟩
abbrev cX6_whereIs : ByteArray := prog_8_method_43_code
def yX6_whereIs : MethodName := ⟨RX6, "whereIs", "(I)I"⟩
abbrev cX6_seen : ByteArray := prog_8_method_44_code
def yX6_seen : MethodName := ⟨RX6, "seen", "(I)I"⟩
abbrev cX6_inside : ByteArray := prog_8_method_45_code
def yX6_inside : MethodName := ⟨RX6, "inside", "(I)I"⟩
abbrev cX6_queued : ByteArray := prog_8_method_46_code
def yX6_queued : MethodName := ⟨RX6, "queued", "(II)I"⟩
abbrev cX6_views : ByteArray := prog_8_method_47_code
def yX6_views : MethodName := ⟨RX6, "views", "(I)I"⟩
abbrev cX6_put : ByteArray := prog_8_method_48_code
def yX6_put : MethodName := ⟨RX6, "put", "(I)V"⟩
abbrev cX6_putNumber : ByteArray := prog_8_method_49_code
def yX6_putNumber : MethodName := ⟨RX6, "putNumber", "(I)V"⟩
abbrev cX6_titleAt : ByteArray := prog_8_method_50_code
def yX6_titleAt : MethodName := ⟨RX6, "titleAt", "(II)I"⟩
abbrev cX6_money : ByteArray := prog_8_method_51_code
def yX6_money : MethodName := ⟨RX6, "money", "(I)I"⟩
abbrev cX6_moneyBySeen : ByteArray := prog_8_method_52_code
def yX6_moneyBySeen : MethodName := ⟨RX6, "moneyBySeen", "(I)I"⟩
abbrev cX6_held : ByteArray := prog_8_method_53_code
def yX6_held : MethodName := ⟨RX6, "held", "()I"⟩
abbrev cX6_takings : ByteArray := prog_8_method_54_code
def yX6_takings : MethodName := ⟨RX6, "takings", "()I"⟩
def RJx145de : String := "java/io/Serializable"
def TJx145de : u_T := fun k => match k with
  | _ => ("", "", "", false)
def tyJx145de : Nat → FieldType := fun k => match k with
  | _ => .int
abbrev wsJx145de0 : List Cond := u_ws RJx145de TJx145de 0
theorem nmJx145de : ∀ a, a < 0 → ∀ b, b < 0 → a ≠ b → (TJx145de a).2.1 ≠ (TJx145de b).2.1 := by decide +kernel
theorem tyJx145de_ok : ∀ k, k < 0 → parseFieldDescriptor (TJx145de k).2.2.1 = some (tyJx145de k) := by decide +kernel
def RJ5 : String := "java/lang/AbstractStringBuilder"
def TJ5 : u_T := fun k => match k with
  | _ => ("", "", "", false)
def tyJ5 : Nat → FieldType := fun k => match k with
  | _ => .int
abbrev wsJ50 : List Cond := u_ws RJ5 TJ5 0
theorem nmJ5 : ∀ a, a < 0 → ∀ b, b < 0 → a ≠ b → (TJ5 a).2.1 ≠ (TJ5 b).2.1 := by decide +kernel
theorem tyJ5_ok : ∀ k, k < 0 → parseFieldDescriptor (TJ5 k).2.2.1 = some (tyJ5 k) := by decide +kernel
abbrev cJ5_init_d00df : ByteArray := prog_10_method_2_code
def yJ5_init_d00df : MethodName := ⟨RJ5, "<init>", "(I)V"⟩
abbrev cJ5_length_8abf5 : ByteArray := prog_10_method_6_code
def yJ5_length_8abf5 : MethodName := ⟨RJ5, "length", "()I"⟩
abbrev cJ5_ensureCapacityInternal_d00df : ByteArray := prog_10_method_9_code
def yJ5_ensureCapacityInternal_d00df : MethodName := ⟨RJ5, "ensureCapacityInternal", "(I)V"⟩
abbrev cJ5_newCapacity_0f7a4 : ByteArray := prog_10_method_10_code
def yJ5_newCapacity_0f7a4 : MethodName := ⟨RJ5, "newCapacity", "(I)I"⟩
abbrev cJ5_inflate_da8c8 : ByteArray := prog_10_method_11_code
def yJ5_inflate_da8c8 : MethodName := ⟨RJ5, "inflate", "()V"⟩
abbrev cJ5_charAt_5068e : ByteArray := prog_10_method_14_code
def yJ5_charAt_5068e : MethodName := ⟨RJ5, "charAt", "(I)C"⟩
abbrev cJ5_append_cf1ce : ByteArray := prog_10_method_22_code
def yJ5_append_cf1ce : MethodName := ⟨RJ5, "append", "(Ljava/lang/String;)Ljava/lang/AbstractStringBuilder;"⟩
abbrev cJ5_appendNull_278bc : ByteArray := prog_10_method_26_code
def yJ5_appendNull_278bc : MethodName := ⟨RJ5, "appendNull", "()Ljava/lang/AbstractStringBuilder;"⟩
abbrev cJ5_append_3fe6f : ByteArray := prog_10_method_31_code
def yJ5_append_3fe6f : MethodName := ⟨RJ5, "append", "(C)Ljava/lang/AbstractStringBuilder;"⟩
abbrev cJ5_append_c97b9 : ByteArray := prog_10_method_32_code
def yJ5_append_c97b9 : MethodName := ⟨RJ5, "append", "(I)Ljava/lang/AbstractStringBuilder;"⟩
abbrev cJ5_getValue_6d5f1 : ByteArray := prog_10_method_64_code
def yJ5_getValue_6d5f1 : MethodName := ⟨RJ5, "getValue", "()[B"⟩
abbrev cJ5_isLatin1_aae02 : ByteArray := prog_10_method_68_code
def yJ5_isLatin1_aae02 : MethodName := ⟨RJ5, "isLatin1", "()Z"⟩
abbrev cJ5_inflateIfNeededFor_a7421 : ByteArray := prog_10_method_71_code
def yJ5_inflateIfNeededFor_a7421 : MethodName := ⟨RJ5, "inflateIfNeededFor", "(Ljava/lang/String;)V"⟩
abbrev cJ5_putStringAt_47b60 : ByteArray := prog_10_method_73_code
def yJ5_putStringAt_47b60 : MethodName := ⟨RJ5, "putStringAt", "(ILjava/lang/String;)V"⟩
def RJx2cfe8 : String := "java/lang/Appendable"
def TJx2cfe8 : u_T := fun k => match k with
  | _ => ("", "", "", false)
def tyJx2cfe8 : Nat → FieldType := fun k => match k with
  | _ => .int
abbrev wsJx2cfe80 : List Cond := u_ws RJx2cfe8 TJx2cfe8 0
theorem nmJx2cfe8 : ∀ a, a < 0 → ∀ b, b < 0 → a ≠ b → (TJx2cfe8 a).2.1 ≠ (TJx2cfe8 b).2.1 := by decide +kernel
theorem tyJx2cfe8_ok : ∀ k, k < 0 → parseFieldDescriptor (TJx2cfe8 k).2.2.1 = some (tyJx2cfe8 k) := by decide +kernel
def RJx9f9b0 : String := "java/lang/CharSequence"
def TJx9f9b0 : u_T := fun k => match k with
  | _ => ("", "", "", false)
def tyJx9f9b0 : Nat → FieldType := fun k => match k with
  | _ => .int
abbrev wsJx9f9b00 : List Cond := u_ws RJx9f9b0 TJx9f9b0 0
theorem nmJx9f9b0 : ∀ a, a < 0 → ∀ b, b < 0 → a ≠ b → (TJx9f9b0 a).2.1 ≠ (TJx9f9b0 b).2.1 := by decide +kernel
theorem tyJx9f9b0_ok : ∀ k, k < 0 → parseFieldDescriptor (TJx9f9b0 k).2.2.1 = some (tyJx9f9b0 k) := by decide +kernel
def RJx8e188 : String := "java/lang/Cloneable"
def TJx8e188 : u_T := fun k => match k with
  | _ => ("", "", "", false)
def tyJx8e188 : Nat → FieldType := fun k => match k with
  | _ => .int
abbrev wsJx8e1880 : List Cond := u_ws RJx8e188 TJx8e188 0
theorem nmJx8e188 : ∀ a, a < 0 → ∀ b, b < 0 → a ≠ b → (TJx8e188 a).2.1 ≠ (TJx8e188 b).2.1 := by decide +kernel
theorem tyJx8e188_ok : ∀ k, k < 0 → parseFieldDescriptor (TJx8e188 k).2.2.1 = some (tyJx8e188 k) := by decide +kernel
def RJxb160c : String := "java/lang/Comparable"
def TJxb160c : u_T := fun k => match k with
  | _ => ("", "", "", false)
def tyJxb160c : Nat → FieldType := fun k => match k with
  | _ => .int
abbrev wsJxb160c0 : List Cond := u_ws RJxb160c TJxb160c 0
theorem nmJxb160c : ∀ a, a < 0 → ∀ b, b < 0 → a ≠ b → (TJxb160c a).2.1 ≠ (TJxb160c b).2.1 := by decide +kernel
theorem tyJxb160c_ok : ∀ k, k < 0 → parseFieldDescriptor (TJxb160c k).2.2.1 = some (tyJxb160c k) := by decide +kernel
def RJ6 : String := "java/lang/Integer"
def TJ6 : u_T := fun k => match k with
  | _ => ("", "", "", false)
def tyJ6 : Nat → FieldType := fun k => match k with
  | _ => .int
abbrev wsJ60 : List Cond := u_ws RJ6 TJ6 0
theorem nmJ6 : ∀ a, a < 0 → ∀ b, b < 0 → a ≠ b → (TJ6 a).2.1 ≠ (TJ6 b).2.1 := by decide +kernel
theorem tyJ6_ok : ∀ k, k < 0 → parseFieldDescriptor (TJ6 k).2.2.1 = some (tyJ6 k) := by decide +kernel
abbrev cJ6_getChars_ba4f3 : ByteArray := prog_19_method_12_code
def yJ6_getChars_ba4f3 : MethodName := ⟨RJ6, "getChars", "(II[B)I"⟩
abbrev cJ6_stringSize_0f7a4 : ByteArray := prog_19_method_13_code
def yJ6_stringSize_0f7a4 : MethodName := ⟨RJ6, "stringSize", "(I)I"⟩
abbrev cJ6_bitCount_0f7a4 : ByteArray := prog_19_method_49_code
def yJ6_bitCount_0f7a4 : MethodName := ⟨RJ6, "bitCount", "(I)I"⟩
def RJxab1ab : String := "java/lang/Iterable"
def TJxab1ab : u_T := fun k => match k with
  | _ => ("", "", "", false)
def tyJxab1ab : Nat → FieldType := fun k => match k with
  | _ => .int
abbrev wsJxab1ab0 : List Cond := u_ws RJxab1ab TJxab1ab 0
theorem nmJxab1ab : ∀ a, a < 0 → ∀ b, b < 0 → a ≠ b → (TJxab1ab a).2.1 ≠ (TJxab1ab b).2.1 := by decide +kernel
theorem tyJxab1ab_ok : ∀ k, k < 0 → parseFieldDescriptor (TJxab1ab k).2.2.1 = some (tyJxab1ab k) := by decide +kernel
def RJ9 : String := "java/lang/Math"
def TJ9 : u_T := fun k => match k with
  | _ => ("", "", "", false)
def tyJ9 : Nat → FieldType := fun k => match k with
  | _ => .int
abbrev wsJ90 : List Cond := u_ws RJ9 TJ9 0
theorem nmJ9 : ∀ a, a < 0 → ∀ b, b < 0 → a ≠ b → (TJ9 a).2.1 ≠ (TJ9 b).2.1 := by decide +kernel
theorem tyJ9_ok : ∀ k, k < 0 → parseFieldDescriptor (TJ9 k).2.2.1 = some (tyJ9 k) := by decide +kernel
abbrev cJ9_max_7cf53 : ByteArray := prog_21_method_65_code
def yJ9_max_7cf53 : MethodName := ⟨RJ9, "max", "(II)I"⟩
abbrev cJ9_min_7cf53 : ByteArray := prog_21_method_69_code
def yJ9_min_7cf53 : MethodName := ⟨RJ9, "min", "(II)I"⟩
def RJxd2413 : String := "java/lang/Number"
def TJxd2413 : u_T := fun k => match k with
  | _ => ("", "", "", false)
def tyJxd2413 : Nat → FieldType := fun k => match k with
  | _ => .int
abbrev wsJxd24130 : List Cond := u_ws RJxd2413 TJxd2413 0
theorem nmJxd2413 : ∀ a, a < 0 → ∀ b, b < 0 → a ≠ b → (TJxd2413 a).2.1 ≠ (TJxd2413 b).2.1 := by decide +kernel
theorem tyJxd2413_ok : ∀ k, k < 0 → parseFieldDescriptor (TJxd2413 k).2.2.1 = some (tyJxd2413 k) := by decide +kernel
def RJ0 : String := "java/lang/String"
def TJ0 : u_T := fun k => match k with
  | 0 => ("java/lang/String", "value", "[B", true)
  | 1 => ("java/lang/String", "coder", "B", true)
  | 2 => ("java/lang/String", "hash", "I", false)
  | _ => ("java/lang/String", "hashIsZero", "Z", false)
def tyJ0 : Nat → FieldType := fun k => match k with
  | 0 => .array .byte
  | 1 => .byte
  | 2 => .int
  | _ => .boolean
abbrev wsJ00 : List Cond := u_ws RJ0 TJ0 4
theorem nmJ0 : ∀ a, a < 4 → ∀ b, b < 4 → a ≠ b → (TJ0 a).2.1 ≠ (TJ0 b).2.1 := by decide +kernel
theorem tyJ0_ok : ∀ k, k < 4 → parseFieldDescriptor (TJ0 k).2.2.1 = some (tyJ0 k) := by decide +kernel
abbrev cJ0_init_81219 : ByteArray := prog_24_method_53_code
def yJ0_init_81219 : MethodName := ⟨RJ0, "<init>", "(Ljava/lang/StringBuilder;)V"⟩
abbrev cJ0_length_8abf5 : ByteArray := prog_24_method_54_code
def yJ0_length_8abf5 : MethodName := ⟨RJ0, "length", "()I"⟩
abbrev cJ0_getBytes_840e7 : ByteArray := prog_24_method_147_code
def yJ0_getBytes_840e7 : MethodName := ⟨RJ0, "getBytes", "([BIB)V"⟩
abbrev cJ0_init_db425 : ByteArray := prog_24_method_150_code
def yJ0_init_db425 : MethodName := ⟨RJ0, "<init>", "(Ljava/lang/AbstractStringBuilder;Ljava/lang/Void;)V"⟩
abbrev cJ0_coder_7d493 : ByteArray := prog_24_method_152_code
def yJ0_coder_7d493 : MethodName := ⟨RJ0, "coder", "()B"⟩
abbrev cJ0_checkIndex_df160 : ByteArray := prog_24_method_155_code
def yJ0_checkIndex_df160 : MethodName := ⟨RJ0, "checkIndex", "(II)V"⟩
abbrev cJ0_checkBoundsOffCount_cabcc : ByteArray := prog_24_method_157_code
def yJ0_checkBoundsOffCount_cabcc : MethodName := ⟨RJ0, "checkBoundsOffCount", "(III)I"⟩
abbrev cJ0_checkBoundsBeginEnd_23922 : ByteArray := prog_24_method_158_code
def yJ0_checkBoundsBeginEnd_23922 : MethodName := ⟨RJ0, "checkBoundsBeginEnd", "(III)V"⟩
def RJ4 : String := "java/lang/StringBuilder"
def TJ4 : u_T := fun k => match k with
  | 0 => ("java/lang/AbstractStringBuilder", "value", "[B", false)
  | 1 => ("java/lang/AbstractStringBuilder", "coder", "B", false)
  | 2 => ("java/lang/AbstractStringBuilder", "maybeLatin1", "Z", false)
  | _ => ("java/lang/AbstractStringBuilder", "count", "I", false)
def tyJ4 : Nat → FieldType := fun k => match k with
  | 0 => .array .byte
  | 1 => .byte
  | 2 => .boolean
  | _ => .int
abbrev wsJ40 : List Cond := u_ws RJ4 TJ4 4
theorem nmJ4 : ∀ a, a < 4 → ∀ b, b < 4 → a ≠ b → (TJ4 a).2.1 ≠ (TJ4 b).2.1 := by decide +kernel
theorem tyJ4_ok : ∀ k, k < 4 → parseFieldDescriptor (TJ4 k).2.2.1 = some (tyJ4 k) := by decide +kernel
abbrev cJ4_init_da8c8 : ByteArray := prog_25_method_1_code
def yJ4_init_da8c8 : MethodName := ⟨RJ4, "<init>", "()V"⟩
abbrev cJ4_append_15ec4 : ByteArray := prog_25_method_7_code
def yJ4_append_15ec4 : MethodName := ⟨RJ4, "append", "(Ljava/lang/String;)Ljava/lang/StringBuilder;"⟩
abbrev cJ4_append_cf468 : ByteArray := prog_25_method_14_code
def yJ4_append_cf468 : MethodName := ⟨RJ4, "append", "(C)Ljava/lang/StringBuilder;"⟩
abbrev cJ4_append_bf812 : ByteArray := prog_25_method_15_code
def yJ4_append_bf812 : MethodName := ⟨RJ4, "append", "(I)Ljava/lang/StringBuilder;"⟩
abbrev cJ4_toString_0e30d : ByteArray := prog_25_method_42_code
def yJ4_toString_0e30d : MethodName := ⟨RJ4, "toString", "()Ljava/lang/String;"⟩
abbrev cJ4_charAt_5068e : ByteArray := prog_25_method_88_code
def yJ4_charAt_5068e : MethodName := ⟨RJ4, "charAt", "(I)C"⟩
abbrev cJ4_length_8abf5 : ByteArray := prog_25_method_93_code
def yJ4_length_8abf5 : MethodName := ⟨RJ4, "length", "()I"⟩
def RJ1 : String := "java/lang/StringLatin1"
def TJ1 : u_T := fun k => match k with
  | _ => ("", "", "", false)
def tyJ1 : Nat → FieldType := fun k => match k with
  | _ => .int
abbrev wsJ10 : List Cond := u_ws RJ1 TJ1 0
theorem nmJ1 : ∀ a, a < 0 → ∀ b, b < 0 → a ≠ b → (TJ1 a).2.1 ≠ (TJ1 b).2.1 := by decide +kernel
theorem tyJ1_ok : ∀ k, k < 0 → parseFieldDescriptor (TJ1 k).2.2.1 = some (tyJ1 k) := by decide +kernel
abbrev cJ1_canEncode_fc78d : ByteArray := prog_26_method_3_code
def yJ1_canEncode_fc78d : MethodName := ⟨RJ1, "canEncode", "(C)Z"⟩
abbrev cJ1_inflate_0e8fd : ByteArray := prog_26_method_50_code
def yJ1_inflate_0e8fd : MethodName := ⟨RJ1, "inflate", "([BI[BII)V"⟩
def RJ2 : String := "java/lang/StringUTF16"
def TJ2 : u_T := fun k => match k with
  | _ => ("", "", "", false)
def tyJ2 : Nat → FieldType := fun k => match k with
  | _ => .int
abbrev wsJ20 : List Cond := u_ws RJ2 TJ2 0
theorem nmJ2 : ∀ a, a < 0 → ∀ b, b < 0 → a ≠ b → (TJ2 a).2.1 ≠ (TJ2 b).2.1 := by decide +kernel
theorem tyJ2_ok : ∀ k, k < 0 → parseFieldDescriptor (TJ2 k).2.2.1 = some (tyJ2 k) := by decide +kernel
abbrev cJ2_newBytesFor_77867 : ByteArray := prog_27_method_2_code
def yJ2_newBytesFor_77867 : MethodName := ⟨RJ2, "newBytesFor", "(I)[B"⟩
abbrev cJ2_newBytesLength_0f7a4 : ByteArray := prog_27_method_3_code
def yJ2_newBytesLength_0f7a4 : MethodName := ⟨RJ2, "newBytesLength", "(I)I"⟩
abbrev cJ2_putChar_b72d1 : ByteArray := prog_27_method_4_code
def yJ2_putChar_b72d1 : MethodName := ⟨RJ2, "putChar", "([BII)V"⟩
abbrev cJ2_getChar_3b067 : ByteArray := prog_27_method_5_code
def yJ2_getChar_3b067 : MethodName := ⟨RJ2, "getChar", "([BI)C"⟩
abbrev cJ2_length_9d52b : ByteArray := prog_27_method_6_code
def yJ2_length_9d52b : MethodName := ⟨RJ2, "length", "([B)I"⟩
abbrev cJ2_coderFromArrayLen_85cad : ByteArray := prog_27_method_15_code
def yJ2_coderFromArrayLen_85cad : MethodName := ⟨RJ2, "coderFromArrayLen", "([BI)B"⟩
abbrev cJ2_compress_39247 : ByteArray := prog_27_method_17_code
def yJ2_compress_39247 : MethodName := ⟨RJ2, "compress", "([BII)[B"⟩
abbrev cJ2_compress_5af95 : ByteArray := prog_27_method_22_code
def yJ2_compress_5af95 : MethodName := ⟨RJ2, "compress", "([BI[BII)I"⟩
abbrev cJ2_putCharSB_b72d1 : ByteArray := prog_27_method_71_code
def yJ2_putCharSB_b72d1 : MethodName := ⟨RJ2, "putCharSB", "([BII)V"⟩
abbrev cJ2_getChars_46870 : ByteArray := prog_27_method_77_code
def yJ2_getChars_46870 : MethodName := ⟨RJ2, "getChars", "(III[B)I"⟩
abbrev cJ2_putCharsAt_cd4e5 : ByteArray := prog_27_method_81_code
def yJ2_putCharsAt_cd4e5 : MethodName := ⟨RJ2, "putCharsAt", "([BICCCC)I"⟩
abbrev cJ2_inflate_0e8fd : ByteArray := prog_27_method_86_code
def yJ2_inflate_0e8fd : MethodName := ⟨RJ2, "inflate", "([BI[BII)V"⟩
abbrev cJ2_getChars_ba4f3 : ByteArray := prog_27_method_89_code
def yJ2_getChars_ba4f3 : MethodName := ⟨RJ2, "getChars", "(II[B)I"⟩
abbrev cJ2_checkIndex_2214a : ByteArray := prog_27_method_91_code
def yJ2_checkIndex_2214a : MethodName := ⟨RJ2, "checkIndex", "(I[B)V"⟩
abbrev cJ2_checkBoundsBeginEnd_d044e : ByteArray := prog_27_method_93_code
def yJ2_checkBoundsBeginEnd_d044e : MethodName := ⟨RJ2, "checkBoundsBeginEnd", "(II[B)V"⟩
abbrev cJ2_checkBoundsOffCount_d044e : ByteArray := prog_27_method_94_code
def yJ2_checkBoundsOffCount_d044e : MethodName := ⟨RJ2, "checkBoundsOffCount", "(II[B)V"⟩
def RJ10 : String := "java/lang/System"
def TJ10 : u_T := fun k => match k with
  | _ => ("", "", "", false)
def tyJ10 : Nat → FieldType := fun k => match k with
  | _ => .int
abbrev wsJ100 : List Cond := u_ws RJ10 TJ10 0
theorem nmJ10 : ∀ a, a < 0 → ∀ b, b < 0 → a ≠ b → (TJ10 a).2.1 ≠ (TJ10 b).2.1 := by decide +kernel
theorem tyJ10_ok : ∀ k, k < 0 → parseFieldDescriptor (TJ10 k).2.2.1 = some (tyJ10 k) := by decide +kernel
def RJxfd54e : String := "java/lang/constant/Constable"
def TJxfd54e : u_T := fun k => match k with
  | _ => ("", "", "", false)
def tyJxfd54e : Nat → FieldType := fun k => match k with
  | _ => .int
abbrev wsJxfd54e0 : List Cond := u_ws RJxfd54e TJxfd54e 0
theorem nmJxfd54e : ∀ a, a < 0 → ∀ b, b < 0 → a ≠ b → (TJxfd54e a).2.1 ≠ (TJxfd54e b).2.1 := by decide +kernel
theorem tyJxfd54e_ok : ∀ k, k < 0 → parseFieldDescriptor (TJxfd54e k).2.2.1 = some (tyJxfd54e k) := by decide +kernel
def RJx3cf43 : String := "java/lang/constant/ConstantDesc"
def TJx3cf43 : u_T := fun k => match k with
  | _ => ("", "", "", false)
def tyJx3cf43 : Nat → FieldType := fun k => match k with
  | _ => .int
abbrev wsJx3cf430 : List Cond := u_ws RJx3cf43 TJx3cf43 0
theorem nmJx3cf43 : ∀ a, a < 0 → ∀ b, b < 0 → a ≠ b → (TJx3cf43 a).2.1 ≠ (TJx3cf43 b).2.1 := by decide +kernel
theorem tyJx3cf43_ok : ∀ k, k < 0 → parseFieldDescriptor (TJx3cf43 k).2.2.1 = some (tyJx3cf43 k) := by decide +kernel
def RJxa1e45 : String := "java/util/AbstractCollection"
def TJxa1e45 : u_T := fun k => match k with
  | _ => ("", "", "", false)
def tyJxa1e45 : Nat → FieldType := fun k => match k with
  | _ => .int
abbrev wsJxa1e450 : List Cond := u_ws RJxa1e45 TJxa1e45 0
theorem nmJxa1e45 : ∀ a, a < 0 → ∀ b, b < 0 → a ≠ b → (TJxa1e45 a).2.1 ≠ (TJxa1e45 b).2.1 := by decide +kernel
theorem tyJxa1e45_ok : ∀ k, k < 0 → parseFieldDescriptor (TJxa1e45 k).2.2.1 = some (tyJxa1e45 k) := by decide +kernel
abbrev cJxa1e45_init_da8c8 : ByteArray := prog_32_method_1_code
def yJxa1e45_init_da8c8 : MethodName := ⟨RJxa1e45, "<init>", "()V"⟩
def RJxc12de : String := "java/util/AbstractList"
def TJxc12de : u_T := fun k => match k with
  | _ => ("", "", "", false)
def tyJxc12de : Nat → FieldType := fun k => match k with
  | _ => .int
abbrev wsJxc12de0 : List Cond := u_ws RJxc12de TJxc12de 0
theorem nmJxc12de : ∀ a, a < 0 → ∀ b, b < 0 → a ≠ b → (TJxc12de a).2.1 ≠ (TJxc12de b).2.1 := by decide +kernel
theorem tyJxc12de_ok : ∀ k, k < 0 → parseFieldDescriptor (TJxc12de k).2.2.1 = some (tyJxc12de k) := by decide +kernel
abbrev cJxc12de_init_da8c8 : ByteArray := prog_33_method_1_code
def yJxc12de_init_da8c8 : MethodName := ⟨RJxc12de, "<init>", "()V"⟩
def RJx4a65c : String := "java/util/ArrayList"
def TJx4a65c : u_T := fun k => match k with
  | 0 => ("java/util/AbstractList", "modCount", "I", false)
  | 1 => ("java/util/ArrayList", "elementData", "[Ljava/lang/Object;", false)
  | _ => ("java/util/ArrayList", "size", "I", false)
def tyJx4a65c : Nat → FieldType := fun k => match k with
  | 0 => .int
  | 1 => .array (.object "java/lang/Object")
  | _ => .int
abbrev wsJx4a65c0 : List Cond := u_ws RJx4a65c TJx4a65c 3
theorem nmJx4a65c : ∀ a, a < 3 → ∀ b, b < 3 → a ≠ b → (TJx4a65c a).2.1 ≠ (TJx4a65c b).2.1 := by decide +kernel
theorem tyJx4a65c_ok : ∀ k, k < 3 → parseFieldDescriptor (TJx4a65c k).2.2.1 = some (tyJx4a65c k) := by decide +kernel
abbrev cJx4a65c_init_da8c8 : ByteArray := prog_34_method_2_code
def yJx4a65c_init_da8c8 : MethodName := ⟨RJx4a65c, "<init>", "()V"⟩
abbrev cJx4a65c_grow_92f84 : ByteArray := prog_34_method_6_code
def yJx4a65c_grow_92f84 : MethodName := ⟨RJx4a65c, "grow", "(I)[Ljava/lang/Object;"⟩
abbrev cJx4a65c_grow_d5877 : ByteArray := prog_34_method_7_code
def yJx4a65c_grow_d5877 : MethodName := ⟨RJx4a65c, "grow", "()[Ljava/lang/Object;"⟩
abbrev cJx4a65c_size_8abf5 : ByteArray := prog_34_method_8_code
def yJx4a65c_size_8abf5 : MethodName := ⟨RJx4a65c, "size", "()I"⟩
abbrev cJx4a65c_isEmpty_aae02 : ByteArray := prog_34_method_9_code
def yJx4a65c_isEmpty_aae02 : MethodName := ⟨RJx4a65c, "isEmpty", "()Z"⟩
abbrev cJx4a65c_elementData_915e3 : ByteArray := prog_34_method_18_code
def yJx4a65c_elementData_915e3 : MethodName := ⟨RJx4a65c, "elementData", "(I)Ljava/lang/Object;"⟩
abbrev cJx4a65c_get_915e3 : ByteArray := prog_34_method_20_code
def yJx4a65c_get_915e3 : MethodName := ⟨RJx4a65c, "get", "(I)Ljava/lang/Object;"⟩
abbrev cJx4a65c_add_72be8 : ByteArray := prog_34_method_24_code
def yJx4a65c_add_72be8 : MethodName := ⟨RJx4a65c, "add", "(Ljava/lang/Object;[Ljava/lang/Object;I)V"⟩
abbrev cJx4a65c_add_9ea2d : ByteArray := prog_34_method_25_code
def yJx4a65c_add_9ea2d : MethodName := ⟨RJx4a65c, "add", "(Ljava/lang/Object;)Z"⟩
abbrev cJx4a65c_add_7a177 : ByteArray := prog_34_method_26_code
def yJx4a65c_add_7a177 : MethodName := ⟨RJx4a65c, "add", "(ILjava/lang/Object;)V"⟩
abbrev cJx4a65c_remove_915e3 : ByteArray := prog_34_method_29_code
def yJx4a65c_remove_915e3 : MethodName := ⟨RJx4a65c, "remove", "(I)Ljava/lang/Object;"⟩
abbrev cJx4a65c_fastRemove_b59b0 : ByteArray := prog_34_method_39_code
def yJx4a65c_fastRemove_b59b0 : MethodName := ⟨RJx4a65c, "fastRemove", "([Ljava/lang/Object;I)V"⟩
abbrev cJx4a65c_clear_da8c8 : ByteArray := prog_34_method_40_code
def yJx4a65c_clear_da8c8 : MethodName := ⟨RJx4a65c, "clear", "()V"⟩
abbrev cJx4a65c_rangeCheckForAdd_d00df : ByteArray := prog_34_method_45_code
def yJx4a65c_rangeCheckForAdd_d00df : MethodName := ⟨RJx4a65c, "rangeCheckForAdd", "(I)V"⟩
abbrev cJx4a65c_outOfBoundsMsg_b52d3 : ByteArray := prog_34_method_46_code
def yJx4a65c_outOfBoundsMsg_b52d3 : MethodName := ⟨RJx4a65c, "outOfBoundsMsg", "(I)Ljava/lang/String;"⟩
def RJ7 : String := "java/util/Arrays"
def TJ7 : u_T := fun k => match k with
  | _ => ("", "", "", false)
def tyJ7 : Nat → FieldType := fun k => match k with
  | _ => .int
abbrev wsJ70 : List Cond := u_ws RJ7 TJ7 0
theorem nmJ7 : ∀ a, a < 0 → ∀ b, b < 0 → a ≠ b → (TJ7 a).2.1 ≠ (TJ7 b).2.1 := by decide +kernel
theorem tyJ7_ok : ∀ k, k < 0 → parseFieldDescriptor (TJ7 k).2.2.1 = some (tyJ7 k) := by decide +kernel
abbrev cJ7_copyOf_1904c : ByteArray := prog_35_method_119_code
def yJ7_copyOf_1904c : MethodName := ⟨RJ7, "copyOf", "([Ljava/lang/Object;I)[Ljava/lang/Object;"⟩
abbrev cJ7_copyOf_6403c : ByteArray := prog_35_method_120_code
def yJ7_copyOf_6403c : MethodName := ⟨RJ7, "copyOf", "([Ljava/lang/Object;ILjava/lang/Class;)[Ljava/lang/Object;"⟩
abbrev cJ7_copyOf_9075b : ByteArray := prog_35_method_121_code
def yJ7_copyOf_9075b : MethodName := ⟨RJ7, "copyOf", "([BI)[B"⟩
abbrev cJ7_checkLength_df160 : ByteArray := prog_35_method_131_code
def yJ7_checkLength_df160 : MethodName := ⟨RJ7, "checkLength", "(II)V"⟩
abbrev cJ7_copyOfRange_39247 : ByteArray := prog_35_method_132_code
def yJ7_copyOfRange_39247 : MethodName := ⟨RJ7, "copyOfRange", "([BII)[B"⟩
abbrev cJ7_copyOfRangeByte_39247 : ByteArray := prog_35_method_133_code
def yJ7_copyOfRangeByte_39247 : MethodName := ⟨RJ7, "copyOfRangeByte", "([BII)[B"⟩
def RJx5ef63 : String := "java/util/Collection"
def TJx5ef63 : u_T := fun k => match k with
  | _ => ("", "", "", false)
def tyJx5ef63 : Nat → FieldType := fun k => match k with
  | _ => .int
abbrev wsJx5ef630 : List Cond := u_ws RJx5ef63 TJx5ef63 0
theorem nmJx5ef63 : ∀ a, a < 0 → ∀ b, b < 0 → a ≠ b → (TJx5ef63 a).2.1 ≠ (TJx5ef63 b).2.1 := by decide +kernel
theorem tyJx5ef63_ok : ∀ k, k < 0 → parseFieldDescriptor (TJx5ef63 k).2.2.1 = some (tyJx5ef63 k) := by decide +kernel
def RJxbd725 : String := "java/util/List"
def TJxbd725 : u_T := fun k => match k with
  | _ => ("", "", "", false)
def tyJxbd725 : Nat → FieldType := fun k => match k with
  | _ => .int
abbrev wsJxbd7250 : List Cond := u_ws RJxbd725 TJxbd725 0
theorem nmJxbd725 : ∀ a, a < 0 → ∀ b, b < 0 → a ≠ b → (TJxbd725 a).2.1 ≠ (TJxbd725 b).2.1 := by decide +kernel
theorem tyJxbd725_ok : ∀ k, k < 0 → parseFieldDescriptor (TJxbd725 k).2.2.1 = some (tyJxbd725 k) := by decide +kernel
def RJ15 : String := "java/util/Objects"
def TJ15 : u_T := fun k => match k with
  | _ => ("", "", "", false)
def tyJ15 : Nat → FieldType := fun k => match k with
  | _ => .int
abbrev wsJ150 : List Cond := u_ws RJ15 TJ15 0
theorem nmJ15 : ∀ a, a < 0 → ∀ b, b < 0 → a ≠ b → (TJ15 a).2.1 ≠ (TJ15 b).2.1 := by decide +kernel
theorem tyJ15_ok : ∀ k, k < 0 → parseFieldDescriptor (TJ15 k).2.2.1 = some (tyJ15 k) := by decide +kernel
abbrev cJ15_checkIndex_7cf53 : ByteArray := prog_38_method_17_code
def yJ15_checkIndex_7cf53 : MethodName := ⟨RJ15, "checkIndex", "(II)I"⟩
def RJxf0a74 : String := "java/util/RandomAccess"
def TJxf0a74 : u_T := fun k => match k with
  | _ => ("", "", "", false)
def tyJxf0a74 : Nat → FieldType := fun k => match k with
  | _ => .int
abbrev wsJxf0a740 : List Cond := u_ws RJxf0a74 TJxf0a74 0
theorem nmJxf0a74 : ∀ a, a < 0 → ∀ b, b < 0 → a ≠ b → (TJxf0a74 a).2.1 ≠ (TJxf0a74 b).2.1 := by decide +kernel
theorem tyJxf0a74_ok : ∀ k, k < 0 → parseFieldDescriptor (TJxf0a74 k).2.2.1 = some (tyJxf0a74 k) := by decide +kernel
def RJxa66e6 : String := "java/util/SequencedCollection"
def TJxa66e6 : u_T := fun k => match k with
  | _ => ("", "", "", false)
def tyJxa66e6 : Nat → FieldType := fun k => match k with
  | _ => .int
abbrev wsJxa66e60 : List Cond := u_ws RJxa66e6 TJxa66e6 0
theorem nmJxa66e6 : ∀ a, a < 0 → ∀ b, b < 0 → a ≠ b → (TJxa66e6 a).2.1 ≠ (TJxa66e6 b).2.1 := by decide +kernel
theorem tyJxa66e6_ok : ∀ k, k < 0 → parseFieldDescriptor (TJxa66e6 k).2.2.1 = some (tyJxa66e6 k) := by decide +kernel
def RJ8 : String := "jdk/internal/util/ArraysSupport"
def TJ8 : u_T := fun k => match k with
  | _ => ("", "", "", false)
def tyJ8 : Nat → FieldType := fun k => match k with
  | _ => .int
abbrev wsJ80 : List Cond := u_ws RJ8 TJ8 0
theorem nmJ8 : ∀ a, a < 0 → ∀ b, b < 0 → a ≠ b → (TJ8 a).2.1 ≠ (TJ8 b).2.1 := by decide +kernel
theorem tyJ8_ok : ∀ k, k < 0 → parseFieldDescriptor (TJ8 k).2.2.1 = some (tyJ8 k) := by decide +kernel
abbrev cJ8_newLength_cabcc : ByteArray := prog_41_method_27_code
def yJ8_newLength_cabcc : MethodName := ⟨RJ8, "newLength", "(III)I"⟩
abbrev cJ8_hugeLength_7cf53 : ByteArray := prog_41_method_28_code
def yJ8_hugeLength_7cf53 : MethodName := ⟨RJ8, "hugeLength", "(II)I"⟩
def RJ3 : String := "jdk/internal/util/Preconditions"
def TJ3 : u_T := fun k => match k with
  | _ => ("", "", "", false)
def tyJ3 : Nat → FieldType := fun k => match k with
  | _ => .int
abbrev wsJ30 : List Cond := u_ws RJ3 TJ3 0
theorem nmJ3 : ∀ a, a < 0 → ∀ b, b < 0 → a ≠ b → (TJ3 a).2.1 ≠ (TJ3 b).2.1 := by decide +kernel
theorem tyJ3_ok : ∀ k, k < 0 → parseFieldDescriptor (TJ3 k).2.2.1 = some (tyJ3 k) := by decide +kernel
abbrev cJ3_checkIndex_8e157 : ByteArray := prog_42_method_11_code
def yJ3_checkIndex_8e157 : MethodName := ⟨RJ3, "checkIndex", "(IILjava/util/function/BiFunction;)I"⟩
abbrev cJ3_checkFromToIndex_8c36e : ByteArray := prog_42_method_12_code
def yJ3_checkFromToIndex_8c36e : MethodName := ⟨RJ3, "checkFromToIndex", "(IIILjava/util/function/BiFunction;)I"⟩
abbrev cJ3_checkFromIndexSize_8c36e : ByteArray := prog_42_method_13_code
def yJ3_checkFromIndexSize_8c36e : MethodName := ⟨RJ3, "checkFromIndexSize", "(IIILjava/util/function/BiFunction;)I"⟩
def RL : String := "MuseumTillLaw"
abbrev cL_setPrice : ByteArray := method_3_code
def yL_setPrice : MethodName := ⟨RL, "setPrice", "(LMuseumTill;II[J)I"⟩
abbrev cL_buy : ByteArray := method_4_code
def yL_buy : MethodName := ⟨RL, "buy", "(LMuseumTill;I[J)I"⟩
abbrev cL_admit : ByteArray := method_5_code
def yL_admit : MethodName := ⟨RL, "admit", "(LMuseumTill;IZ[J)I"⟩
abbrev cL_giveBack : ByteArray := method_6_code
def yL_giveBack : MethodName := ⟨RL, "giveBack", "(LMuseumTill;I[J)I"⟩
abbrev cL_join : ByteArray := method_7_code
def yL_join : MethodName := ⟨RL, "join", "(LMuseumTill;I[J)I"⟩
abbrev cL_setCap : ByteArray := method_8_code
def yL_setCap : MethodName := ⟨RL, "setCap", "(LMuseumTill;II[J)I"⟩
abbrev cL_close : ByteArray := method_9_code
def yL_close : MethodName := ⟨RL, "close", "(LMuseumTill;IZ[J)I"⟩
abbrev cL_enter : ByteArray := method_10_code
def yL_enter : MethodName := ⟨RL, "enter", "(LMuseumTill;II[J)I"⟩
abbrev cL_goOut : ByteArray := method_11_code
def yL_goOut : MethodName := ⟨RL, "goOut", "(LMuseumTill;I[J)I"⟩
abbrev cL_addWork : ByteArray := method_12_code
def yL_addWork : MethodName := ⟨RL, "addWork", "(LMuseumTill;I[J)I"⟩
abbrev cL_hang : ByteArray := method_13_code
def yL_hang : MethodName := ⟨RL, "hang", "(LMuseumTill;II[J)I"⟩
abbrev cL_lend : ByteArray := method_14_code
def yL_lend : MethodName := ⟨RL, "lend", "(LMuseumTill;III[J)I"⟩
abbrev cL_bringHome : ByteArray := method_15_code
def yL_bringHome : MethodName := ⟨RL, "bringHome", "(LMuseumTill;II[J)I"⟩
abbrev cL_setShare : ByteArray := method_16_code
def yL_setShare : MethodName := ⟨RL, "setShare", "(LMuseumTill;II[J)I"⟩
abbrev cL_sell : ByteArray := method_17_code
def yL_sell : MethodName := ⟨RL, "sell", "(LMuseumTill;III[J)I"⟩
abbrev cL_give : ByteArray := method_18_code
def yL_give : MethodName := ⟨RL, "give", "(LMuseumTill;III[J)I"⟩
abbrev cL_advance : ByteArray := method_19_code
def yL_advance : MethodName := ⟨RL, "advance", "(LMuseumTill;I[J)I"⟩
abbrev cL_whereIs : ByteArray := method_20_code
def yL_whereIs : MethodName := ⟨RL, "whereIs", "(LMuseumTill;I[J)I"⟩
abbrev cL_seen : ByteArray := method_21_code
def yL_seen : MethodName := ⟨RL, "seen", "(LMuseumTill;I[J)I"⟩
abbrev cL_inside : ByteArray := method_22_code
def yL_inside : MethodName := ⟨RL, "inside", "(LMuseumTill;I[J)I"⟩
abbrev cL_queued : ByteArray := method_23_code
def yL_queued : MethodName := ⟨RL, "queued", "(LMuseumTill;II[J)I"⟩
abbrev cL_views : ByteArray := method_24_code
def yL_views : MethodName := ⟨RL, "views", "(LMuseumTill;I[J)I"⟩
abbrev cL_titleAt : ByteArray := method_25_code
def yL_titleAt : MethodName := ⟨RL, "titleAt", "(LMuseumTill;II[J)I"⟩
abbrev cL_money : ByteArray := method_26_code
def yL_money : MethodName := ⟨RL, "money", "(LMuseumTill;I[J)I"⟩
abbrev cL_moneyBySeen : ByteArray := method_27_code
def yL_moneyBySeen : MethodName := ⟨RL, "moneyBySeen", "(LMuseumTill;I[J)I"⟩
abbrev cL_law : ByteArray := code
def yL_law : MethodName := ⟨RL, "law", "([I)Z"⟩
abbrev vwCl : List vw_C := [(RJ0, TJ0, 4), (RJ4, TJ4, 4), (RJx4a65c, TJx4a65c, 3), (RX0, TX0, 2), (RX1, TX1, 6), (RX2, TX2, 9), (RX3, TX3, 5), (RX4, TX4, 8), (RX5, TX5, 8), (RX6, TX6, 30)]
end
section
theorem dX0_init_0 : decode cX0_init 0 = .ok (.aload_n 0, 1) := by decide +kernel
theorem dX0_init_1 : decode cX0_init 1 = .ok (.invokespecial 3, 3) := by decide +kernel
theorem dX0_init_4 : decode cX0_init 4 = .ok (.aload_n 0, 1) := by decide +kernel
theorem dX0_init_5 : decode cX0_init 5 = .ok (.iconst (-1), 1) := by decide +kernel
theorem dX0_init_6 : decode cX0_init 6 = .ok (.putfield 9, 3) := by decide +kernel
theorem dX0_init_9 : decode cX0_init 9 = .ok (.return_, 1) := by decide +kernel
theorem dX0_belongs_0 : decode cX0_belongs 0 = .ok (.aload_n 0, 1) := by decide +kernel
theorem dX0_belongs_1 : decode cX0_belongs 1 = .ok (.getfield 9, 3) := by decide +kernel
theorem dX0_belongs_4 : decode cX0_belongs 4 = .ok (.iload_n 1, 1) := by decide +kernel
theorem dX0_belongs_5 : decode cX0_belongs 5 = .ok (.if_icmp .lt 7, 3) := by decide +kernel
theorem dX0_belongs_8 : decode cX0_belongs 8 = .ok (.iconst 1, 1) := by decide +kernel
theorem dX0_belongs_9 : decode cX0_belongs 9 = .ok (.goto 4, 3) := by decide +kernel
theorem dX0_belongs_12 : decode cX0_belongs 12 = .ok (.iconst 0, 1) := by decide +kernel
theorem dX0_belongs_13 : decode cX0_belongs 13 = .ok (.ireturn, 1) := by decide +kernel
theorem dX0_daysLeft_0 : decode cX0_daysLeft 0 = .ok (.aload_n 0, 1) := by decide +kernel
theorem dX0_daysLeft_1 : decode cX0_daysLeft 1 = .ok (.iload_n 1, 1) := by decide +kernel
theorem dX0_daysLeft_2 : decode cX0_daysLeft 2 = .ok (.invokevirtual 15, 3) := by decide +kernel
theorem dX0_daysLeft_5 : decode cX0_daysLeft 5 = .ok (.ifCond .eq 14, 3) := by decide +kernel
theorem dX0_daysLeft_8 : decode cX0_daysLeft 8 = .ok (.aload_n 0, 1) := by decide +kernel
theorem dX0_daysLeft_9 : decode cX0_daysLeft 9 = .ok (.getfield 9, 3) := by decide +kernel
theorem dX0_daysLeft_12 : decode cX0_daysLeft 12 = .ok (.iload_n 1, 1) := by decide +kernel
theorem dX0_daysLeft_13 : decode cX0_daysLeft 13 = .ok (.isub, 1) := by decide +kernel
theorem dX0_daysLeft_14 : decode cX0_daysLeft 14 = .ok (.iconst 1, 1) := by decide +kernel
theorem dX0_daysLeft_15 : decode cX0_daysLeft 15 = .ok (.iadd, 1) := by decide +kernel
theorem dX0_daysLeft_16 : decode cX0_daysLeft 16 = .ok (.goto 4, 3) := by decide +kernel
theorem dX0_daysLeft_19 : decode cX0_daysLeft 19 = .ok (.iconst 0, 1) := by decide +kernel
theorem dX0_daysLeft_20 : decode cX0_daysLeft 20 = .ok (.ireturn, 1) := by decide +kernel
theorem dX0_daysEnded_0 : decode cX0_daysEnded 0 = .ok (.aload_n 0, 1) := by decide +kernel
theorem dX0_daysEnded_1 : decode cX0_daysEnded 1 = .ok (.getfield 19, 3) := by decide +kernel
theorem dX0_daysEnded_4 : decode cX0_daysEnded 4 = .ok (.bipush 30, 2) := by decide +kernel
theorem dX0_daysEnded_6 : decode cX0_daysEnded 6 = .ok (.imul, 1) := by decide +kernel
theorem dX0_daysEnded_7 : decode cX0_daysEnded 7 = .ok (.aload_n 0, 1) := by decide +kernel
theorem dX0_daysEnded_8 : decode cX0_daysEnded 8 = .ok (.iload_n 1, 1) := by decide +kernel
theorem dX0_daysEnded_9 : decode cX0_daysEnded 9 = .ok (.invokevirtual 22, 3) := by decide +kernel
theorem dX0_daysEnded_12 : decode cX0_daysEnded 12 = .ok (.isub, 1) := by decide +kernel
theorem dX0_daysEnded_13 : decode cX0_daysEnded 13 = .ok (.ireturn, 1) := by decide +kernel
theorem dX1_init_0 : decode cX1_init 0 = .ok (.aload_n 0, 1) := by decide +kernel
theorem dX1_init_1 : decode cX1_init 1 = .ok (.invokespecial 3, 3) := by decide +kernel
theorem dX1_init_4 : decode cX1_init 4 = .ok (.aload_n 0, 1) := by decide +kernel
theorem dX1_init_5 : decode cX1_init 5 = .ok (.iconst 3, 1) := by decide +kernel
theorem dX1_init_6 : decode cX1_init 6 = .ok (.putfield 9, 3) := by decide +kernel
theorem dX1_init_9 : decode cX1_init 9 = .ok (.aload_n 0, 1) := by decide +kernel
theorem dX1_init_10 : decode cX1_init 10 = .ok (.new 15, 3) := by decide +kernel
theorem dX1_init_13 : decode cX1_init 13 = .ok (.dup, 1) := by decide +kernel
theorem dX1_init_14 : decode cX1_init 14 = .ok (.invokespecial 17, 3) := by decide +kernel
theorem dX1_init_17 : decode cX1_init 17 = .ok (.putfield 18, 3) := by decide +kernel
theorem dX1_init_20 : decode cX1_init 20 = .ok (.aload_n 0, 1) := by decide +kernel
theorem dX1_init_21 : decode cX1_init 21 = .ok (.iload_n 1, 1) := by decide +kernel
theorem dX1_init_22 : decode cX1_init 22 = .ok (.putfield 22, 3) := by decide +kernel
theorem dX1_init_25 : decode cX1_init 25 = .ok (.aload_n 0, 1) := by decide +kernel
theorem dX1_init_26 : decode cX1_init 26 = .ok (.iload_n 1, 1) := by decide +kernel
theorem dX1_init_27 : decode cX1_init 27 = .ok (.iconst 3, 1) := by decide +kernel
theorem dX1_init_28 : decode cX1_init 28 = .ok (.idiv, 1) := by decide +kernel
theorem dX1_init_29 : decode cX1_init 29 = .ok (.putfield 25, 3) := by decide +kernel
theorem dX1_init_32 : decode cX1_init 32 = .ok (.return_, 1) := by decide +kernel
theorem dX1_queueUp_0 : decode cX1_queueUp 0 = .ok (.aload_n 1, 1) := by decide +kernel
theorem dX1_queueUp_1 : decode cX1_queueUp 1 = .ok (.aload_n 0, 1) := by decide +kernel
theorem dX1_queueUp_2 : decode cX1_queueUp 2 = .ok (.getfield 22, 3) := by decide +kernel
theorem dX1_queueUp_5 : decode cX1_queueUp 5 = .ok (.putfield 28, 3) := by decide +kernel
theorem dX1_queueUp_8 : decode cX1_queueUp 8 = .ok (.aload_n 1, 1) := by decide +kernel
theorem dX1_queueUp_9 : decode cX1_queueUp 9 = .ok (.iconst 1, 1) := by decide +kernel
theorem dX1_queueUp_10 : decode cX1_queueUp 10 = .ok (.putfield 33, 3) := by decide +kernel
theorem dX1_queueUp_13 : decode cX1_queueUp 13 = .ok (.aload_n 1, 1) := by decide +kernel
theorem dX1_queueUp_14 : decode cX1_queueUp 14 = .ok (.getfield 37, 3) := by decide +kernel
theorem dX1_queueUp_17 : decode cX1_queueUp 17 = .ok (.iconst 2, 1) := by decide +kernel
theorem dX1_queueUp_18 : decode cX1_queueUp 18 = .ok (.if_icmp .ne 18, 3) := by decide +kernel
theorem dX1_queueUp_21 : decode cX1_queueUp 21 = .ok (.aload_n 0, 1) := by decide +kernel
theorem dX1_queueUp_22 : decode cX1_queueUp 22 = .ok (.getfield 18, 3) := by decide +kernel
theorem dX1_queueUp_25 : decode cX1_queueUp 25 = .ok (.aload_n 0, 1) := by decide +kernel
theorem dX1_queueUp_26 : decode cX1_queueUp 26 = .ok (.invokevirtual 40, 3) := by decide +kernel
theorem dX1_queueUp_29 : decode cX1_queueUp 29 = .ok (.aload_n 1, 1) := by decide +kernel
theorem dX1_queueUp_30 : decode cX1_queueUp 30 = .ok (.invokevirtual 44, 3) := by decide +kernel
theorem dX1_queueUp_33 : decode cX1_queueUp 33 = .ok (.goto 12, 3) := by decide +kernel
theorem dX1_queueUp_36 : decode cX1_queueUp 36 = .ok (.aload_n 0, 1) := by decide +kernel
theorem dX1_queueUp_37 : decode cX1_queueUp 37 = .ok (.getfield 18, 3) := by decide +kernel
theorem dX1_queueUp_40 : decode cX1_queueUp 40 = .ok (.aload_n 1, 1) := by decide +kernel
theorem dX1_queueUp_41 : decode cX1_queueUp 41 = .ok (.invokevirtual 48, 3) := by decide +kernel
theorem dX1_queueUp_44 : decode cX1_queueUp 44 = .ok (.pop, 1) := by decide +kernel
theorem dX1_queueUp_45 : decode cX1_queueUp 45 = .ok (.return_, 1) := by decide +kernel
theorem dX1_waitingMembers_0 : decode cX1_waitingMembers 0 = .ok (.iconst 0, 1) := by decide +kernel
theorem dX1_waitingMembers_1 : decode cX1_waitingMembers 1 = .ok (.istore_n 1, 1) := by decide +kernel
theorem dX1_waitingMembers_2 : decode cX1_waitingMembers 2 = .ok (.iload_n 1, 1) := by decide +kernel
theorem dX1_waitingMembers_3 : decode cX1_waitingMembers 3 = .ok (.aload_n 0, 1) := by decide +kernel
theorem dX1_waitingMembers_4 : decode cX1_waitingMembers 4 = .ok (.getfield 18, 3) := by decide +kernel
theorem dX1_waitingMembers_7 : decode cX1_waitingMembers 7 = .ok (.invokevirtual 51, 3) := by decide +kernel
theorem dX1_waitingMembers_10 : decode cX1_waitingMembers 10 = .ok (.if_icmp .ge 27, 3) := by decide +kernel
theorem dX1_waitingMembers_13 : decode cX1_waitingMembers 13 = .ok (.aload_n 0, 1) := by decide +kernel
theorem dX1_waitingMembers_14 : decode cX1_waitingMembers 14 = .ok (.getfield 18, 3) := by decide +kernel
theorem dX1_waitingMembers_17 : decode cX1_waitingMembers 17 = .ok (.iload_n 1, 1) := by decide +kernel
theorem dX1_waitingMembers_18 : decode cX1_waitingMembers 18 = .ok (.invokevirtual 54, 3) := by decide +kernel
theorem dX1_waitingMembers_21 : decode cX1_waitingMembers 21 = .ok (.checkcast 29, 3) := by decide +kernel
theorem dX1_waitingMembers_24 : decode cX1_waitingMembers 24 = .ok (.getfield 37, 3) := by decide +kernel
theorem dX1_waitingMembers_27 : decode cX1_waitingMembers 27 = .ok (.iconst 2, 1) := by decide +kernel
theorem dX1_waitingMembers_28 : decode cX1_waitingMembers 28 = .ok (.if_icmp .ne 9, 3) := by decide +kernel
theorem dX1_waitingMembers_31 : decode cX1_waitingMembers 31 = .ok (.iinc 1 1, 3) := by decide +kernel
theorem dX1_waitingMembers_34 : decode cX1_waitingMembers 34 = .ok (.goto (-32), 3) := by decide +kernel
theorem dX1_waitingMembers_37 : decode cX1_waitingMembers 37 = .ok (.iload_n 1, 1) := by decide +kernel
theorem dX1_waitingMembers_38 : decode cX1_waitingMembers 38 = .ok (.ireturn, 1) := by decide +kernel
theorem dX1_leaveQueue_0 : decode cX1_leaveQueue 0 = .ok (.iconst 0, 1) := by decide +kernel
theorem dX1_leaveQueue_1 : decode cX1_leaveQueue 1 = .ok (.istore_n 2, 1) := by decide +kernel
theorem dX1_leaveQueue_2 : decode cX1_leaveQueue 2 = .ok (.iload_n 2, 1) := by decide +kernel
theorem dX1_leaveQueue_3 : decode cX1_leaveQueue 3 = .ok (.aload_n 0, 1) := by decide +kernel
theorem dX1_leaveQueue_4 : decode cX1_leaveQueue 4 = .ok (.getfield 18, 3) := by decide +kernel
theorem dX1_leaveQueue_7 : decode cX1_leaveQueue 7 = .ok (.invokevirtual 51, 3) := by decide +kernel
theorem dX1_leaveQueue_10 : decode cX1_leaveQueue 10 = .ok (.if_icmp .ge 31, 3) := by decide +kernel
theorem dX1_leaveQueue_13 : decode cX1_leaveQueue 13 = .ok (.aload_n 0, 1) := by decide +kernel
theorem dX1_leaveQueue_14 : decode cX1_leaveQueue 14 = .ok (.getfield 18, 3) := by decide +kernel
theorem dX1_leaveQueue_17 : decode cX1_leaveQueue 17 = .ok (.iload_n 2, 1) := by decide +kernel
theorem dX1_leaveQueue_18 : decode cX1_leaveQueue 18 = .ok (.invokevirtual 54, 3) := by decide +kernel
theorem dX1_leaveQueue_21 : decode cX1_leaveQueue 21 = .ok (.aload_n 1, 1) := by decide +kernel
theorem dX1_leaveQueue_22 : decode cX1_leaveQueue 22 = .ok (.if_acmp .ne 13, 3) := by decide +kernel
theorem dX1_leaveQueue_25 : decode cX1_leaveQueue 25 = .ok (.aload_n 0, 1) := by decide +kernel
theorem dX1_leaveQueue_26 : decode cX1_leaveQueue 26 = .ok (.getfield 18, 3) := by decide +kernel
theorem dX1_leaveQueue_29 : decode cX1_leaveQueue 29 = .ok (.iload_n 2, 1) := by decide +kernel
theorem dX1_leaveQueue_30 : decode cX1_leaveQueue 30 = .ok (.invokevirtual 58, 3) := by decide +kernel
theorem dX1_leaveQueue_33 : decode cX1_leaveQueue 33 = .ok (.pop, 1) := by decide +kernel
theorem dX1_leaveQueue_34 : decode cX1_leaveQueue 34 = .ok (.return_, 1) := by decide +kernel
theorem dX1_leaveQueue_35 : decode cX1_leaveQueue 35 = .ok (.iinc 2 1, 3) := by decide +kernel
theorem dX1_leaveQueue_38 : decode cX1_leaveQueue 38 = .ok (.goto (-36), 3) := by decide +kernel
theorem dX1_leaveQueue_41 : decode cX1_leaveQueue 41 = .ok (.return_, 1) := by decide +kernel
theorem dX2_init_0 : decode cX2_init 0 = .ok (.aload_n 0, 1) := by decide +kernel
theorem dX2_init_1 : decode cX2_init 1 = .ok (.invokespecial 3, 3) := by decide +kernel
theorem dX2_init_4 : decode cX2_init 4 = .ok (.aload_n 0, 1) := by decide +kernel
theorem dX2_init_5 : decode cX2_init 5 = .ok (.iconst (-1), 1) := by decide +kernel
theorem dX2_init_6 : decode cX2_init 6 = .ok (.putfield 9, 3) := by decide +kernel
theorem dX2_init_9 : decode cX2_init 9 = .ok (.aload_n 0, 1) := by decide +kernel
theorem dX2_init_10 : decode cX2_init 10 = .ok (.iload_n 1, 1) := by decide +kernel
theorem dX2_init_11 : decode cX2_init 11 = .ok (.putfield 15, 3) := by decide +kernel
theorem dX2_init_14 : decode cX2_init 14 = .ok (.aload_n 0, 1) := by decide +kernel
theorem dX2_init_15 : decode cX2_init 15 = .ok (.iload_n 2, 1) := by decide +kernel
theorem dX2_init_16 : decode cX2_init 16 = .ok (.putfield 18, 3) := by decide +kernel
theorem dX2_init_19 : decode cX2_init 19 = .ok (.aload_n 0, 1) := by decide +kernel
theorem dX2_init_20 : decode cX2_init 20 = .ok (.iload_n 3, 1) := by decide +kernel
theorem dX2_init_21 : decode cX2_init 21 = .ok (.putfield 21, 3) := by decide +kernel
theorem dX2_init_24 : decode cX2_init 24 = .ok (.aload_n 0, 1) := by decide +kernel
theorem dX2_init_25 : decode cX2_init 25 = .ok (.iload 4, 2) := by decide +kernel
theorem dX2_init_27 : decode cX2_init 27 = .ok (.putfield 24, 3) := by decide +kernel
theorem dX2_init_30 : decode cX2_init 30 = .ok (.aload_n 0, 1) := by decide +kernel
theorem dX2_init_31 : decode cX2_init 31 = .ok (.iload 5, 2) := by decide +kernel
theorem dX2_init_33 : decode cX2_init 33 = .ok (.putfield 27, 3) := by decide +kernel
theorem dX2_init_36 : decode cX2_init 36 = .ok (.return_, 1) := by decide +kernel
theorem dX2_isFor_0 : decode cX2_isFor 0 = .ok (.aload_n 0, 1) := by decide +kernel
theorem dX2_isFor_1 : decode cX2_isFor 1 = .ok (.getfield 21, 3) := by decide +kernel
theorem dX2_isFor_4 : decode cX2_isFor 4 = .ok (.iconst (-1), 1) := by decide +kernel
theorem dX2_isFor_5 : decode cX2_isFor 5 = .ok (.if_icmp .eq 11, 3) := by decide +kernel
theorem dX2_isFor_8 : decode cX2_isFor 8 = .ok (.aload_n 0, 1) := by decide +kernel
theorem dX2_isFor_9 : decode cX2_isFor 9 = .ok (.getfield 21, 3) := by decide +kernel
theorem dX2_isFor_12 : decode cX2_isFor 12 = .ok (.iload_n 1, 1) := by decide +kernel
theorem dX2_isFor_13 : decode cX2_isFor 13 = .ok (.if_icmp .ne 7, 3) := by decide +kernel
theorem dX2_isFor_16 : decode cX2_isFor 16 = .ok (.iconst 1, 1) := by decide +kernel
theorem dX2_isFor_17 : decode cX2_isFor 17 = .ok (.goto 4, 3) := by decide +kernel
theorem dX2_isFor_20 : decode cX2_isFor 20 = .ok (.iconst 0, 1) := by decide +kernel
theorem dX2_isFor_21 : decode cX2_isFor 21 = .ok (.ireturn, 1) := by decide +kernel
theorem dX2_isOfMember_0 : decode cX2_isOfMember 0 = .ok (.aload_n 0, 1) := by decide +kernel
theorem dX2_isOfMember_1 : decode cX2_isOfMember 1 = .ok (.getfield 30, 3) := by decide +kernel
theorem dX2_isOfMember_4 : decode cX2_isOfMember 4 = .ok (.ifCond .ne 23, 3) := by decide +kernel
theorem dX2_isOfMember_7 : decode cX2_isOfMember 7 = .ok (.aload_n 0, 1) := by decide +kernel
theorem dX2_isOfMember_8 : decode cX2_isOfMember 8 = .ok (.getfield 18, 3) := by decide +kernel
theorem dX2_isOfMember_11 : decode cX2_isOfMember 11 = .ok (.iload_n 2, 1) := by decide +kernel
theorem dX2_isOfMember_12 : decode cX2_isOfMember 12 = .ok (.if_icmp .ne 15, 3) := by decide +kernel
theorem dX2_isOfMember_15 : decode cX2_isOfMember 15 = .ok (.aload_n 0, 1) := by decide +kernel
theorem dX2_isOfMember_16 : decode cX2_isOfMember 16 = .ok (.getfield 24, 3) := by decide +kernel
theorem dX2_isOfMember_19 : decode cX2_isOfMember 19 = .ok (.iload_n 1, 1) := by decide +kernel
theorem dX2_isOfMember_20 : decode cX2_isOfMember 20 = .ok (.if_icmp .ne 7, 3) := by decide +kernel
theorem dX2_isOfMember_23 : decode cX2_isOfMember 23 = .ok (.iconst 1, 1) := by decide +kernel
theorem dX2_isOfMember_24 : decode cX2_isOfMember 24 = .ok (.goto 4, 3) := by decide +kernel
theorem dX2_isOfMember_27 : decode cX2_isOfMember 27 = .ok (.iconst 0, 1) := by decide +kernel
theorem dX2_isOfMember_28 : decode cX2_isOfMember 28 = .ok (.ireturn, 1) := by decide +kernel
theorem dX2_leaveRoom_0 : decode cX2_leaveRoom 0 = .ok (.aload_n 0, 1) := by decide +kernel
theorem dX2_leaveRoom_1 : decode cX2_leaveRoom 1 = .ok (.iconst (-1), 1) := by decide +kernel
theorem dX2_leaveRoom_2 : decode cX2_leaveRoom 2 = .ok (.putfield 9, 3) := by decide +kernel
theorem dX2_leaveRoom_5 : decode cX2_leaveRoom 5 = .ok (.aload_n 0, 1) := by decide +kernel
theorem dX2_leaveRoom_6 : decode cX2_leaveRoom 6 = .ok (.iconst 0, 1) := by decide +kernel
theorem dX2_leaveRoom_7 : decode cX2_leaveRoom 7 = .ok (.putfield 34, 3) := by decide +kernel
theorem dX2_leaveRoom_10 : decode cX2_leaveRoom 10 = .ok (.return_, 1) := by decide +kernel
theorem dX3_init_0 : decode cX3_init 0 = .ok (.aload_n 0, 1) := by decide +kernel
theorem dX3_init_1 : decode cX3_init 1 = .ok (.invokespecial 1, 3) := by decide +kernel
theorem dX3_init_4 : decode cX3_init 4 = .ok (.aload_n 0, 1) := by decide +kernel
theorem dX3_init_5 : decode cX3_init 5 = .ok (.iload_n 1, 1) := by decide +kernel
theorem dX3_init_6 : decode cX3_init 6 = .ok (.putfield 7, 3) := by decide +kernel
theorem dX3_init_9 : decode cX3_init 9 = .ok (.return_, 1) := by decide +kernel
theorem dX3_bookFee_0 : decode cX3_bookFee 0 = .ok (.aload_n 0, 1) := by decide +kernel
theorem dX3_bookFee_1 : decode cX3_bookFee 1 = .ok (.dup, 1) := by decide +kernel
theorem dX3_bookFee_2 : decode cX3_bookFee 2 = .ok (.getfield 13, 3) := by decide +kernel
theorem dX3_bookFee_5 : decode cX3_bookFee 5 = .ok (.iload_n 1, 1) := by decide +kernel
theorem dX3_bookFee_6 : decode cX3_bookFee 6 = .ok (.iadd, 1) := by decide +kernel
theorem dX3_bookFee_7 : decode cX3_bookFee 7 = .ok (.putfield 13, 3) := by decide +kernel
theorem dX3_bookFee_10 : decode cX3_bookFee 10 = .ok (.aload_n 0, 1) := by decide +kernel
theorem dX3_bookFee_11 : decode cX3_bookFee 11 = .ok (.dup, 1) := by decide +kernel
theorem dX3_bookFee_12 : decode cX3_bookFee 12 = .ok (.getfield 16, 3) := by decide +kernel
theorem dX3_bookFee_15 : decode cX3_bookFee 15 = .ok (.iload_n 1, 1) := by decide +kernel
theorem dX3_bookFee_16 : decode cX3_bookFee 16 = .ok (.iadd, 1) := by decide +kernel
theorem dX3_bookFee_17 : decode cX3_bookFee 17 = .ok (.putfield 16, 3) := by decide +kernel
theorem dX3_bookFee_20 : decode cX3_bookFee 20 = .ok (.return_, 1) := by decide +kernel
theorem dX3_bookSale_0 : decode cX3_bookSale 0 = .ok (.aload_n 0, 1) := by decide +kernel
theorem dX3_bookSale_1 : decode cX3_bookSale 1 = .ok (.dup, 1) := by decide +kernel
theorem dX3_bookSale_2 : decode cX3_bookSale 2 = .ok (.getfield 19, 3) := by decide +kernel
theorem dX3_bookSale_5 : decode cX3_bookSale 5 = .ok (.iload_n 1, 1) := by decide +kernel
theorem dX3_bookSale_6 : decode cX3_bookSale 6 = .ok (.iadd, 1) := by decide +kernel
theorem dX3_bookSale_7 : decode cX3_bookSale 7 = .ok (.putfield 19, 3) := by decide +kernel
theorem dX3_bookSale_10 : decode cX3_bookSale 10 = .ok (.aload_n 0, 1) := by decide +kernel
theorem dX3_bookSale_11 : decode cX3_bookSale 11 = .ok (.dup, 1) := by decide +kernel
theorem dX3_bookSale_12 : decode cX3_bookSale 12 = .ok (.getfield 16, 3) := by decide +kernel
theorem dX3_bookSale_15 : decode cX3_bookSale 15 = .ok (.iload_n 1, 1) := by decide +kernel
theorem dX3_bookSale_16 : decode cX3_bookSale 16 = .ok (.iadd, 1) := by decide +kernel
theorem dX3_bookSale_17 : decode cX3_bookSale 17 = .ok (.putfield 16, 3) := by decide +kernel
theorem dX3_bookSale_20 : decode cX3_bookSale 20 = .ok (.return_, 1) := by decide +kernel
theorem dX3_bookGift_0 : decode cX3_bookGift 0 = .ok (.aload_n 0, 1) := by decide +kernel
theorem dX3_bookGift_1 : decode cX3_bookGift 1 = .ok (.dup, 1) := by decide +kernel
theorem dX3_bookGift_2 : decode cX3_bookGift 2 = .ok (.getfield 22, 3) := by decide +kernel
theorem dX3_bookGift_5 : decode cX3_bookGift 5 = .ok (.iload_n 1, 1) := by decide +kernel
theorem dX3_bookGift_6 : decode cX3_bookGift 6 = .ok (.iadd, 1) := by decide +kernel
theorem dX3_bookGift_7 : decode cX3_bookGift 7 = .ok (.putfield 22, 3) := by decide +kernel
theorem dX3_bookGift_10 : decode cX3_bookGift 10 = .ok (.aload_n 0, 1) := by decide +kernel
theorem dX3_bookGift_11 : decode cX3_bookGift 11 = .ok (.dup, 1) := by decide +kernel
theorem dX3_bookGift_12 : decode cX3_bookGift 12 = .ok (.getfield 16, 3) := by decide +kernel
theorem dX3_bookGift_15 : decode cX3_bookGift 15 = .ok (.iload_n 1, 1) := by decide +kernel
theorem dX3_bookGift_16 : decode cX3_bookGift 16 = .ok (.iadd, 1) := by decide +kernel
theorem dX3_bookGift_17 : decode cX3_bookGift 17 = .ok (.putfield 16, 3) := by decide +kernel
theorem dX3_bookGift_20 : decode cX3_bookGift 20 = .ok (.return_, 1) := by decide +kernel
theorem dX4_init_0 : decode cX4_init 0 = .ok (.aload_n 0, 1) := by decide +kernel
theorem dX4_init_1 : decode cX4_init 1 = .ok (.invokespecial 3, 3) := by decide +kernel
theorem dX4_init_4 : decode cX4_init 4 = .ok (.aload_n 0, 1) := by decide +kernel
theorem dX4_init_5 : decode cX4_init 5 = .ok (.bipush 20, 2) := by decide +kernel
theorem dX4_init_7 : decode cX4_init 7 = .ok (.putfield 9, 3) := by decide +kernel
theorem dX4_init_10 : decode cX4_init 10 = .ok (.aload_n 0, 1) := by decide +kernel
theorem dX4_init_11 : decode cX4_init 11 = .ok (.iload_n 1, 1) := by decide +kernel
theorem dX4_init_12 : decode cX4_init 12 = .ok (.putfield 15, 3) := by decide +kernel
theorem dX4_init_15 : decode cX4_init 15 = .ok (.aload_n 0, 1) := by decide +kernel
theorem dX4_init_16 : decode cX4_init 16 = .ok (.aload_n 2, 1) := by decide +kernel
theorem dX4_init_17 : decode cX4_init 17 = .ok (.getfield 18, 3) := by decide +kernel
theorem dX4_init_20 : decode cX4_init 20 = .ok (.putfield 23, 3) := by decide +kernel
theorem dX4_init_23 : decode cX4_init 23 = .ok (.aload_n 0, 1) := by decide +kernel
theorem dX4_init_24 : decode cX4_init 24 = .ok (.aload_n 2, 1) := by decide +kernel
theorem dX4_init_25 : decode cX4_init 25 = .ok (.getfield 24, 3) := by decide +kernel
theorem dX4_init_28 : decode cX4_init 28 = .ok (.putfield 25, 3) := by decide +kernel
theorem dX4_init_31 : decode cX4_init 31 = .ok (.return_, 1) := by decide +kernel
theorem dX5_init_0 : decode cX5_init 0 = .ok (.aload_n 0, 1) := by decide +kernel
theorem dX5_init_1 : decode cX5_init 1 = .ok (.invokespecial 3, 3) := by decide +kernel
theorem dX5_init_4 : decode cX5_init 4 = .ok (.aload_n 0, 1) := by decide +kernel
theorem dX5_init_5 : decode cX5_init 5 = .ok (.iconst 5, 1) := by decide +kernel
theorem dX5_init_6 : decode cX5_init 6 = .ok (.anewarray 9, 3) := by decide +kernel
theorem dX5_init_9 : decode cX5_init 9 = .ok (.putfield 11, 3) := by decide +kernel
theorem dX5_init_12 : decode cX5_init 12 = .ok (.aload_n 0, 1) := by decide +kernel
theorem dX5_init_13 : decode cX5_init 13 = .ok (.bipush 12, 2) := by decide +kernel
theorem dX5_init_15 : decode cX5_init 15 = .ok (.anewarray 15, 3) := by decide +kernel
theorem dX5_init_18 : decode cX5_init 18 = .ok (.putfield 17, 3) := by decide +kernel
theorem dX5_init_21 : decode cX5_init 21 = .ok (.aload_n 0, 1) := by decide +kernel
theorem dX5_init_22 : decode cX5_init 22 = .ok (.bipush 6, 2) := by decide +kernel
theorem dX5_init_24 : decode cX5_init 24 = .ok (.anewarray 21, 3) := by decide +kernel
theorem dX5_init_27 : decode cX5_init 27 = .ok (.putfield 23, 3) := by decide +kernel
theorem dX5_init_30 : decode cX5_init 30 = .ok (.aload_n 0, 1) := by decide +kernel
theorem dX5_init_31 : decode cX5_init 31 = .ok (.new 27, 3) := by decide +kernel
theorem dX5_init_34 : decode cX5_init 34 = .ok (.dup, 1) := by decide +kernel
theorem dX5_init_35 : decode cX5_init 35 = .ok (.invokespecial 29, 3) := by decide +kernel
theorem dX5_init_38 : decode cX5_init 38 = .ok (.putfield 30, 3) := by decide +kernel
theorem dX5_init_41 : decode cX5_init 41 = .ok (.aload_n 0, 1) := by decide +kernel
theorem dX5_init_42 : decode cX5_init 42 = .ok (.new 27, 3) := by decide +kernel
theorem dX5_init_45 : decode cX5_init 45 = .ok (.dup, 1) := by decide +kernel
theorem dX5_init_46 : decode cX5_init 46 = .ok (.invokespecial 29, 3) := by decide +kernel
theorem dX5_init_49 : decode cX5_init 49 = .ok (.putfield 34, 3) := by decide +kernel
theorem dX5_init_52 : decode cX5_init 52 = .ok (.iconst 0, 1) := by decide +kernel
theorem dX5_init_53 : decode cX5_init 53 = .ok (.istore_n 1, 1) := by decide +kernel
theorem dX5_init_54 : decode cX5_init 54 = .ok (.iload_n 1, 1) := by decide +kernel
theorem dX5_init_55 : decode cX5_init 55 = .ok (.aload_n 0, 1) := by decide +kernel
theorem dX5_init_56 : decode cX5_init 56 = .ok (.getfield 11, 3) := by decide +kernel
theorem dX5_init_59 : decode cX5_init 59 = .ok (.arraylength, 1) := by decide +kernel
theorem dX5_init_60 : decode cX5_init 60 = .ok (.if_icmp .ge 35, 3) := by decide +kernel
theorem dX5_init_63 : decode cX5_init 63 = .ok (.aload_n 0, 1) := by decide +kernel
theorem dX5_init_64 : decode cX5_init 64 = .ok (.getfield 11, 3) := by decide +kernel
theorem dX5_init_67 : decode cX5_init 67 = .ok (.iload_n 1, 1) := by decide +kernel
theorem dX5_init_68 : decode cX5_init 68 = .ok (.new 9, 3) := by decide +kernel
theorem dX5_init_71 : decode cX5_init 71 = .ok (.dup, 1) := by decide +kernel
theorem dX5_init_72 : decode cX5_init 72 = .ok (.iload_n 1, 1) := by decide +kernel
theorem dX5_init_73 : decode cX5_init 73 = .ok (.ifCond .ne 9, 3) := by decide +kernel
theorem dX5_init_76 : decode cX5_init 76 = .ok (.sipush 1500, 3) := by decide +kernel
theorem dX5_init_79 : decode cX5_init 79 = .ok (.goto 6, 3) := by decide +kernel
theorem dX5_init_82 : decode cX5_init 82 = .ok (.sipush 600, 3) := by decide +kernel
theorem dX5_init_85 : decode cX5_init 85 = .ok (.invokespecial 37, 3) := by decide +kernel
theorem dX5_init_88 : decode cX5_init 88 = .ok (.aastore, 1) := by decide +kernel
theorem dX5_init_89 : decode cX5_init 89 = .ok (.iinc 1 1, 3) := by decide +kernel
theorem dX5_init_92 : decode cX5_init 92 = .ok (.goto (-38), 3) := by decide +kernel
theorem dX5_init_95 : decode cX5_init 95 = .ok (.iconst 0, 1) := by decide +kernel
theorem dX5_init_96 : decode cX5_init 96 = .ok (.istore_n 1, 1) := by decide +kernel
theorem dX5_init_97 : decode cX5_init 97 = .ok (.iload_n 1, 1) := by decide +kernel
theorem dX5_init_98 : decode cX5_init 98 = .ok (.aload_n 0, 1) := by decide +kernel
theorem dX5_init_99 : decode cX5_init 99 = .ok (.getfield 17, 3) := by decide +kernel
theorem dX5_init_102 : decode cX5_init 102 = .ok (.arraylength, 1) := by decide +kernel
theorem dX5_init_103 : decode cX5_init 103 = .ok (.if_icmp .ge 23, 3) := by decide +kernel
theorem dX5_init_106 : decode cX5_init 106 = .ok (.aload_n 0, 1) := by decide +kernel
theorem dX5_init_107 : decode cX5_init 107 = .ok (.getfield 17, 3) := by decide +kernel
theorem dX5_init_110 : decode cX5_init 110 = .ok (.iload_n 1, 1) := by decide +kernel
theorem dX5_init_111 : decode cX5_init 111 = .ok (.new 15, 3) := by decide +kernel
theorem dX5_init_114 : decode cX5_init 114 = .ok (.dup, 1) := by decide +kernel
theorem dX5_init_115 : decode cX5_init 115 = .ok (.iload_n 1, 1) := by decide +kernel
theorem dX5_init_116 : decode cX5_init 116 = .ok (.invokespecial 40, 3) := by decide +kernel
theorem dX5_init_119 : decode cX5_init 119 = .ok (.aastore, 1) := by decide +kernel
theorem dX5_init_120 : decode cX5_init 120 = .ok (.iinc 1 1, 3) := by decide +kernel
theorem dX5_init_123 : decode cX5_init 123 = .ok (.goto (-26), 3) := by decide +kernel
theorem dX5_init_126 : decode cX5_init 126 = .ok (.iconst 0, 1) := by decide +kernel
theorem dX5_init_127 : decode cX5_init 127 = .ok (.istore_n 1, 1) := by decide +kernel
theorem dX5_init_128 : decode cX5_init 128 = .ok (.iload_n 1, 1) := by decide +kernel
theorem dX5_init_129 : decode cX5_init 129 = .ok (.aload_n 0, 1) := by decide +kernel
theorem dX5_init_130 : decode cX5_init 130 = .ok (.getfield 23, 3) := by decide +kernel
theorem dX5_init_133 : decode cX5_init 133 = .ok (.arraylength, 1) := by decide +kernel
theorem dX5_init_134 : decode cX5_init 134 = .ok (.if_icmp .ge 22, 3) := by decide +kernel
theorem dX5_init_137 : decode cX5_init 137 = .ok (.aload_n 0, 1) := by decide +kernel
theorem dX5_init_138 : decode cX5_init 138 = .ok (.getfield 23, 3) := by decide +kernel
theorem dX5_init_141 : decode cX5_init 141 = .ok (.iload_n 1, 1) := by decide +kernel
theorem dX5_init_142 : decode cX5_init 142 = .ok (.new 21, 3) := by decide +kernel
theorem dX5_init_145 : decode cX5_init 145 = .ok (.dup, 1) := by decide +kernel
theorem dX5_init_146 : decode cX5_init 146 = .ok (.invokespecial 41, 3) := by decide +kernel
theorem dX5_init_149 : decode cX5_init 149 = .ok (.aastore, 1) := by decide +kernel
theorem dX5_init_150 : decode cX5_init 150 = .ok (.iinc 1 1, 3) := by decide +kernel
theorem dX5_init_153 : decode cX5_init 153 = .ok (.goto (-25), 3) := by decide +kernel
theorem dX5_init_156 : decode cX5_init 156 = .ok (.return_, 1) := by decide +kernel
theorem dX5_setPrice_0 : decode cX5_setPrice 0 = .ok (.aload_n 0, 1) := by decide +kernel
theorem dX5_setPrice_1 : decode cX5_setPrice 1 = .ok (.iload_n 1, 1) := by decide +kernel
theorem dX5_setPrice_2 : decode cX5_setPrice 2 = .ok (.invokevirtual 42, 3) := by decide +kernel
theorem dX5_setPrice_5 : decode cX5_setPrice 5 = .ok (.astore_n 3, 1) := by decide +kernel
theorem dX5_setPrice_6 : decode cX5_setPrice 6 = .ok (.iload_n 2, 1) := by decide +kernel
theorem dX5_setPrice_7 : decode cX5_setPrice 7 = .ok (.iconst 0, 1) := by decide +kernel
theorem dX5_setPrice_8 : decode cX5_setPrice 8 = .ok (.sipush 10000, 3) := by decide +kernel
theorem dX5_setPrice_11 : decode cX5_setPrice 11 = .ok (.invokestatic 46, 3) := by decide +kernel
theorem dX5_setPrice_14 : decode cX5_setPrice 14 = .ok (.aload_n 3, 1) := by decide +kernel
theorem dX5_setPrice_15 : decode cX5_setPrice 15 = .ok (.getfield 50, 3) := by decide +kernel
theorem dX5_setPrice_18 : decode cX5_setPrice 18 = .ok (.istore 4, 2) := by decide +kernel
theorem dX5_setPrice_20 : decode cX5_setPrice 20 = .ok (.aload_n 3, 1) := by decide +kernel
theorem dX5_setPrice_21 : decode cX5_setPrice 21 = .ok (.iload_n 2, 1) := by decide +kernel
theorem dX5_setPrice_22 : decode cX5_setPrice 22 = .ok (.putfield 50, 3) := by decide +kernel
theorem dX5_setPrice_25 : decode cX5_setPrice 25 = .ok (.iload 4, 2) := by decide +kernel
theorem dX5_setPrice_27 : decode cX5_setPrice 27 = .ok (.ireturn, 1) := by decide +kernel
theorem dX5_buy_0 : decode cX5_buy 0 = .ok (.aload_n 0, 1) := by decide +kernel
theorem dX5_buy_1 : decode cX5_buy 1 = .ok (.iload_n 1, 1) := by decide +kernel
theorem dX5_buy_2 : decode cX5_buy 2 = .ok (.invokevirtual 42, 3) := by decide +kernel
theorem dX5_buy_5 : decode cX5_buy 5 = .ok (.astore_n 2, 1) := by decide +kernel
theorem dX5_buy_6 : decode cX5_buy 6 = .ok (.aload_n 0, 1) := by decide +kernel
theorem dX5_buy_7 : decode cX5_buy 7 = .ok (.invokevirtual 54, 3) := by decide +kernel
theorem dX5_buy_10 : decode cX5_buy 10 = .ok (.aload_n 0, 1) := by decide +kernel
theorem dX5_buy_11 : decode cX5_buy 11 = .ok (.iload_n 1, 1) := by decide +kernel
theorem dX5_buy_12 : decode cX5_buy 12 = .ok (.iconst (-1), 1) := by decide +kernel
theorem dX5_buy_13 : decode cX5_buy 13 = .ok (.if_icmp .ne 7, 3) := by decide +kernel
theorem dX5_buy_16 : decode cX5_buy 16 = .ok (.iconst 1, 1) := by decide +kernel
theorem dX5_buy_17 : decode cX5_buy 17 = .ok (.goto 4, 3) := by decide +kernel
theorem dX5_buy_20 : decode cX5_buy 20 = .ok (.iconst 0, 1) := by decide +kernel
theorem dX5_buy_21 : decode cX5_buy 21 = .ok (.iload_n 1, 1) := by decide +kernel
theorem dX5_buy_22 : decode cX5_buy 22 = .ok (.iconst (-1), 1) := by decide +kernel
theorem dX5_buy_23 : decode cX5_buy 23 = .ok (.aload_n 2, 1) := by decide +kernel
theorem dX5_buy_24 : decode cX5_buy 24 = .ok (.getfield 50, 3) := by decide +kernel
theorem dX5_buy_27 : decode cX5_buy 27 = .ok (.invokevirtual 57, 3) := by decide +kernel
theorem dX5_buy_30 : decode cX5_buy 30 = .ok (.ireturn, 1) := by decide +kernel
theorem dX5_admit_0 : decode cX5_admit 0 = .ok (.aload_n 0, 1) := by decide +kernel
theorem dX5_admit_1 : decode cX5_admit 1 = .ok (.iload_n 1, 1) := by decide +kernel
theorem dX5_admit_2 : decode cX5_admit 2 = .ok (.invokevirtual 61, 3) := by decide +kernel
theorem dX5_admit_5 : decode cX5_admit 5 = .ok (.aload_n 0, 1) := by decide +kernel
theorem dX5_admit_6 : decode cX5_admit 6 = .ok (.getfield 65, 3) := by decide +kernel
theorem dX5_admit_9 : decode cX5_admit 9 = .ok (.invokevirtual 68, 3) := by decide +kernel
theorem dX5_admit_12 : decode cX5_admit 12 = .ok (.ifCond .ne 13, 3) := by decide +kernel
theorem dX5_admit_15 : decode cX5_admit 15 = .ok (.new 72, 3) := by decide +kernel
theorem dX5_admit_18 : decode cX5_admit 18 = .ok (.dup, 1) := by decide +kernel
theorem dX5_admit_19 : decode cX5_admit 19 = .ok (.ldc 74, 2) := by decide +kernel
theorem dX5_admit_21 : decode cX5_admit 21 = .ok (.invokespecial 76, 3) := by decide +kernel
theorem dX5_admit_24 : decode cX5_admit 24 = .ok (.athrow, 1) := by decide +kernel
theorem dX5_admit_25 : decode cX5_admit 25 = .ok (.aload_n 0, 1) := by decide +kernel
theorem dX5_admit_26 : decode cX5_admit 26 = .ok (.iload_n 1, 1) := by decide +kernel
theorem dX5_admit_27 : decode cX5_admit 27 = .ok (.iconst 2, 1) := by decide +kernel
theorem dX5_admit_28 : decode cX5_admit 28 = .ok (.invokevirtual 79, 3) := by decide +kernel
theorem dX5_admit_31 : decode cX5_admit 31 = .ok (.ifCond .le 7, 3) := by decide +kernel
theorem dX5_admit_34 : decode cX5_admit 34 = .ok (.iconst 1, 1) := by decide +kernel
theorem dX5_admit_35 : decode cX5_admit 35 = .ok (.goto 4, 3) := by decide +kernel
theorem dX5_admit_38 : decode cX5_admit 38 = .ok (.iconst 0, 1) := by decide +kernel
theorem dX5_admit_39 : decode cX5_admit 39 = .ok (.istore_n 3, 1) := by decide +kernel
theorem dX5_admit_40 : decode cX5_admit 40 = .ok (.iload_n 3, 1) := by decide +kernel
theorem dX5_admit_41 : decode cX5_admit 41 = .ok (.iload_n 2, 1) := by decide +kernel
theorem dX5_admit_42 : decode cX5_admit 42 = .ok (.if_icmp .eq 13, 3) := by decide +kernel
theorem dX5_admit_45 : decode cX5_admit 45 = .ok (.new 72, 3) := by decide +kernel
theorem dX5_admit_48 : decode cX5_admit 48 = .ok (.dup, 1) := by decide +kernel
theorem dX5_admit_49 : decode cX5_admit 49 = .ok (.ldc 83, 2) := by decide +kernel
theorem dX5_admit_51 : decode cX5_admit 51 = .ok (.invokespecial 76, 3) := by decide +kernel
theorem dX5_admit_54 : decode cX5_admit 54 = .ok (.athrow, 1) := by decide +kernel
theorem dX5_admit_55 : decode cX5_admit 55 = .ok (.iload_n 2, 1) := by decide +kernel
theorem dX5_admit_56 : decode cX5_admit 56 = .ok (.ifCond .eq 23, 3) := by decide +kernel
theorem dX5_admit_59 : decode cX5_admit 59 = .ok (.aload_n 0, 1) := by decide +kernel
theorem dX5_admit_60 : decode cX5_admit 60 = .ok (.iload_n 1, 1) := by decide +kernel
theorem dX5_admit_61 : decode cX5_admit 61 = .ok (.iconst 3, 1) := by decide +kernel
theorem dX5_admit_62 : decode cX5_admit 62 = .ok (.invokevirtual 79, 3) := by decide +kernel
theorem dX5_admit_65 : decode cX5_admit 65 = .ok (.iconst 2, 1) := by decide +kernel
theorem dX5_admit_66 : decode cX5_admit 66 = .ok (.if_icmp .lt 13, 3) := by decide +kernel
theorem dX5_admit_69 : decode cX5_admit 69 = .ok (.new 72, 3) := by decide +kernel
theorem dX5_admit_72 : decode cX5_admit 72 = .ok (.dup, 1) := by decide +kernel
theorem dX5_admit_73 : decode cX5_admit 73 = .ok (.ldc 85, 2) := by decide +kernel
theorem dX5_admit_75 : decode cX5_admit 75 = .ok (.invokespecial 76, 3) := by decide +kernel
theorem dX5_admit_78 : decode cX5_admit 78 = .ok (.athrow, 1) := by decide +kernel
theorem dX5_admit_79 : decode cX5_admit 79 = .ok (.aload_n 0, 1) := by decide +kernel
theorem dX5_admit_80 : decode cX5_admit 80 = .ok (.invokevirtual 54, 3) := by decide +kernel
theorem dX5_admit_83 : decode cX5_admit 83 = .ok (.iload_n 2, 1) := by decide +kernel
theorem dX5_admit_84 : decode cX5_admit 84 = .ok (.ifCond .eq 16, 3) := by decide +kernel
theorem dX5_admit_87 : decode cX5_admit 87 = .ok (.aload_n 0, 1) := by decide +kernel
theorem dX5_admit_88 : decode cX5_admit 88 = .ok (.iconst (-1), 1) := by decide +kernel
theorem dX5_admit_89 : decode cX5_admit 89 = .ok (.invokevirtual 42, 3) := by decide +kernel
theorem dX5_admit_92 : decode cX5_admit 92 = .ok (.getfield 50, 3) := by decide +kernel
theorem dX5_admit_95 : decode cX5_admit 95 = .ok (.iconst 2, 1) := by decide +kernel
theorem dX5_admit_96 : decode cX5_admit 96 = .ok (.idiv, 1) := by decide +kernel
theorem dX5_admit_97 : decode cX5_admit 97 = .ok (.goto 4, 3) := by decide +kernel
theorem dX5_admit_100 : decode cX5_admit 100 = .ok (.iconst 0, 1) := by decide +kernel
theorem dX5_admit_101 : decode cX5_admit 101 = .ok (.istore 4, 2) := by decide +kernel
theorem dX5_admit_103 : decode cX5_admit 103 = .ok (.aload_n 0, 1) := by decide +kernel
theorem dX5_admit_104 : decode cX5_admit 104 = .ok (.iload_n 2, 1) := by decide +kernel
theorem dX5_admit_105 : decode cX5_admit 105 = .ok (.ifCond .eq 7, 3) := by decide +kernel
theorem dX5_admit_108 : decode cX5_admit 108 = .ok (.iconst 3, 1) := by decide +kernel
theorem dX5_admit_109 : decode cX5_admit 109 = .ok (.goto 4, 3) := by decide +kernel
theorem dX5_admit_112 : decode cX5_admit 112 = .ok (.iconst 2, 1) := by decide +kernel
theorem dX5_admit_113 : decode cX5_admit 113 = .ok (.iconst (-1), 1) := by decide +kernel
theorem dX5_admit_114 : decode cX5_admit 114 = .ok (.iload_n 1, 1) := by decide +kernel
theorem dX5_admit_115 : decode cX5_admit 115 = .ok (.iload 4, 2) := by decide +kernel
theorem dX5_admit_117 : decode cX5_admit 117 = .ok (.invokevirtual 57, 3) := by decide +kernel
theorem dX5_admit_120 : decode cX5_admit 120 = .ok (.ireturn, 1) := by decide +kernel
theorem dX5_giveBack_0 : decode cX5_giveBack 0 = .ok (.aload_n 0, 1) := by decide +kernel
theorem dX5_giveBack_1 : decode cX5_giveBack 1 = .ok (.iload_n 1, 1) := by decide +kernel
theorem dX5_giveBack_2 : decode cX5_giveBack 2 = .ok (.invokevirtual 87, 3) := by decide +kernel
theorem dX5_giveBack_5 : decode cX5_giveBack 5 = .ok (.astore_n 2, 1) := by decide +kernel
theorem dX5_giveBack_6 : decode cX5_giveBack 6 = .ok (.aload_n 0, 1) := by decide +kernel
theorem dX5_giveBack_7 : decode cX5_giveBack 7 = .ok (.aload_n 2, 1) := by decide +kernel
theorem dX5_giveBack_8 : decode cX5_giveBack 8 = .ok (.invokevirtual 91, 3) := by decide +kernel
theorem dX5_giveBack_11 : decode cX5_giveBack 11 = .ok (.aload_n 2, 1) := by decide +kernel
theorem dX5_giveBack_12 : decode cX5_giveBack 12 = .ok (.getfield 95, 3) := by decide +kernel
theorem dX5_giveBack_15 : decode cX5_giveBack 15 = .ok (.ifCond .ne 18, 3) := by decide +kernel
theorem dX5_giveBack_18 : decode cX5_giveBack 18 = .ok (.aload_n 2, 1) := by decide +kernel
theorem dX5_giveBack_19 : decode cX5_giveBack 19 = .ok (.getfield 100, 3) := by decide +kernel
theorem dX5_giveBack_22 : decode cX5_giveBack 22 = .ok (.ifCond .ne 11, 3) := by decide +kernel
theorem dX5_giveBack_25 : decode cX5_giveBack 25 = .ok (.aload_n 0, 1) := by decide +kernel
theorem dX5_giveBack_26 : decode cX5_giveBack 26 = .ok (.aload_n 2, 1) := by decide +kernel
theorem dX5_giveBack_27 : decode cX5_giveBack 27 = .ok (.invokevirtual 104, 3) := by decide +kernel
theorem dX5_giveBack_30 : decode cX5_giveBack 30 = .ok (.ifCond .ne 13, 3) := by decide +kernel
theorem dX5_giveBack_33 : decode cX5_giveBack 33 = .ok (.new 72, 3) := by decide +kernel
theorem dX5_giveBack_36 : decode cX5_giveBack 36 = .ok (.dup, 1) := by decide +kernel
theorem dX5_giveBack_37 : decode cX5_giveBack 37 = .ok (.ldc 108, 2) := by decide +kernel
theorem dX5_giveBack_39 : decode cX5_giveBack 39 = .ok (.invokespecial 76, 3) := by decide +kernel
theorem dX5_giveBack_42 : decode cX5_giveBack 42 = .ok (.athrow, 1) := by decide +kernel
theorem dX5_giveBack_43 : decode cX5_giveBack 43 = .ok (.aload_n 2, 1) := by decide +kernel
theorem dX5_giveBack_44 : decode cX5_giveBack 44 = .ok (.iconst 1, 1) := by decide +kernel
theorem dX5_giveBack_45 : decode cX5_giveBack 45 = .ok (.putfield 110, 3) := by decide +kernel
theorem dX5_giveBack_48 : decode cX5_giveBack 48 = .ok (.aload_n 0, 1) := by decide +kernel
theorem dX5_giveBack_49 : decode cX5_giveBack 49 = .ok (.dup, 1) := by decide +kernel
theorem dX5_giveBack_50 : decode cX5_giveBack 50 = .ok (.getfield 113, 3) := by decide +kernel
theorem dX5_giveBack_53 : decode cX5_giveBack 53 = .ok (.aload_n 2, 1) := by decide +kernel
theorem dX5_giveBack_54 : decode cX5_giveBack 54 = .ok (.getfield 116, 3) := by decide +kernel
theorem dX5_giveBack_57 : decode cX5_giveBack 57 = .ok (.isub, 1) := by decide +kernel
theorem dX5_giveBack_58 : decode cX5_giveBack 58 = .ok (.putfield 113, 3) := by decide +kernel
theorem dX5_giveBack_61 : decode cX5_giveBack 61 = .ok (.aload_n 2, 1) := by decide +kernel
theorem dX5_giveBack_62 : decode cX5_giveBack 62 = .ok (.getfield 116, 3) := by decide +kernel
theorem dX5_giveBack_65 : decode cX5_giveBack 65 = .ok (.ireturn, 1) := by decide +kernel
theorem dX5_join_0 : decode cX5_join 0 = .ok (.aload_n 0, 1) := by decide +kernel
theorem dX5_join_1 : decode cX5_join 1 = .ok (.iload_n 1, 1) := by decide +kernel
theorem dX5_join_2 : decode cX5_join 2 = .ok (.invokevirtual 61, 3) := by decide +kernel
theorem dX5_join_5 : decode cX5_join 5 = .ok (.astore_n 2, 1) := by decide +kernel
theorem dX5_join_6 : decode cX5_join 6 = .ok (.aload_n 2, 1) := by decide +kernel
theorem dX5_join_7 : decode cX5_join 7 = .ok (.aload_n 0, 1) := by decide +kernel
theorem dX5_join_8 : decode cX5_join 8 = .ok (.getfield 65, 3) := by decide +kernel
theorem dX5_join_11 : decode cX5_join 11 = .ok (.invokevirtual 68, 3) := by decide +kernel
theorem dX5_join_14 : decode cX5_join 14 = .ok (.ifCond .eq 13, 3) := by decide +kernel
theorem dX5_join_17 : decode cX5_join 17 = .ok (.new 72, 3) := by decide +kernel
theorem dX5_join_20 : decode cX5_join 20 = .ok (.dup, 1) := by decide +kernel
theorem dX5_join_21 : decode cX5_join 21 = .ok (.ldc 119, 2) := by decide +kernel
theorem dX5_join_23 : decode cX5_join 23 = .ok (.invokespecial 76, 3) := by decide +kernel
theorem dX5_join_26 : decode cX5_join 26 = .ok (.athrow, 1) := by decide +kernel
theorem dX5_join_27 : decode cX5_join 27 = .ok (.aload_n 2, 1) := by decide +kernel
theorem dX5_join_28 : decode cX5_join 28 = .ok (.dup, 1) := by decide +kernel
theorem dX5_join_29 : decode cX5_join 29 = .ok (.getfield 121, 3) := by decide +kernel
theorem dX5_join_32 : decode cX5_join 32 = .ok (.iconst 1, 1) := by decide +kernel
theorem dX5_join_33 : decode cX5_join 33 = .ok (.iadd, 1) := by decide +kernel
theorem dX5_join_34 : decode cX5_join 34 = .ok (.putfield 121, 3) := by decide +kernel
theorem dX5_join_37 : decode cX5_join 37 = .ok (.aload_n 2, 1) := by decide +kernel
theorem dX5_join_38 : decode cX5_join 38 = .ok (.aload_n 0, 1) := by decide +kernel
theorem dX5_join_39 : decode cX5_join 39 = .ok (.getfield 65, 3) := by decide +kernel
theorem dX5_join_42 : decode cX5_join 42 = .ok (.bipush 30, 2) := by decide +kernel
theorem dX5_join_44 : decode cX5_join 44 = .ok (.iadd, 1) := by decide +kernel
theorem dX5_join_45 : decode cX5_join 45 = .ok (.iconst 1, 1) := by decide +kernel
theorem dX5_join_46 : decode cX5_join 46 = .ok (.isub, 1) := by decide +kernel
theorem dX5_join_47 : decode cX5_join 47 = .ok (.putfield 124, 3) := by decide +kernel
theorem dX5_join_50 : decode cX5_join 50 = .ok (.aload_n 0, 1) := by decide +kernel
theorem dX5_join_51 : decode cX5_join 51 = .ok (.dup, 1) := by decide +kernel
theorem dX5_join_52 : decode cX5_join 52 = .ok (.getfield 113, 3) := by decide +kernel
theorem dX5_join_55 : decode cX5_join 55 = .ok (.sipush 6000, 3) := by decide +kernel
theorem dX5_join_58 : decode cX5_join 58 = .ok (.iadd, 1) := by decide +kernel
theorem dX5_join_59 : decode cX5_join 59 = .ok (.putfield 113, 3) := by decide +kernel
theorem dX5_join_62 : decode cX5_join 62 = .ok (.aload_n 2, 1) := by decide +kernel
theorem dX5_join_63 : decode cX5_join 63 = .ok (.getfield 124, 3) := by decide +kernel
theorem dX5_join_66 : decode cX5_join 66 = .ok (.ireturn, 1) := by decide +kernel
theorem dX5_setCap_0 : decode cX5_setCap 0 = .ok (.aload_n 0, 1) := by decide +kernel
theorem dX5_setCap_1 : decode cX5_setCap 1 = .ok (.iload_n 1, 1) := by decide +kernel
theorem dX5_setCap_2 : decode cX5_setCap 2 = .ok (.invokevirtual 127, 3) := by decide +kernel
theorem dX5_setCap_5 : decode cX5_setCap 5 = .ok (.astore_n 3, 1) := by decide +kernel
theorem dX5_setCap_6 : decode cX5_setCap 6 = .ok (.iload_n 2, 1) := by decide +kernel
theorem dX5_setCap_7 : decode cX5_setCap 7 = .ok (.iconst 0, 1) := by decide +kernel
theorem dX5_setCap_8 : decode cX5_setCap 8 = .ok (.bipush 20, 2) := by decide +kernel
theorem dX5_setCap_10 : decode cX5_setCap 10 = .ok (.invokestatic 46, 3) := by decide +kernel
theorem dX5_setCap_13 : decode cX5_setCap 13 = .ok (.aload_n 3, 1) := by decide +kernel
theorem dX5_setCap_14 : decode cX5_setCap 14 = .ok (.iload_n 2, 1) := by decide +kernel
theorem dX5_setCap_15 : decode cX5_setCap 15 = .ok (.putfield 131, 3) := by decide +kernel
theorem dX5_setCap_18 : decode cX5_setCap 18 = .ok (.aload_n 0, 1) := by decide +kernel
theorem dX5_setCap_19 : decode cX5_setCap 19 = .ok (.aload_n 3, 1) := by decide +kernel
theorem dX5_setCap_20 : decode cX5_setCap 20 = .ok (.invokevirtual 134, 3) := by decide +kernel
theorem dX5_setCap_23 : decode cX5_setCap 23 = .ok (.aload_n 3, 1) := by decide +kernel
theorem dX5_setCap_24 : decode cX5_setCap 24 = .ok (.getfield 138, 3) := by decide +kernel
theorem dX5_setCap_27 : decode cX5_setCap 27 = .ok (.ireturn, 1) := by decide +kernel
theorem dX5_close_0 : decode cX5_close 0 = .ok (.aload_n 0, 1) := by decide +kernel
theorem dX5_close_1 : decode cX5_close 1 = .ok (.iload_n 1, 1) := by decide +kernel
theorem dX5_close_2 : decode cX5_close 2 = .ok (.invokevirtual 127, 3) := by decide +kernel
theorem dX5_close_5 : decode cX5_close 5 = .ok (.astore_n 3, 1) := by decide +kernel
theorem dX5_close_6 : decode cX5_close 6 = .ok (.aload_n 3, 1) := by decide +kernel
theorem dX5_close_7 : decode cX5_close 7 = .ok (.iload_n 2, 1) := by decide +kernel
theorem dX5_close_8 : decode cX5_close 8 = .ok (.putfield 141, 3) := by decide +kernel
theorem dX5_close_11 : decode cX5_close 11 = .ok (.iload_n 2, 1) := by decide +kernel
theorem dX5_close_12 : decode cX5_close 12 = .ok (.ifCond .eq 11, 3) := by decide +kernel
theorem dX5_close_15 : decode cX5_close 15 = .ok (.aload_n 0, 1) := by decide +kernel
theorem dX5_close_16 : decode cX5_close 16 = .ok (.aload_n 3, 1) := by decide +kernel
theorem dX5_close_17 : decode cX5_close 17 = .ok (.invokevirtual 144, 3) := by decide +kernel
theorem dX5_close_20 : decode cX5_close 20 = .ok (.goto 4, 3) := by decide +kernel
theorem dX5_close_23 : decode cX5_close 23 = .ok (.iconst 0, 1) := by decide +kernel
theorem dX5_close_24 : decode cX5_close 24 = .ok (.ireturn, 1) := by decide +kernel
theorem dX5_enter_0 : decode cX5_enter 0 = .ok (.aload_n 0, 1) := by decide +kernel
theorem dX5_enter_1 : decode cX5_enter 1 = .ok (.iload_n 1, 1) := by decide +kernel
theorem dX5_enter_2 : decode cX5_enter 2 = .ok (.invokevirtual 87, 3) := by decide +kernel
theorem dX5_enter_5 : decode cX5_enter 5 = .ok (.astore_n 3, 1) := by decide +kernel
theorem dX5_enter_6 : decode cX5_enter 6 = .ok (.aload_n 0, 1) := by decide +kernel
theorem dX5_enter_7 : decode cX5_enter 7 = .ok (.iload_n 2, 1) := by decide +kernel
theorem dX5_enter_8 : decode cX5_enter 8 = .ok (.invokevirtual 127, 3) := by decide +kernel
theorem dX5_enter_11 : decode cX5_enter 11 = .ok (.astore 4, 2) := by decide +kernel
theorem dX5_enter_13 : decode cX5_enter 13 = .ok (.aload_n 0, 1) := by decide +kernel
theorem dX5_enter_14 : decode cX5_enter 14 = .ok (.aload_n 3, 1) := by decide +kernel
theorem dX5_enter_15 : decode cX5_enter 15 = .ok (.invokevirtual 91, 3) := by decide +kernel
theorem dX5_enter_18 : decode cX5_enter 18 = .ok (.aload_n 3, 1) := by decide +kernel
theorem dX5_enter_19 : decode cX5_enter 19 = .ok (.aload 4, 2) := by decide +kernel
theorem dX5_enter_21 : decode cX5_enter 21 = .ok (.getfield 148, 3) := by decide +kernel
theorem dX5_enter_24 : decode cX5_enter 24 = .ok (.invokevirtual 151, 3) := by decide +kernel
theorem dX5_enter_27 : decode cX5_enter 27 = .ok (.ifCond .eq 19, 3) := by decide +kernel
theorem dX5_enter_30 : decode cX5_enter 30 = .ok (.aload_n 3, 1) := by decide +kernel
theorem dX5_enter_31 : decode cX5_enter 31 = .ok (.getfield 154, 3) := by decide +kernel
theorem dX5_enter_34 : decode cX5_enter 34 = .ok (.iconst (-1), 1) := by decide +kernel
theorem dX5_enter_35 : decode cX5_enter 35 = .ok (.if_icmp .ne 11, 3) := by decide +kernel
theorem dX5_enter_38 : decode cX5_enter 38 = .ok (.aload 4, 2) := by decide +kernel
theorem dX5_enter_40 : decode cX5_enter 40 = .ok (.getfield 141, 3) := by decide +kernel
theorem dX5_enter_43 : decode cX5_enter 43 = .ok (.ifCond .eq 13, 3) := by decide +kernel
theorem dX5_enter_46 : decode cX5_enter 46 = .ok (.new 72, 3) := by decide +kernel
theorem dX5_enter_49 : decode cX5_enter 49 = .ok (.dup, 1) := by decide +kernel
theorem dX5_enter_50 : decode cX5_enter 50 = .ok (.ldc 157, 2) := by decide +kernel
theorem dX5_enter_52 : decode cX5_enter 52 = .ok (.invokespecial 76, 3) := by decide +kernel
theorem dX5_enter_55 : decode cX5_enter 55 = .ok (.athrow, 1) := by decide +kernel
theorem dX5_enter_56 : decode cX5_enter 56 = .ok (.aload 4, 2) := by decide +kernel
theorem dX5_enter_58 : decode cX5_enter 58 = .ok (.aload_n 3, 1) := by decide +kernel
theorem dX5_enter_59 : decode cX5_enter 59 = .ok (.invokevirtual 159, 3) := by decide +kernel
theorem dX5_enter_62 : decode cX5_enter 62 = .ok (.aload_n 0, 1) := by decide +kernel
theorem dX5_enter_63 : decode cX5_enter 63 = .ok (.aload 4, 2) := by decide +kernel
theorem dX5_enter_65 : decode cX5_enter 65 = .ok (.invokevirtual 134, 3) := by decide +kernel
theorem dX5_enter_68 : decode cX5_enter 68 = .ok (.aload_n 3, 1) := by decide +kernel
theorem dX5_enter_69 : decode cX5_enter 69 = .ok (.getfield 100, 3) := by decide +kernel
theorem dX5_enter_72 : decode cX5_enter 72 = .ok (.ifCond .ne 7, 3) := by decide +kernel
theorem dX5_enter_75 : decode cX5_enter 75 = .ok (.iconst 1, 1) := by decide +kernel
theorem dX5_enter_76 : decode cX5_enter 76 = .ok (.goto 4, 3) := by decide +kernel
theorem dX5_enter_79 : decode cX5_enter 79 = .ok (.iconst 0, 1) := by decide +kernel
theorem dX5_enter_80 : decode cX5_enter 80 = .ok (.ireturn, 1) := by decide +kernel
theorem dX5_goOut_0 : decode cX5_goOut 0 = .ok (.aload_n 0, 1) := by decide +kernel
theorem dX5_goOut_1 : decode cX5_goOut 1 = .ok (.iload_n 1, 1) := by decide +kernel
theorem dX5_goOut_2 : decode cX5_goOut 2 = .ok (.invokevirtual 87, 3) := by decide +kernel
theorem dX5_goOut_5 : decode cX5_goOut 5 = .ok (.astore_n 2, 1) := by decide +kernel
theorem dX5_goOut_6 : decode cX5_goOut 6 = .ok (.aload_n 2, 1) := by decide +kernel
theorem dX5_goOut_7 : decode cX5_goOut 7 = .ok (.getfield 154, 3) := by decide +kernel
theorem dX5_goOut_10 : decode cX5_goOut 10 = .ok (.iconst (-1), 1) := by decide +kernel
theorem dX5_goOut_11 : decode cX5_goOut 11 = .ok (.if_icmp .ne 13, 3) := by decide +kernel
theorem dX5_goOut_14 : decode cX5_goOut 14 = .ok (.new 72, 3) := by decide +kernel
theorem dX5_goOut_17 : decode cX5_goOut 17 = .ok (.dup, 1) := by decide +kernel
theorem dX5_goOut_18 : decode cX5_goOut 18 = .ok (.ldc 162, 2) := by decide +kernel
theorem dX5_goOut_20 : decode cX5_goOut 20 = .ok (.invokespecial 76, 3) := by decide +kernel
theorem dX5_goOut_23 : decode cX5_goOut 23 = .ok (.athrow, 1) := by decide +kernel
theorem dX5_goOut_24 : decode cX5_goOut 24 = .ok (.aload_n 0, 1) := by decide +kernel
theorem dX5_goOut_25 : decode cX5_goOut 25 = .ok (.aload_n 2, 1) := by decide +kernel
theorem dX5_goOut_26 : decode cX5_goOut 26 = .ok (.getfield 154, 3) := by decide +kernel
theorem dX5_goOut_29 : decode cX5_goOut 29 = .ok (.invokevirtual 127, 3) := by decide +kernel
theorem dX5_goOut_32 : decode cX5_goOut 32 = .ok (.astore_n 3, 1) := by decide +kernel
theorem dX5_goOut_33 : decode cX5_goOut 33 = .ok (.aload_n 2, 1) := by decide +kernel
theorem dX5_goOut_34 : decode cX5_goOut 34 = .ok (.getfield 100, 3) := by decide +kernel
theorem dX5_goOut_37 : decode cX5_goOut 37 = .ok (.ifCond .eq 11, 3) := by decide +kernel
theorem dX5_goOut_40 : decode cX5_goOut 40 = .ok (.aload_n 3, 1) := by decide +kernel
theorem dX5_goOut_41 : decode cX5_goOut 41 = .ok (.aload_n 2, 1) := by decide +kernel
theorem dX5_goOut_42 : decode cX5_goOut 42 = .ok (.invokevirtual 164, 3) := by decide +kernel
theorem dX5_goOut_45 : decode cX5_goOut 45 = .ok (.goto 13, 3) := by decide +kernel
theorem dX5_goOut_48 : decode cX5_goOut 48 = .ok (.aload_n 3, 1) := by decide +kernel
theorem dX5_goOut_49 : decode cX5_goOut 49 = .ok (.dup, 1) := by decide +kernel
theorem dX5_goOut_50 : decode cX5_goOut 50 = .ok (.getfield 138, 3) := by decide +kernel
theorem dX5_goOut_53 : decode cX5_goOut 53 = .ok (.iconst 1, 1) := by decide +kernel
theorem dX5_goOut_54 : decode cX5_goOut 54 = .ok (.isub, 1) := by decide +kernel
theorem dX5_goOut_55 : decode cX5_goOut 55 = .ok (.putfield 138, 3) := by decide +kernel
theorem dX5_goOut_58 : decode cX5_goOut 58 = .ok (.aload_n 2, 1) := by decide +kernel
theorem dX5_goOut_59 : decode cX5_goOut 59 = .ok (.invokevirtual 167, 3) := by decide +kernel
theorem dX5_goOut_62 : decode cX5_goOut 62 = .ok (.aload_n 0, 1) := by decide +kernel
theorem dX5_goOut_63 : decode cX5_goOut 63 = .ok (.aload_n 3, 1) := by decide +kernel
theorem dX5_goOut_64 : decode cX5_goOut 64 = .ok (.invokevirtual 134, 3) := by decide +kernel
theorem dX5_goOut_67 : decode cX5_goOut 67 = .ok (.aload_n 3, 1) := by decide +kernel
theorem dX5_goOut_68 : decode cX5_goOut 68 = .ok (.getfield 170, 3) := by decide +kernel
theorem dX5_goOut_71 : decode cX5_goOut 71 = .ok (.ireturn, 1) := by decide +kernel
theorem dX5_addWork_0 : decode cX5_addWork 0 = .ok (.aload_n 0, 1) := by decide +kernel
theorem dX5_addWork_1 : decode cX5_addWork 1 = .ok (.iload_n 1, 1) := by decide +kernel
theorem dX5_addWork_2 : decode cX5_addWork 2 = .ok (.invokevirtual 127, 3) := by decide +kernel
theorem dX5_addWork_5 : decode cX5_addWork 5 = .ok (.astore_n 2, 1) := by decide +kernel
theorem dX5_addWork_6 : decode cX5_addWork 6 = .ok (.aload_n 0, 1) := by decide +kernel
theorem dX5_addWork_7 : decode cX5_addWork 7 = .ok (.getfield 34, 3) := by decide +kernel
theorem dX5_addWork_10 : decode cX5_addWork 10 = .ok (.invokevirtual 173, 3) := by decide +kernel
theorem dX5_addWork_13 : decode cX5_addWork 13 = .ok (.bipush 12, 2) := by decide +kernel
theorem dX5_addWork_15 : decode cX5_addWork 15 = .ok (.if_icmp .lt 13, 3) := by decide +kernel
theorem dX5_addWork_18 : decode cX5_addWork 18 = .ok (.new 72, 3) := by decide +kernel
theorem dX5_addWork_21 : decode cX5_addWork 21 = .ok (.dup, 1) := by decide +kernel
theorem dX5_addWork_22 : decode cX5_addWork 22 = .ok (.ldc 177, 2) := by decide +kernel
theorem dX5_addWork_24 : decode cX5_addWork 24 = .ok (.invokespecial 76, 3) := by decide +kernel
theorem dX5_addWork_27 : decode cX5_addWork 27 = .ok (.athrow, 1) := by decide +kernel
theorem dX5_addWork_28 : decode cX5_addWork 28 = .ok (.new 179, 3) := by decide +kernel
theorem dX5_addWork_31 : decode cX5_addWork 31 = .ok (.dup, 1) := by decide +kernel
theorem dX5_addWork_32 : decode cX5_addWork 32 = .ok (.aload_n 0, 1) := by decide +kernel
theorem dX5_addWork_33 : decode cX5_addWork 33 = .ok (.getfield 34, 3) := by decide +kernel
theorem dX5_addWork_36 : decode cX5_addWork 36 = .ok (.invokevirtual 173, 3) := by decide +kernel
theorem dX5_addWork_39 : decode cX5_addWork 39 = .ok (.aload_n 2, 1) := by decide +kernel
theorem dX5_addWork_40 : decode cX5_addWork 40 = .ok (.invokespecial 181, 3) := by decide +kernel
theorem dX5_addWork_43 : decode cX5_addWork 43 = .ok (.astore_n 3, 1) := by decide +kernel
theorem dX5_addWork_44 : decode cX5_addWork 44 = .ok (.aload_n 0, 1) := by decide +kernel
theorem dX5_addWork_45 : decode cX5_addWork 45 = .ok (.getfield 34, 3) := by decide +kernel
theorem dX5_addWork_48 : decode cX5_addWork 48 = .ok (.aload_n 3, 1) := by decide +kernel
theorem dX5_addWork_49 : decode cX5_addWork 49 = .ok (.invokevirtual 184, 3) := by decide +kernel
theorem dX5_addWork_52 : decode cX5_addWork 52 = .ok (.pop, 1) := by decide +kernel
theorem dX5_addWork_53 : decode cX5_addWork 53 = .ok (.aload_n 3, 1) := by decide +kernel
theorem dX5_addWork_54 : decode cX5_addWork 54 = .ok (.getfield 188, 3) := by decide +kernel
theorem dX5_addWork_57 : decode cX5_addWork 57 = .ok (.ireturn, 1) := by decide +kernel
theorem dX5_hang_0 : decode cX5_hang 0 = .ok (.aload_n 0, 1) := by decide +kernel
theorem dX5_hang_1 : decode cX5_hang 1 = .ok (.iload_n 1, 1) := by decide +kernel
theorem dX5_hang_2 : decode cX5_hang 2 = .ok (.invokevirtual 189, 3) := by decide +kernel
theorem dX5_hang_5 : decode cX5_hang 5 = .ok (.astore_n 3, 1) := by decide +kernel
theorem dX5_hang_6 : decode cX5_hang 6 = .ok (.aload_n 0, 1) := by decide +kernel
theorem dX5_hang_7 : decode cX5_hang 7 = .ok (.iload_n 2, 1) := by decide +kernel
theorem dX5_hang_8 : decode cX5_hang 8 = .ok (.invokevirtual 127, 3) := by decide +kernel
theorem dX5_hang_11 : decode cX5_hang 11 = .ok (.astore 4, 2) := by decide +kernel
theorem dX5_hang_13 : decode cX5_hang 13 = .ok (.aload_n 3, 1) := by decide +kernel
theorem dX5_hang_14 : decode cX5_hang 14 = .ok (.getfield 193, 3) := by decide +kernel
theorem dX5_hang_17 : decode cX5_hang 17 = .ok (.istore 5, 2) := by decide +kernel
theorem dX5_hang_19 : decode cX5_hang 19 = .ok (.aload 4, 2) := by decide +kernel
theorem dX5_hang_21 : decode cX5_hang 21 = .ok (.getfield 148, 3) := by decide +kernel
theorem dX5_hang_24 : decode cX5_hang 24 = .ok (.aload_n 0, 1) := by decide +kernel
theorem dX5_hang_25 : decode cX5_hang 25 = .ok (.iload 5, 2) := by decide +kernel
theorem dX5_hang_27 : decode cX5_hang 27 = .ok (.invokevirtual 127, 3) := by decide +kernel
theorem dX5_hang_30 : decode cX5_hang 30 = .ok (.getfield 148, 3) := by decide +kernel
theorem dX5_hang_33 : decode cX5_hang 33 = .ok (.if_icmp .eq 13, 3) := by decide +kernel
theorem dX5_hang_36 : decode cX5_hang 36 = .ok (.new 72, 3) := by decide +kernel
theorem dX5_hang_39 : decode cX5_hang 39 = .ok (.dup, 1) := by decide +kernel
theorem dX5_hang_40 : decode cX5_hang 40 = .ok (.ldc 194, 2) := by decide +kernel
theorem dX5_hang_42 : decode cX5_hang 42 = .ok (.invokespecial 76, 3) := by decide +kernel
theorem dX5_hang_45 : decode cX5_hang 45 = .ok (.athrow, 1) := by decide +kernel
theorem dX5_hang_46 : decode cX5_hang 46 = .ok (.aload_n 3, 1) := by decide +kernel
theorem dX5_hang_47 : decode cX5_hang 47 = .ok (.aload 4, 2) := by decide +kernel
theorem dX5_hang_49 : decode cX5_hang 49 = .ok (.getfield 170, 3) := by decide +kernel
theorem dX5_hang_52 : decode cX5_hang 52 = .ok (.putfield 193, 3) := by decide +kernel
theorem dX5_hang_55 : decode cX5_hang 55 = .ok (.iload 5, 2) := by decide +kernel
theorem dX5_hang_57 : decode cX5_hang 57 = .ok (.ireturn, 1) := by decide +kernel
theorem dX5_lend_0 : decode cX5_lend 0 = .ok (.aload_n 0, 1) := by decide +kernel
theorem dX5_lend_1 : decode cX5_lend 1 = .ok (.iload_n 1, 1) := by decide +kernel
theorem dX5_lend_2 : decode cX5_lend 2 = .ok (.invokevirtual 189, 3) := by decide +kernel
theorem dX5_lend_5 : decode cX5_lend 5 = .ok (.astore 4, 2) := by decide +kernel
theorem dX5_lend_7 : decode cX5_lend 7 = .ok (.aload_n 0, 1) := by decide +kernel
theorem dX5_lend_8 : decode cX5_lend 8 = .ok (.iload_n 2, 1) := by decide +kernel
theorem dX5_lend_9 : decode cX5_lend 9 = .ok (.invokevirtual 127, 3) := by decide +kernel
theorem dX5_lend_12 : decode cX5_lend 12 = .ok (.astore 5, 2) := by decide +kernel
theorem dX5_lend_14 : decode cX5_lend 14 = .ok (.iload_n 3, 1) := by decide +kernel
theorem dX5_lend_15 : decode cX5_lend 15 = .ok (.iconst 0, 1) := by decide +kernel
theorem dX5_lend_16 : decode cX5_lend 16 = .ok (.sipush 1000, 3) := by decide +kernel
theorem dX5_lend_19 : decode cX5_lend 19 = .ok (.invokestatic 46, 3) := by decide +kernel
theorem dX5_lend_22 : decode cX5_lend 22 = .ok (.aload 4, 2) := by decide +kernel
theorem dX5_lend_24 : decode cX5_lend 24 = .ok (.getfield 196, 3) := by decide +kernel
theorem dX5_lend_27 : decode cX5_lend 27 = .ok (.ifCond .ne 16, 3) := by decide +kernel
theorem dX5_lend_30 : decode cX5_lend 30 = .ok (.aload 5, 2) := by decide +kernel
theorem dX5_lend_32 : decode cX5_lend 32 = .ok (.getfield 148, 3) := by decide +kernel
theorem dX5_lend_35 : decode cX5_lend 35 = .ok (.aload 4, 2) := by decide +kernel
theorem dX5_lend_37 : decode cX5_lend 37 = .ok (.getfield 199, 3) := by decide +kernel
theorem dX5_lend_40 : decode cX5_lend 40 = .ok (.if_icmp .ne 13, 3) := by decide +kernel
theorem dX5_lend_43 : decode cX5_lend 43 = .ok (.new 72, 3) := by decide +kernel
theorem dX5_lend_46 : decode cX5_lend 46 = .ok (.dup, 1) := by decide +kernel
theorem dX5_lend_47 : decode cX5_lend 47 = .ok (.ldc 200, 2) := by decide +kernel
theorem dX5_lend_49 : decode cX5_lend 49 = .ok (.invokespecial 76, 3) := by decide +kernel
theorem dX5_lend_52 : decode cX5_lend 52 = .ok (.athrow, 1) := by decide +kernel
theorem dX5_lend_53 : decode cX5_lend 53 = .ok (.aload 4, 2) := by decide +kernel
theorem dX5_lend_55 : decode cX5_lend 55 = .ok (.iconst 1, 1) := by decide +kernel
theorem dX5_lend_56 : decode cX5_lend 56 = .ok (.putfield 196, 3) := by decide +kernel
theorem dX5_lend_59 : decode cX5_lend 59 = .ok (.aload 4, 2) := by decide +kernel
theorem dX5_lend_61 : decode cX5_lend 61 = .ok (.iload_n 3, 1) := by decide +kernel
theorem dX5_lend_62 : decode cX5_lend 62 = .ok (.putfield 202, 3) := by decide +kernel
theorem dX5_lend_65 : decode cX5_lend 65 = .ok (.aload 4, 2) := by decide +kernel
theorem dX5_lend_67 : decode cX5_lend 67 = .ok (.iconst 0, 1) := by decide +kernel
theorem dX5_lend_68 : decode cX5_lend 68 = .ok (.putfield 205, 3) := by decide +kernel
theorem dX5_lend_71 : decode cX5_lend 71 = .ok (.aload 4, 2) := by decide +kernel
theorem dX5_lend_73 : decode cX5_lend 73 = .ok (.aload 5, 2) := by decide +kernel
theorem dX5_lend_75 : decode cX5_lend 75 = .ok (.getfield 170, 3) := by decide +kernel
theorem dX5_lend_78 : decode cX5_lend 78 = .ok (.putfield 193, 3) := by decide +kernel
theorem dX5_lend_81 : decode cX5_lend 81 = .ok (.aload 5, 2) := by decide +kernel
theorem dX5_lend_83 : decode cX5_lend 83 = .ok (.getfield 148, 3) := by decide +kernel
theorem dX5_lend_86 : decode cX5_lend 86 = .ok (.ireturn, 1) := by decide +kernel
theorem dX5_bringHome_0 : decode cX5_bringHome 0 = .ok (.aload_n 0, 1) := by decide +kernel
theorem dX5_bringHome_1 : decode cX5_bringHome 1 = .ok (.iload_n 1, 1) := by decide +kernel
theorem dX5_bringHome_2 : decode cX5_bringHome 2 = .ok (.invokevirtual 189, 3) := by decide +kernel
theorem dX5_bringHome_5 : decode cX5_bringHome 5 = .ok (.astore_n 3, 1) := by decide +kernel
theorem dX5_bringHome_6 : decode cX5_bringHome 6 = .ok (.aload_n 0, 1) := by decide +kernel
theorem dX5_bringHome_7 : decode cX5_bringHome 7 = .ok (.iload_n 2, 1) := by decide +kernel
theorem dX5_bringHome_8 : decode cX5_bringHome 8 = .ok (.invokevirtual 127, 3) := by decide +kernel
theorem dX5_bringHome_11 : decode cX5_bringHome 11 = .ok (.astore 4, 2) := by decide +kernel
theorem dX5_bringHome_13 : decode cX5_bringHome 13 = .ok (.aload_n 3, 1) := by decide +kernel
theorem dX5_bringHome_14 : decode cX5_bringHome 14 = .ok (.getfield 196, 3) := by decide +kernel
theorem dX5_bringHome_17 : decode cX5_bringHome 17 = .ok (.ifCond .eq 15, 3) := by decide +kernel
theorem dX5_bringHome_20 : decode cX5_bringHome 20 = .ok (.aload 4, 2) := by decide +kernel
theorem dX5_bringHome_22 : decode cX5_bringHome 22 = .ok (.getfield 148, 3) := by decide +kernel
theorem dX5_bringHome_25 : decode cX5_bringHome 25 = .ok (.aload_n 3, 1) := by decide +kernel
theorem dX5_bringHome_26 : decode cX5_bringHome 26 = .ok (.getfield 199, 3) := by decide +kernel
theorem dX5_bringHome_29 : decode cX5_bringHome 29 = .ok (.if_icmp .eq 13, 3) := by decide +kernel
theorem dX5_bringHome_32 : decode cX5_bringHome 32 = .ok (.new 72, 3) := by decide +kernel
theorem dX5_bringHome_35 : decode cX5_bringHome 35 = .ok (.dup, 1) := by decide +kernel
theorem dX5_bringHome_36 : decode cX5_bringHome 36 = .ok (.ldc 208, 2) := by decide +kernel
theorem dX5_bringHome_38 : decode cX5_bringHome 38 = .ok (.invokespecial 76, 3) := by decide +kernel
theorem dX5_bringHome_41 : decode cX5_bringHome 41 = .ok (.athrow, 1) := by decide +kernel
theorem dX5_bringHome_42 : decode cX5_bringHome 42 = .ok (.aload_n 3, 1) := by decide +kernel
theorem dX5_bringHome_43 : decode cX5_bringHome 43 = .ok (.iconst 0, 1) := by decide +kernel
theorem dX5_bringHome_44 : decode cX5_bringHome 44 = .ok (.putfield 196, 3) := by decide +kernel
theorem dX5_bringHome_47 : decode cX5_bringHome 47 = .ok (.aload_n 3, 1) := by decide +kernel
theorem dX5_bringHome_48 : decode cX5_bringHome 48 = .ok (.aload 4, 2) := by decide +kernel
theorem dX5_bringHome_50 : decode cX5_bringHome 50 = .ok (.getfield 170, 3) := by decide +kernel
theorem dX5_bringHome_53 : decode cX5_bringHome 53 = .ok (.putfield 193, 3) := by decide +kernel
theorem dX5_bringHome_56 : decode cX5_bringHome 56 = .ok (.aload_n 3, 1) := by decide +kernel
theorem dX5_bringHome_57 : decode cX5_bringHome 57 = .ok (.getfield 205, 3) := by decide +kernel
theorem dX5_bringHome_60 : decode cX5_bringHome 60 = .ok (.ireturn, 1) := by decide +kernel
theorem dX5_setShare_0 : decode cX5_setShare 0 = .ok (.aload_n 0, 1) := by decide +kernel
theorem dX5_setShare_1 : decode cX5_setShare 1 = .ok (.iload_n 1, 1) := by decide +kernel
theorem dX5_setShare_2 : decode cX5_setShare 2 = .ok (.invokevirtual 189, 3) := by decide +kernel
theorem dX5_setShare_5 : decode cX5_setShare 5 = .ok (.astore_n 3, 1) := by decide +kernel
theorem dX5_setShare_6 : decode cX5_setShare 6 = .ok (.iload_n 2, 1) := by decide +kernel
theorem dX5_setShare_7 : decode cX5_setShare 7 = .ok (.iconst 0, 1) := by decide +kernel
theorem dX5_setShare_8 : decode cX5_setShare 8 = .ok (.bipush 100, 2) := by decide +kernel
theorem dX5_setShare_10 : decode cX5_setShare 10 = .ok (.invokestatic 46, 3) := by decide +kernel
theorem dX5_setShare_13 : decode cX5_setShare 13 = .ok (.aload_n 3, 1) := by decide +kernel
theorem dX5_setShare_14 : decode cX5_setShare 14 = .ok (.getfield 210, 3) := by decide +kernel
theorem dX5_setShare_17 : decode cX5_setShare 17 = .ok (.istore 4, 2) := by decide +kernel
theorem dX5_setShare_19 : decode cX5_setShare 19 = .ok (.aload_n 3, 1) := by decide +kernel
theorem dX5_setShare_20 : decode cX5_setShare 20 = .ok (.iload_n 2, 1) := by decide +kernel
theorem dX5_setShare_21 : decode cX5_setShare 21 = .ok (.putfield 210, 3) := by decide +kernel
theorem dX5_setShare_24 : decode cX5_setShare 24 = .ok (.iload 4, 2) := by decide +kernel
theorem dX5_setShare_26 : decode cX5_setShare 26 = .ok (.ireturn, 1) := by decide +kernel
theorem dX5_sell_0 : decode cX5_sell 0 = .ok (.iload_n 1, 1) := by decide +kernel
theorem dX5_sell_1 : decode cX5_sell 1 = .ok (.invokestatic 213, 3) := by decide +kernel
theorem dX5_sell_4 : decode cX5_sell 4 = .ok (.aload_n 0, 1) := by decide +kernel
theorem dX5_sell_5 : decode cX5_sell 5 = .ok (.iload_n 2, 1) := by decide +kernel
theorem dX5_sell_6 : decode cX5_sell 6 = .ok (.invokevirtual 189, 3) := by decide +kernel
theorem dX5_sell_9 : decode cX5_sell 9 = .ok (.astore 4, 2) := by decide +kernel
theorem dX5_sell_11 : decode cX5_sell 11 = .ok (.iload_n 3, 1) := by decide +kernel
theorem dX5_sell_12 : decode cX5_sell 12 = .ok (.iconst 1, 1) := by decide +kernel
theorem dX5_sell_13 : decode cX5_sell 13 = .ok (.ldc 216, 2) := by decide +kernel
theorem dX5_sell_15 : decode cX5_sell 15 = .ok (.invokestatic 46, 3) := by decide +kernel
theorem dX5_sell_18 : decode cX5_sell 18 = .ok (.aload 4, 2) := by decide +kernel
theorem dX5_sell_20 : decode cX5_sell 20 = .ok (.getfield 199, 3) := by decide +kernel
theorem dX5_sell_23 : decode cX5_sell 23 = .ok (.iload_n 1, 1) := by decide +kernel
theorem dX5_sell_24 : decode cX5_sell 24 = .ok (.if_icmp .ne 7, 3) := by decide +kernel
theorem dX5_sell_27 : decode cX5_sell 27 = .ok (.iconst 0, 1) := by decide +kernel
theorem dX5_sell_28 : decode cX5_sell 28 = .ok (.goto 13, 3) := by decide +kernel
theorem dX5_sell_31 : decode cX5_sell 31 = .ok (.iload_n 3, 1) := by decide +kernel
theorem dX5_sell_32 : decode cX5_sell 32 = .ok (.aload 4, 2) := by decide +kernel
theorem dX5_sell_34 : decode cX5_sell 34 = .ok (.getfield 210, 3) := by decide +kernel
theorem dX5_sell_37 : decode cX5_sell 37 = .ok (.imul, 1) := by decide +kernel
theorem dX5_sell_38 : decode cX5_sell 38 = .ok (.bipush 100, 2) := by decide +kernel
theorem dX5_sell_40 : decode cX5_sell 40 = .ok (.idiv, 1) := by decide +kernel
theorem dX5_sell_41 : decode cX5_sell 41 = .ok (.istore 5, 2) := by decide +kernel
theorem dX5_sell_43 : decode cX5_sell 43 = .ok (.aload_n 0, 1) := by decide +kernel
theorem dX5_sell_44 : decode cX5_sell 44 = .ok (.aload 4, 2) := by decide +kernel
theorem dX5_sell_46 : decode cX5_sell 46 = .ok (.getfield 199, 3) := by decide +kernel
theorem dX5_sell_49 : decode cX5_sell 49 = .ok (.invokevirtual 42, 3) := by decide +kernel
theorem dX5_sell_52 : decode cX5_sell 52 = .ok (.iload 5, 2) := by decide +kernel
theorem dX5_sell_54 : decode cX5_sell 54 = .ok (.invokevirtual 217, 3) := by decide +kernel
theorem dX5_sell_57 : decode cX5_sell 57 = .ok (.aload_n 0, 1) := by decide +kernel
theorem dX5_sell_58 : decode cX5_sell 58 = .ok (.iload_n 1, 1) := by decide +kernel
theorem dX5_sell_59 : decode cX5_sell 59 = .ok (.invokevirtual 42, 3) := by decide +kernel
theorem dX5_sell_62 : decode cX5_sell 62 = .ok (.iload_n 3, 1) := by decide +kernel
theorem dX5_sell_63 : decode cX5_sell 63 = .ok (.iload 5, 2) := by decide +kernel
theorem dX5_sell_65 : decode cX5_sell 65 = .ok (.isub, 1) := by decide +kernel
theorem dX5_sell_66 : decode cX5_sell 66 = .ok (.invokevirtual 217, 3) := by decide +kernel
theorem dX5_sell_69 : decode cX5_sell 69 = .ok (.aload_n 0, 1) := by decide +kernel
theorem dX5_sell_70 : decode cX5_sell 70 = .ok (.dup, 1) := by decide +kernel
theorem dX5_sell_71 : decode cX5_sell 71 = .ok (.getfield 113, 3) := by decide +kernel
theorem dX5_sell_74 : decode cX5_sell 74 = .ok (.iload_n 3, 1) := by decide +kernel
theorem dX5_sell_75 : decode cX5_sell 75 = .ok (.iadd, 1) := by decide +kernel
theorem dX5_sell_76 : decode cX5_sell 76 = .ok (.putfield 113, 3) := by decide +kernel
theorem dX5_sell_79 : decode cX5_sell 79 = .ok (.iload_n 3, 1) := by decide +kernel
theorem dX5_sell_80 : decode cX5_sell 80 = .ok (.iload 5, 2) := by decide +kernel
theorem dX5_sell_82 : decode cX5_sell 82 = .ok (.isub, 1) := by decide +kernel
theorem dX5_sell_83 : decode cX5_sell 83 = .ok (.ireturn, 1) := by decide +kernel
theorem dX5_give_0 : decode cX5_give 0 = .ok (.iload_n 1, 1) := by decide +kernel
theorem dX5_give_1 : decode cX5_give 1 = .ok (.invokestatic 213, 3) := by decide +kernel
theorem dX5_give_4 : decode cX5_give 4 = .ok (.iload_n 3, 1) := by decide +kernel
theorem dX5_give_5 : decode cX5_give 5 = .ok (.iconst (-1), 1) := by decide +kernel
theorem dX5_give_6 : decode cX5_give 6 = .ok (.if_icmp .eq 22, 3) := by decide +kernel
theorem dX5_give_9 : decode cX5_give 9 = .ok (.aload_n 0, 1) := by decide +kernel
theorem dX5_give_10 : decode cX5_give 10 = .ok (.iload_n 3, 1) := by decide +kernel
theorem dX5_give_11 : decode cX5_give 11 = .ok (.invokevirtual 61, 3) := by decide +kernel
theorem dX5_give_14 : decode cX5_give 14 = .ok (.aload_n 0, 1) := by decide +kernel
theorem dX5_give_15 : decode cX5_give 15 = .ok (.getfield 65, 3) := by decide +kernel
theorem dX5_give_18 : decode cX5_give 18 = .ok (.invokevirtual 68, 3) := by decide +kernel
theorem dX5_give_21 : decode cX5_give 21 = .ok (.ifCond .eq 7, 3) := by decide +kernel
theorem dX5_give_24 : decode cX5_give 24 = .ok (.iconst 1, 1) := by decide +kernel
theorem dX5_give_25 : decode cX5_give 25 = .ok (.goto 4, 3) := by decide +kernel
theorem dX5_give_28 : decode cX5_give 28 = .ok (.iconst 0, 1) := by decide +kernel
theorem dX5_give_29 : decode cX5_give 29 = .ok (.istore 4, 2) := by decide +kernel
theorem dX5_give_31 : decode cX5_give 31 = .ok (.iload_n 2, 1) := by decide +kernel
theorem dX5_give_32 : decode cX5_give 32 = .ok (.iconst 1, 1) := by decide +kernel
theorem dX5_give_33 : decode cX5_give 33 = .ok (.ldc 216, 2) := by decide +kernel
theorem dX5_give_35 : decode cX5_give 35 = .ok (.invokestatic 46, 3) := by decide +kernel
theorem dX5_give_38 : decode cX5_give 38 = .ok (.iload 4, 2) := by decide +kernel
theorem dX5_give_40 : decode cX5_give 40 = .ok (.ifCond .eq 9, 3) := by decide +kernel
theorem dX5_give_43 : decode cX5_give 43 = .ok (.iload_n 2, 1) := by decide +kernel
theorem dX5_give_44 : decode cX5_give 44 = .ok (.iconst 4, 1) := by decide +kernel
theorem dX5_give_45 : decode cX5_give 45 = .ok (.idiv, 1) := by decide +kernel
theorem dX5_give_46 : decode cX5_give 46 = .ok (.goto 4, 3) := by decide +kernel
theorem dX5_give_49 : decode cX5_give 49 = .ok (.iconst 0, 1) := by decide +kernel
theorem dX5_give_50 : decode cX5_give 50 = .ok (.istore 5, 2) := by decide +kernel
theorem dX5_give_52 : decode cX5_give 52 = .ok (.aload_n 0, 1) := by decide +kernel
theorem dX5_give_53 : decode cX5_give 53 = .ok (.iconst (-1), 1) := by decide +kernel
theorem dX5_give_54 : decode cX5_give 54 = .ok (.invokevirtual 42, 3) := by decide +kernel
theorem dX5_give_57 : decode cX5_give 57 = .ok (.iload 5, 2) := by decide +kernel
theorem dX5_give_59 : decode cX5_give 59 = .ok (.ineg, 1) := by decide +kernel
theorem dX5_give_60 : decode cX5_give 60 = .ok (.invokevirtual 220, 3) := by decide +kernel
theorem dX5_give_63 : decode cX5_give 63 = .ok (.aload_n 0, 1) := by decide +kernel
theorem dX5_give_64 : decode cX5_give 64 = .ok (.iload_n 1, 1) := by decide +kernel
theorem dX5_give_65 : decode cX5_give 65 = .ok (.invokevirtual 42, 3) := by decide +kernel
theorem dX5_give_68 : decode cX5_give 68 = .ok (.iload_n 2, 1) := by decide +kernel
theorem dX5_give_69 : decode cX5_give 69 = .ok (.iload 5, 2) := by decide +kernel
theorem dX5_give_71 : decode cX5_give 71 = .ok (.iadd, 1) := by decide +kernel
theorem dX5_give_72 : decode cX5_give 72 = .ok (.invokevirtual 220, 3) := by decide +kernel
theorem dX5_give_75 : decode cX5_give 75 = .ok (.aload_n 0, 1) := by decide +kernel
theorem dX5_give_76 : decode cX5_give 76 = .ok (.dup, 1) := by decide +kernel
theorem dX5_give_77 : decode cX5_give 77 = .ok (.getfield 113, 3) := by decide +kernel
theorem dX5_give_80 : decode cX5_give 80 = .ok (.iload_n 2, 1) := by decide +kernel
theorem dX5_give_81 : decode cX5_give 81 = .ok (.iadd, 1) := by decide +kernel
theorem dX5_give_82 : decode cX5_give 82 = .ok (.putfield 113, 3) := by decide +kernel
theorem dX5_give_85 : decode cX5_give 85 = .ok (.iload_n 2, 1) := by decide +kernel
theorem dX5_give_86 : decode cX5_give 86 = .ok (.iload 5, 2) := by decide +kernel
theorem dX5_give_88 : decode cX5_give 88 = .ok (.iadd, 1) := by decide +kernel
theorem dX5_give_89 : decode cX5_give 89 = .ok (.ireturn, 1) := by decide +kernel
theorem dX5_advance_0 : decode cX5_advance 0 = .ok (.iload_n 1, 1) := by decide +kernel
theorem dX5_advance_1 : decode cX5_advance 1 = .ok (.iconst 1, 1) := by decide +kernel
theorem dX5_advance_2 : decode cX5_advance 2 = .ok (.bipush 60, 2) := by decide +kernel
theorem dX5_advance_4 : decode cX5_advance 4 = .ok (.invokestatic 46, 3) := by decide +kernel
theorem dX5_advance_7 : decode cX5_advance 7 = .ok (.aload_n 0, 1) := by decide +kernel
theorem dX5_advance_8 : decode cX5_advance 8 = .ok (.getfield 65, 3) := by decide +kernel
theorem dX5_advance_11 : decode cX5_advance 11 = .ok (.iload_n 1, 1) := by decide +kernel
theorem dX5_advance_12 : decode cX5_advance 12 = .ok (.iadd, 1) := by decide +kernel
theorem dX5_advance_13 : decode cX5_advance 13 = .ok (.sipush 2000, 3) := by decide +kernel
theorem dX5_advance_16 : decode cX5_advance 16 = .ok (.if_icmp .le 13, 3) := by decide +kernel
theorem dX5_advance_19 : decode cX5_advance 19 = .ok (.new 72, 3) := by decide +kernel
theorem dX5_advance_22 : decode cX5_advance 22 = .ok (.dup, 1) := by decide +kernel
theorem dX5_advance_23 : decode cX5_advance 23 = .ok (.ldc 223, 2) := by decide +kernel
theorem dX5_advance_25 : decode cX5_advance 25 = .ok (.invokespecial 76, 3) := by decide +kernel
theorem dX5_advance_28 : decode cX5_advance 28 = .ok (.athrow, 1) := by decide +kernel
theorem dX5_advance_29 : decode cX5_advance 29 = .ok (.iconst 0, 1) := by decide +kernel
theorem dX5_advance_30 : decode cX5_advance 30 = .ok (.istore_n 2, 1) := by decide +kernel
theorem dX5_advance_31 : decode cX5_advance 31 = .ok (.iload_n 2, 1) := by decide +kernel
theorem dX5_advance_32 : decode cX5_advance 32 = .ok (.iload_n 1, 1) := by decide +kernel
theorem dX5_advance_33 : decode cX5_advance 33 = .ok (.if_icmp .ge 13, 3) := by decide +kernel
theorem dX5_advance_36 : decode cX5_advance 36 = .ok (.aload_n 0, 1) := by decide +kernel
theorem dX5_advance_37 : decode cX5_advance 37 = .ok (.invokevirtual 225, 3) := by decide +kernel
theorem dX5_advance_40 : decode cX5_advance 40 = .ok (.iinc 2 1, 3) := by decide +kernel
theorem dX5_advance_43 : decode cX5_advance 43 = .ok (.goto (-12), 3) := by decide +kernel
theorem dX5_advance_46 : decode cX5_advance 46 = .ok (.aload_n 0, 1) := by decide +kernel
theorem dX5_advance_47 : decode cX5_advance 47 = .ok (.getfield 65, 3) := by decide +kernel
theorem dX5_advance_50 : decode cX5_advance 50 = .ok (.ireturn, 1) := by decide +kernel
theorem dX5_day_0 : decode cX5_day 0 = .ok (.aload_n 0, 1) := by decide +kernel
theorem dX5_day_1 : decode cX5_day 1 = .ok (.getfield 65, 3) := by decide +kernel
theorem dX5_day_4 : decode cX5_day 4 = .ok (.ireturn, 1) := by decide +kernel
theorem dX5_tickets_0 : decode cX5_tickets 0 = .ok (.aload_n 0, 1) := by decide +kernel
theorem dX5_tickets_1 : decode cX5_tickets 1 = .ok (.getfield 30, 3) := by decide +kernel
theorem dX5_tickets_4 : decode cX5_tickets 4 = .ok (.invokevirtual 173, 3) := by decide +kernel
theorem dX5_tickets_7 : decode cX5_tickets 7 = .ok (.ireturn, 1) := by decide +kernel
theorem dX5_whereIs_0 : decode cX5_whereIs 0 = .ok (.aload_n 0, 1) := by decide +kernel
theorem dX5_whereIs_1 : decode cX5_whereIs 1 = .ok (.iload_n 1, 1) := by decide +kernel
theorem dX5_whereIs_2 : decode cX5_whereIs 2 = .ok (.invokevirtual 87, 3) := by decide +kernel
theorem dX5_whereIs_5 : decode cX5_whereIs 5 = .ok (.astore_n 2, 1) := by decide +kernel
theorem dX5_whereIs_6 : decode cX5_whereIs 6 = .ok (.aload_n 2, 1) := by decide +kernel
theorem dX5_whereIs_7 : decode cX5_whereIs 7 = .ok (.getfield 100, 3) := by decide +kernel
theorem dX5_whereIs_10 : decode cX5_whereIs 10 = .ok (.ifCond .eq 13, 3) := by decide +kernel
theorem dX5_whereIs_13 : decode cX5_whereIs 13 = .ok (.bipush 100, 2) := by decide +kernel
theorem dX5_whereIs_15 : decode cX5_whereIs 15 = .ok (.aload_n 2, 1) := by decide +kernel
theorem dX5_whereIs_16 : decode cX5_whereIs 16 = .ok (.getfield 154, 3) := by decide +kernel
theorem dX5_whereIs_19 : decode cX5_whereIs 19 = .ok (.iadd, 1) := by decide +kernel
theorem dX5_whereIs_20 : decode cX5_whereIs 20 = .ok (.goto 7, 3) := by decide +kernel
theorem dX5_whereIs_23 : decode cX5_whereIs 23 = .ok (.aload_n 2, 1) := by decide +kernel
theorem dX5_whereIs_24 : decode cX5_whereIs 24 = .ok (.getfield 154, 3) := by decide +kernel
theorem dX5_whereIs_27 : decode cX5_whereIs 27 = .ok (.ireturn, 1) := by decide +kernel
theorem dX5_seen_0 : decode cX5_seen 0 = .ok (.aload_n 0, 1) := by decide +kernel
theorem dX5_seen_1 : decode cX5_seen 1 = .ok (.iload_n 1, 1) := by decide +kernel
theorem dX5_seen_2 : decode cX5_seen 2 = .ok (.invokevirtual 87, 3) := by decide +kernel
theorem dX5_seen_5 : decode cX5_seen 5 = .ok (.getfield 95, 3) := by decide +kernel
theorem dX5_seen_8 : decode cX5_seen 8 = .ok (.ireturn, 1) := by decide +kernel
theorem dX5_inside_0 : decode cX5_inside 0 = .ok (.aload_n 0, 1) := by decide +kernel
theorem dX5_inside_1 : decode cX5_inside 1 = .ok (.iload_n 1, 1) := by decide +kernel
theorem dX5_inside_2 : decode cX5_inside 2 = .ok (.invokevirtual 127, 3) := by decide +kernel
theorem dX5_inside_5 : decode cX5_inside 5 = .ok (.getfield 138, 3) := by decide +kernel
theorem dX5_inside_8 : decode cX5_inside 8 = .ok (.ireturn, 1) := by decide +kernel
theorem dX5_queued_0 : decode cX5_queued 0 = .ok (.aload_n 0, 1) := by decide +kernel
theorem dX5_queued_1 : decode cX5_queued 1 = .ok (.iload_n 1, 1) := by decide +kernel
theorem dX5_queued_2 : decode cX5_queued 2 = .ok (.invokevirtual 127, 3) := by decide +kernel
theorem dX5_queued_5 : decode cX5_queued 5 = .ok (.getfield 228, 3) := by decide +kernel
theorem dX5_queued_8 : decode cX5_queued 8 = .ok (.astore_n 3, 1) := by decide +kernel
theorem dX5_queued_9 : decode cX5_queued 9 = .ok (.iload_n 2, 1) := by decide +kernel
theorem dX5_queued_10 : decode cX5_queued 10 = .ok (.invokestatic 231, 3) := by decide +kernel
theorem dX5_queued_13 : decode cX5_queued 13 = .ok (.iload_n 2, 1) := by decide +kernel
theorem dX5_queued_14 : decode cX5_queued 14 = .ok (.aload_n 3, 1) := by decide +kernel
theorem dX5_queued_15 : decode cX5_queued 15 = .ok (.invokevirtual 173, 3) := by decide +kernel
theorem dX5_queued_18 : decode cX5_queued 18 = .ok (.if_icmp .ge 17, 3) := by decide +kernel
theorem dX5_queued_21 : decode cX5_queued 21 = .ok (.aload_n 3, 1) := by decide +kernel
theorem dX5_queued_22 : decode cX5_queued 22 = .ok (.iload_n 2, 1) := by decide +kernel
theorem dX5_queued_23 : decode cX5_queued 23 = .ok (.invokevirtual 234, 3) := by decide +kernel
theorem dX5_queued_26 : decode cX5_queued 26 = .ok (.checkcast 96, 3) := by decide +kernel
theorem dX5_queued_29 : decode cX5_queued 29 = .ok (.getfield 238, 3) := by decide +kernel
theorem dX5_queued_32 : decode cX5_queued 32 = .ok (.goto 4, 3) := by decide +kernel
theorem dX5_queued_35 : decode cX5_queued 35 = .ok (.iconst (-1), 1) := by decide +kernel
theorem dX5_queued_36 : decode cX5_queued 36 = .ok (.ireturn, 1) := by decide +kernel
theorem dX5_views_0 : decode cX5_views 0 = .ok (.aload_n 0, 1) := by decide +kernel
theorem dX5_views_1 : decode cX5_views 1 = .ok (.iload_n 1, 1) := by decide +kernel
theorem dX5_views_2 : decode cX5_views 2 = .ok (.invokevirtual 189, 3) := by decide +kernel
theorem dX5_views_5 : decode cX5_views 5 = .ok (.getfield 239, 3) := by decide +kernel
theorem dX5_views_8 : decode cX5_views 8 = .ok (.ireturn, 1) := by decide +kernel
theorem dX5_titleAt_0 : decode cX5_titleAt 0 = .ok (.aload_n 0, 1) := by decide +kernel
theorem dX5_titleAt_1 : decode cX5_titleAt 1 = .ok (.iload_n 1, 1) := by decide +kernel
theorem dX5_titleAt_2 : decode cX5_titleAt 2 = .ok (.invokevirtual 189, 3) := by decide +kernel
theorem dX5_titleAt_5 : decode cX5_titleAt 5 = .ok (.astore_n 3, 1) := by decide +kernel
theorem dX5_titleAt_6 : decode cX5_titleAt 6 = .ok (.iload_n 2, 1) := by decide +kernel
theorem dX5_titleAt_7 : decode cX5_titleAt 7 = .ok (.invokestatic 231, 3) := by decide +kernel
theorem dX5_titleAt_10 : decode cX5_titleAt 10 = .ok (.new 242, 3) := by decide +kernel
theorem dX5_titleAt_13 : decode cX5_titleAt 13 = .ok (.dup, 1) := by decide +kernel
theorem dX5_titleAt_14 : decode cX5_titleAt 14 = .ok (.invokespecial 244, 3) := by decide +kernel
theorem dX5_titleAt_17 : decode cX5_titleAt 17 = .ok (.astore 4, 2) := by decide +kernel
theorem dX5_titleAt_19 : decode cX5_titleAt 19 = .ok (.aload 4, 2) := by decide +kernel
theorem dX5_titleAt_21 : decode cX5_titleAt 21 = .ok (.bipush 65, 2) := by decide +kernel
theorem dX5_titleAt_23 : decode cX5_titleAt 23 = .ok (.aload_n 3, 1) := by decide +kernel
theorem dX5_titleAt_24 : decode cX5_titleAt 24 = .ok (.getfield 199, 3) := by decide +kernel
theorem dX5_titleAt_27 : decode cX5_titleAt 27 = .ok (.iadd, 1) := by decide +kernel
theorem dX5_titleAt_28 : decode cX5_titleAt 28 = .ok (.i2c, 1) := by decide +kernel
theorem dX5_titleAt_29 : decode cX5_titleAt 29 = .ok (.invokevirtual 245, 3) := by decide +kernel
theorem dX5_titleAt_32 : decode cX5_titleAt 32 = .ok (.aload_n 3, 1) := by decide +kernel
theorem dX5_titleAt_33 : decode cX5_titleAt 33 = .ok (.getfield 188, 3) := by decide +kernel
theorem dX5_titleAt_36 : decode cX5_titleAt 36 = .ok (.invokevirtual 249, 3) := by decide +kernel
theorem dX5_titleAt_39 : decode cX5_titleAt 39 = .ok (.bipush 64, 2) := by decide +kernel
theorem dX5_titleAt_41 : decode cX5_titleAt 41 = .ok (.invokevirtual 245, 3) := by decide +kernel
theorem dX5_titleAt_44 : decode cX5_titleAt 44 = .ok (.aload_n 3, 1) := by decide +kernel
theorem dX5_titleAt_45 : decode cX5_titleAt 45 = .ok (.getfield 193, 3) := by decide +kernel
theorem dX5_titleAt_48 : decode cX5_titleAt 48 = .ok (.invokevirtual 249, 3) := by decide +kernel
theorem dX5_titleAt_51 : decode cX5_titleAt 51 = .ok (.pop, 1) := by decide +kernel
theorem dX5_titleAt_52 : decode cX5_titleAt 52 = .ok (.aload_n 3, 1) := by decide +kernel
theorem dX5_titleAt_53 : decode cX5_titleAt 53 = .ok (.getfield 196, 3) := by decide +kernel
theorem dX5_titleAt_56 : decode cX5_titleAt 56 = .ok (.ifCond .eq 18, 3) := by decide +kernel
theorem dX5_titleAt_59 : decode cX5_titleAt 59 = .ok (.aload 4, 2) := by decide +kernel
theorem dX5_titleAt_61 : decode cX5_titleAt 61 = .ok (.bipush 36, 2) := by decide +kernel
theorem dX5_titleAt_63 : decode cX5_titleAt 63 = .ok (.invokevirtual 245, 3) := by decide +kernel
theorem dX5_titleAt_66 : decode cX5_titleAt 66 = .ok (.aload_n 3, 1) := by decide +kernel
theorem dX5_titleAt_67 : decode cX5_titleAt 67 = .ok (.getfield 202, 3) := by decide +kernel
theorem dX5_titleAt_70 : decode cX5_titleAt 70 = .ok (.invokevirtual 249, 3) := by decide +kernel
theorem dX5_titleAt_73 : decode cX5_titleAt 73 = .ok (.pop, 1) := by decide +kernel
theorem dX5_titleAt_74 : decode cX5_titleAt 74 = .ok (.iload_n 2, 1) := by decide +kernel
theorem dX5_titleAt_75 : decode cX5_titleAt 75 = .ok (.aload 4, 2) := by decide +kernel
theorem dX5_titleAt_77 : decode cX5_titleAt 77 = .ok (.invokevirtual 252, 3) := by decide +kernel
theorem dX5_titleAt_80 : decode cX5_titleAt 80 = .ok (.if_icmp .ge 12, 3) := by decide +kernel
theorem dX5_titleAt_83 : decode cX5_titleAt 83 = .ok (.aload 4, 2) := by decide +kernel
theorem dX5_titleAt_85 : decode cX5_titleAt 85 = .ok (.iload_n 2, 1) := by decide +kernel
theorem dX5_titleAt_86 : decode cX5_titleAt 86 = .ok (.invokevirtual 255, 3) := by decide +kernel
theorem dX5_titleAt_89 : decode cX5_titleAt 89 = .ok (.goto 4, 3) := by decide +kernel
theorem dX5_titleAt_92 : decode cX5_titleAt 92 = .ok (.iconst (-1), 1) := by decide +kernel
theorem dX5_titleAt_93 : decode cX5_titleAt 93 = .ok (.ireturn, 1) := by decide +kernel
theorem dX5_money_0 : decode cX5_money 0 = .ok (.aload_n 0, 1) := by decide +kernel
theorem dX5_money_1 : decode cX5_money 1 = .ok (.iload_n 1, 1) := by decide +kernel
theorem dX5_money_2 : decode cX5_money 2 = .ok (.invokevirtual 42, 3) := by decide +kernel
theorem dX5_money_5 : decode cX5_money 5 = .ok (.getfield 259, 3) := by decide +kernel
theorem dX5_money_8 : decode cX5_money 8 = .ok (.ireturn, 1) := by decide +kernel
theorem dX5_moneyBySeen_0 : decode cX5_moneyBySeen 0 = .ok (.aload_n 0, 1) := by decide +kernel
theorem dX5_moneyBySeen_1 : decode cX5_moneyBySeen 1 = .ok (.iload_n 1, 1) := by decide +kernel
theorem dX5_moneyBySeen_2 : decode cX5_moneyBySeen 2 = .ok (.invokevirtual 42, 3) := by decide +kernel
theorem dX5_moneyBySeen_5 : decode cX5_moneyBySeen 5 = .ok (.astore_n 2, 1) := by decide +kernel
theorem dX5_moneyBySeen_6 : decode cX5_moneyBySeen 6 = .ok (.aload_n 2, 1) := by decide +kernel
theorem dX5_moneyBySeen_7 : decode cX5_moneyBySeen 7 = .ok (.getfield 262, 3) := by decide +kernel
theorem dX5_moneyBySeen_10 : decode cX5_moneyBySeen 10 = .ok (.aload_n 2, 1) := by decide +kernel
theorem dX5_moneyBySeen_11 : decode cX5_moneyBySeen 11 = .ok (.getfield 265, 3) := by decide +kernel
theorem dX5_moneyBySeen_14 : decode cX5_moneyBySeen 14 = .ok (.iadd, 1) := by decide +kernel
theorem dX5_moneyBySeen_15 : decode cX5_moneyBySeen 15 = .ok (.aload_n 2, 1) := by decide +kernel
theorem dX5_moneyBySeen_16 : decode cX5_moneyBySeen 16 = .ok (.getfield 268, 3) := by decide +kernel
theorem dX5_moneyBySeen_19 : decode cX5_moneyBySeen 19 = .ok (.iadd, 1) := by decide +kernel
theorem dX5_moneyBySeen_20 : decode cX5_moneyBySeen 20 = .ok (.aload_n 0, 1) := by decide +kernel
theorem dX5_moneyBySeen_21 : decode cX5_moneyBySeen 21 = .ok (.iload_n 1, 1) := by decide +kernel
theorem dX5_moneyBySeen_22 : decode cX5_moneyBySeen 22 = .ok (.invokevirtual 271, 3) := by decide +kernel
theorem dX5_moneyBySeen_25 : decode cX5_moneyBySeen 25 = .ok (.iadd, 1) := by decide +kernel
theorem dX5_moneyBySeen_26 : decode cX5_moneyBySeen 26 = .ok (.aload_n 0, 1) := by decide +kernel
theorem dX5_moneyBySeen_27 : decode cX5_moneyBySeen 27 = .ok (.iload_n 1, 1) := by decide +kernel
theorem dX5_moneyBySeen_28 : decode cX5_moneyBySeen 28 = .ok (.invokevirtual 275, 3) := by decide +kernel
theorem dX5_moneyBySeen_31 : decode cX5_moneyBySeen 31 = .ok (.iadd, 1) := by decide +kernel
theorem dX5_moneyBySeen_32 : decode cX5_moneyBySeen 32 = .ok (.ireturn, 1) := by decide +kernel
theorem dX5_held_0 : decode cX5_held 0 = .ok (.iconst 0, 1) := by decide +kernel
theorem dX5_held_1 : decode cX5_held 1 = .ok (.istore_n 1, 1) := by decide +kernel
theorem dX5_held_2 : decode cX5_held 2 = .ok (.aload_n 0, 1) := by decide +kernel
theorem dX5_held_3 : decode cX5_held 3 = .ok (.getfield 278, 3) := by decide +kernel
theorem dX5_held_6 : decode cX5_held 6 = .ok (.istore_n 2, 1) := by decide +kernel
theorem dX5_held_7 : decode cX5_held 7 = .ok (.iload_n 2, 1) := by decide +kernel
theorem dX5_held_8 : decode cX5_held 8 = .ok (.aload_n 0, 1) := by decide +kernel
theorem dX5_held_9 : decode cX5_held 9 = .ok (.getfield 30, 3) := by decide +kernel
theorem dX5_held_12 : decode cX5_held 12 = .ok (.invokevirtual 173, 3) := by decide +kernel
theorem dX5_held_15 : decode cX5_held 15 = .ok (.if_icmp .ge 39, 3) := by decide +kernel
theorem dX5_held_18 : decode cX5_held 18 = .ok (.aload_n 0, 1) := by decide +kernel
theorem dX5_held_19 : decode cX5_held 19 = .ok (.getfield 30, 3) := by decide +kernel
theorem dX5_held_22 : decode cX5_held 22 = .ok (.iload_n 2, 1) := by decide +kernel
theorem dX5_held_23 : decode cX5_held 23 = .ok (.invokevirtual 234, 3) := by decide +kernel
theorem dX5_held_26 : decode cX5_held 26 = .ok (.checkcast 96, 3) := by decide +kernel
theorem dX5_held_29 : decode cX5_held 29 = .ok (.astore_n 3, 1) := by decide +kernel
theorem dX5_held_30 : decode cX5_held 30 = .ok (.iload_n 1, 1) := by decide +kernel
theorem dX5_held_31 : decode cX5_held 31 = .ok (.aload_n 3, 1) := by decide +kernel
theorem dX5_held_32 : decode cX5_held 32 = .ok (.getfield 110, 3) := by decide +kernel
theorem dX5_held_35 : decode cX5_held 35 = .ok (.ifCond .eq 7, 3) := by decide +kernel
theorem dX5_held_38 : decode cX5_held 38 = .ok (.iconst 0, 1) := by decide +kernel
theorem dX5_held_39 : decode cX5_held 39 = .ok (.goto 7, 3) := by decide +kernel
theorem dX5_held_42 : decode cX5_held 42 = .ok (.aload_n 3, 1) := by decide +kernel
theorem dX5_held_43 : decode cX5_held 43 = .ok (.getfield 116, 3) := by decide +kernel
theorem dX5_held_46 : decode cX5_held 46 = .ok (.iadd, 1) := by decide +kernel
theorem dX5_held_47 : decode cX5_held 47 = .ok (.istore_n 1, 1) := by decide +kernel
theorem dX5_held_48 : decode cX5_held 48 = .ok (.iinc 2 1, 3) := by decide +kernel
theorem dX5_held_51 : decode cX5_held 51 = .ok (.goto (-44), 3) := by decide +kernel
theorem dX5_held_54 : decode cX5_held 54 = .ok (.iconst 0, 1) := by decide +kernel
theorem dX5_held_55 : decode cX5_held 55 = .ok (.istore_n 2, 1) := by decide +kernel
theorem dX5_held_56 : decode cX5_held 56 = .ok (.iload_n 2, 1) := by decide +kernel
theorem dX5_held_57 : decode cX5_held 57 = .ok (.aload_n 0, 1) := by decide +kernel
theorem dX5_held_58 : decode cX5_held 58 = .ok (.getfield 23, 3) := by decide +kernel
theorem dX5_held_61 : decode cX5_held 61 = .ok (.arraylength, 1) := by decide +kernel
theorem dX5_held_62 : decode cX5_held 62 = .ok (.if_icmp .ge 29, 3) := by decide +kernel
theorem dX5_held_65 : decode cX5_held 65 = .ok (.iload_n 1, 1) := by decide +kernel
theorem dX5_held_66 : decode cX5_held 66 = .ok (.aload_n 0, 1) := by decide +kernel
theorem dX5_held_67 : decode cX5_held 67 = .ok (.getfield 23, 3) := by decide +kernel
theorem dX5_held_70 : decode cX5_held 70 = .ok (.iload_n 2, 1) := by decide +kernel
theorem dX5_held_71 : decode cX5_held 71 = .ok (.aaload, 1) := by decide +kernel
theorem dX5_held_72 : decode cX5_held 72 = .ok (.aload_n 0, 1) := by decide +kernel
theorem dX5_held_73 : decode cX5_held 73 = .ok (.getfield 65, 3) := by decide +kernel
theorem dX5_held_76 : decode cX5_held 76 = .ok (.invokevirtual 281, 3) := by decide +kernel
theorem dX5_held_79 : decode cX5_held 79 = .ok (.sipush 200, 3) := by decide +kernel
theorem dX5_held_82 : decode cX5_held 82 = .ok (.imul, 1) := by decide +kernel
theorem dX5_held_83 : decode cX5_held 83 = .ok (.iadd, 1) := by decide +kernel
theorem dX5_held_84 : decode cX5_held 84 = .ok (.istore_n 1, 1) := by decide +kernel
theorem dX5_held_85 : decode cX5_held 85 = .ok (.iinc 2 1, 3) := by decide +kernel
theorem dX5_held_88 : decode cX5_held 88 = .ok (.goto (-32), 3) := by decide +kernel
theorem dX5_held_91 : decode cX5_held 91 = .ok (.iload_n 1, 1) := by decide +kernel
theorem dX5_held_92 : decode cX5_held 92 = .ok (.ireturn, 1) := by decide +kernel
theorem dX5_takings_0 : decode cX5_takings 0 = .ok (.aload_n 0, 1) := by decide +kernel
theorem dX5_takings_1 : decode cX5_takings 1 = .ok (.getfield 113, 3) := by decide +kernel
theorem dX5_takings_4 : decode cX5_takings 4 = .ok (.ireturn, 1) := by decide +kernel
theorem dX5_tillAt_0 : decode cX5_tillAt 0 = .ok (.iload_n 1, 1) := by decide +kernel
theorem dX5_tillAt_1 : decode cX5_tillAt 1 = .ok (.iconst (-1), 1) := by decide +kernel
theorem dX5_tillAt_2 : decode cX5_tillAt 2 = .ok (.if_icmp .lt 8, 3) := by decide +kernel
theorem dX5_tillAt_5 : decode cX5_tillAt 5 = .ok (.iload_n 1, 1) := by decide +kernel
theorem dX5_tillAt_6 : decode cX5_tillAt 6 = .ok (.iconst 4, 1) := by decide +kernel
theorem dX5_tillAt_7 : decode cX5_tillAt 7 = .ok (.if_icmp .lt 14, 3) := by decide +kernel
theorem dX5_tillAt_10 : decode cX5_tillAt 10 = .ok (.new 284, 3) := by decide +kernel
theorem dX5_tillAt_13 : decode cX5_tillAt 13 = .ok (.dup, 1) := by decide +kernel
theorem dX5_tillAt_14 : decode cX5_tillAt 14 = .ok (.ldc_w 286, 3) := by decide +kernel
theorem dX5_tillAt_17 : decode cX5_tillAt 17 = .ok (.invokespecial 288, 3) := by decide +kernel
theorem dX5_tillAt_20 : decode cX5_tillAt 20 = .ok (.athrow, 1) := by decide +kernel
theorem dX5_tillAt_21 : decode cX5_tillAt 21 = .ok (.aload_n 0, 1) := by decide +kernel
theorem dX5_tillAt_22 : decode cX5_tillAt 22 = .ok (.getfield 11, 3) := by decide +kernel
theorem dX5_tillAt_25 : decode cX5_tillAt 25 = .ok (.iload_n 1, 1) := by decide +kernel
theorem dX5_tillAt_26 : decode cX5_tillAt 26 = .ok (.iconst 1, 1) := by decide +kernel
theorem dX5_tillAt_27 : decode cX5_tillAt 27 = .ok (.iadd, 1) := by decide +kernel
theorem dX5_tillAt_28 : decode cX5_tillAt 28 = .ok (.aaload, 1) := by decide +kernel
theorem dX5_tillAt_29 : decode cX5_tillAt 29 = .ok (.areturn, 1) := by decide +kernel
theorem dX5_checkRealHouse_0 : decode cX5_checkRealHouse 0 = .ok (.iload_n 0, 1) := by decide +kernel
theorem dX5_checkRealHouse_1 : decode cX5_checkRealHouse 1 = .ok (.ifCond .lt 8, 3) := by decide +kernel
theorem dX5_checkRealHouse_4 : decode cX5_checkRealHouse 4 = .ok (.iload_n 0, 1) := by decide +kernel
theorem dX5_checkRealHouse_5 : decode cX5_checkRealHouse 5 = .ok (.iconst 4, 1) := by decide +kernel
theorem dX5_checkRealHouse_6 : decode cX5_checkRealHouse 6 = .ok (.if_icmp .lt 14, 3) := by decide +kernel
theorem dX5_checkRealHouse_9 : decode cX5_checkRealHouse 9 = .ok (.new 284, 3) := by decide +kernel
theorem dX5_checkRealHouse_12 : decode cX5_checkRealHouse 12 = .ok (.dup, 1) := by decide +kernel
theorem dX5_checkRealHouse_13 : decode cX5_checkRealHouse 13 = .ok (.ldc_w 286, 3) := by decide +kernel
theorem dX5_checkRealHouse_16 : decode cX5_checkRealHouse 16 = .ok (.invokespecial 288, 3) := by decide +kernel
theorem dX5_checkRealHouse_19 : decode cX5_checkRealHouse 19 = .ok (.athrow, 1) := by decide +kernel
theorem dX5_checkRealHouse_20 : decode cX5_checkRealHouse 20 = .ok (.return_, 1) := by decide +kernel
theorem dX5_roomAt_0 : decode cX5_roomAt 0 = .ok (.iload_n 1, 1) := by decide +kernel
theorem dX5_roomAt_1 : decode cX5_roomAt 1 = .ok (.ifCond .lt 12, 3) := by decide +kernel
theorem dX5_roomAt_4 : decode cX5_roomAt 4 = .ok (.iload_n 1, 1) := by decide +kernel
theorem dX5_roomAt_5 : decode cX5_roomAt 5 = .ok (.aload_n 0, 1) := by decide +kernel
theorem dX5_roomAt_6 : decode cX5_roomAt 6 = .ok (.getfield 17, 3) := by decide +kernel
theorem dX5_roomAt_9 : decode cX5_roomAt 9 = .ok (.arraylength, 1) := by decide +kernel
theorem dX5_roomAt_10 : decode cX5_roomAt 10 = .ok (.if_icmp .lt 14, 3) := by decide +kernel
theorem dX5_roomAt_13 : decode cX5_roomAt 13 = .ok (.new 284, 3) := by decide +kernel
theorem dX5_roomAt_16 : decode cX5_roomAt 16 = .ok (.dup, 1) := by decide +kernel
theorem dX5_roomAt_17 : decode cX5_roomAt 17 = .ok (.ldc_w 289, 3) := by decide +kernel
theorem dX5_roomAt_20 : decode cX5_roomAt 20 = .ok (.invokespecial 288, 3) := by decide +kernel
theorem dX5_roomAt_23 : decode cX5_roomAt 23 = .ok (.athrow, 1) := by decide +kernel
theorem dX5_roomAt_24 : decode cX5_roomAt 24 = .ok (.aload_n 0, 1) := by decide +kernel
theorem dX5_roomAt_25 : decode cX5_roomAt 25 = .ok (.getfield 17, 3) := by decide +kernel
theorem dX5_roomAt_28 : decode cX5_roomAt 28 = .ok (.iload_n 1, 1) := by decide +kernel
theorem dX5_roomAt_29 : decode cX5_roomAt 29 = .ok (.aaload, 1) := by decide +kernel
theorem dX5_roomAt_30 : decode cX5_roomAt 30 = .ok (.areturn, 1) := by decide +kernel
theorem dX5_memberAt_0 : decode cX5_memberAt 0 = .ok (.iload_n 1, 1) := by decide +kernel
theorem dX5_memberAt_1 : decode cX5_memberAt 1 = .ok (.ifCond .lt 12, 3) := by decide +kernel
theorem dX5_memberAt_4 : decode cX5_memberAt 4 = .ok (.iload_n 1, 1) := by decide +kernel
theorem dX5_memberAt_5 : decode cX5_memberAt 5 = .ok (.aload_n 0, 1) := by decide +kernel
theorem dX5_memberAt_6 : decode cX5_memberAt 6 = .ok (.getfield 23, 3) := by decide +kernel
theorem dX5_memberAt_9 : decode cX5_memberAt 9 = .ok (.arraylength, 1) := by decide +kernel
theorem dX5_memberAt_10 : decode cX5_memberAt 10 = .ok (.if_icmp .lt 14, 3) := by decide +kernel
theorem dX5_memberAt_13 : decode cX5_memberAt 13 = .ok (.new 284, 3) := by decide +kernel
theorem dX5_memberAt_16 : decode cX5_memberAt 16 = .ok (.dup, 1) := by decide +kernel
theorem dX5_memberAt_17 : decode cX5_memberAt 17 = .ok (.ldc_w 291, 3) := by decide +kernel
theorem dX5_memberAt_20 : decode cX5_memberAt 20 = .ok (.invokespecial 288, 3) := by decide +kernel
theorem dX5_memberAt_23 : decode cX5_memberAt 23 = .ok (.athrow, 1) := by decide +kernel
theorem dX5_memberAt_24 : decode cX5_memberAt 24 = .ok (.aload_n 0, 1) := by decide +kernel
theorem dX5_memberAt_25 : decode cX5_memberAt 25 = .ok (.getfield 23, 3) := by decide +kernel
theorem dX5_memberAt_28 : decode cX5_memberAt 28 = .ok (.iload_n 1, 1) := by decide +kernel
theorem dX5_memberAt_29 : decode cX5_memberAt 29 = .ok (.aaload, 1) := by decide +kernel
theorem dX5_memberAt_30 : decode cX5_memberAt 30 = .ok (.areturn, 1) := by decide +kernel
theorem dX5_ticketAt_0 : decode cX5_ticketAt 0 = .ok (.iload_n 1, 1) := by decide +kernel
theorem dX5_ticketAt_1 : decode cX5_ticketAt 1 = .ok (.ifCond .lt 14, 3) := by decide +kernel
theorem dX5_ticketAt_4 : decode cX5_ticketAt 4 = .ok (.iload_n 1, 1) := by decide +kernel
theorem dX5_ticketAt_5 : decode cX5_ticketAt 5 = .ok (.aload_n 0, 1) := by decide +kernel
theorem dX5_ticketAt_6 : decode cX5_ticketAt 6 = .ok (.getfield 30, 3) := by decide +kernel
theorem dX5_ticketAt_9 : decode cX5_ticketAt 9 = .ok (.invokevirtual 173, 3) := by decide +kernel
theorem dX5_ticketAt_12 : decode cX5_ticketAt 12 = .ok (.if_icmp .lt 14, 3) := by decide +kernel
theorem dX5_ticketAt_15 : decode cX5_ticketAt 15 = .ok (.new 284, 3) := by decide +kernel
theorem dX5_ticketAt_18 : decode cX5_ticketAt 18 = .ok (.dup, 1) := by decide +kernel
theorem dX5_ticketAt_19 : decode cX5_ticketAt 19 = .ok (.ldc_w 293, 3) := by decide +kernel
theorem dX5_ticketAt_22 : decode cX5_ticketAt 22 = .ok (.invokespecial 288, 3) := by decide +kernel
theorem dX5_ticketAt_25 : decode cX5_ticketAt 25 = .ok (.athrow, 1) := by decide +kernel
theorem dX5_ticketAt_26 : decode cX5_ticketAt 26 = .ok (.aload_n 0, 1) := by decide +kernel
theorem dX5_ticketAt_27 : decode cX5_ticketAt 27 = .ok (.getfield 30, 3) := by decide +kernel
theorem dX5_ticketAt_30 : decode cX5_ticketAt 30 = .ok (.iload_n 1, 1) := by decide +kernel
theorem dX5_ticketAt_31 : decode cX5_ticketAt 31 = .ok (.invokevirtual 234, 3) := by decide +kernel
theorem dX5_ticketAt_34 : decode cX5_ticketAt 34 = .ok (.checkcast 96, 3) := by decide +kernel
theorem dX5_ticketAt_37 : decode cX5_ticketAt 37 = .ok (.areturn, 1) := by decide +kernel
theorem dX5_workAt_0 : decode cX5_workAt 0 = .ok (.iload_n 1, 1) := by decide +kernel
theorem dX5_workAt_1 : decode cX5_workAt 1 = .ok (.ifCond .lt 14, 3) := by decide +kernel
theorem dX5_workAt_4 : decode cX5_workAt 4 = .ok (.iload_n 1, 1) := by decide +kernel
theorem dX5_workAt_5 : decode cX5_workAt 5 = .ok (.aload_n 0, 1) := by decide +kernel
theorem dX5_workAt_6 : decode cX5_workAt 6 = .ok (.getfield 34, 3) := by decide +kernel
theorem dX5_workAt_9 : decode cX5_workAt 9 = .ok (.invokevirtual 173, 3) := by decide +kernel
theorem dX5_workAt_12 : decode cX5_workAt 12 = .ok (.if_icmp .lt 14, 3) := by decide +kernel
theorem dX5_workAt_15 : decode cX5_workAt 15 = .ok (.new 284, 3) := by decide +kernel
theorem dX5_workAt_18 : decode cX5_workAt 18 = .ok (.dup, 1) := by decide +kernel
theorem dX5_workAt_19 : decode cX5_workAt 19 = .ok (.ldc_w 295, 3) := by decide +kernel
theorem dX5_workAt_22 : decode cX5_workAt 22 = .ok (.invokespecial 288, 3) := by decide +kernel
theorem dX5_workAt_25 : decode cX5_workAt 25 = .ok (.athrow, 1) := by decide +kernel
theorem dX5_workAt_26 : decode cX5_workAt 26 = .ok (.aload_n 0, 1) := by decide +kernel
theorem dX5_workAt_27 : decode cX5_workAt 27 = .ok (.getfield 34, 3) := by decide +kernel
theorem dX5_workAt_30 : decode cX5_workAt 30 = .ok (.iload_n 1, 1) := by decide +kernel
theorem dX5_workAt_31 : decode cX5_workAt 31 = .ok (.invokevirtual 234, 3) := by decide +kernel
theorem dX5_workAt_34 : decode cX5_workAt 34 = .ok (.checkcast 179, 3) := by decide +kernel
theorem dX5_workAt_37 : decode cX5_workAt 37 = .ok (.areturn, 1) := by decide +kernel
theorem dX5_checkPlace_0 : decode cX5_checkPlace 0 = .ok (.iload_n 0, 1) := by decide +kernel
theorem dX5_checkPlace_1 : decode cX5_checkPlace 1 = .ok (.ifCond .ge 14, 3) := by decide +kernel
theorem dX5_checkPlace_4 : decode cX5_checkPlace 4 = .ok (.new 284, 3) := by decide +kernel
theorem dX5_checkPlace_7 : decode cX5_checkPlace 7 = .ok (.dup, 1) := by decide +kernel
theorem dX5_checkPlace_8 : decode cX5_checkPlace 8 = .ok (.ldc_w 297, 3) := by decide +kernel
theorem dX5_checkPlace_11 : decode cX5_checkPlace 11 = .ok (.invokespecial 288, 3) := by decide +kernel
theorem dX5_checkPlace_14 : decode cX5_checkPlace 14 = .ok (.athrow, 1) := by decide +kernel
theorem dX5_checkPlace_15 : decode cX5_checkPlace 15 = .ok (.return_, 1) := by decide +kernel
theorem dX5_checkRange_0 : decode cX5_checkRange 0 = .ok (.iload_n 0, 1) := by decide +kernel
theorem dX5_checkRange_1 : decode cX5_checkRange 1 = .ok (.iload_n 1, 1) := by decide +kernel
theorem dX5_checkRange_2 : decode cX5_checkRange 2 = .ok (.if_icmp .lt 8, 3) := by decide +kernel
theorem dX5_checkRange_5 : decode cX5_checkRange 5 = .ok (.iload_n 0, 1) := by decide +kernel
theorem dX5_checkRange_6 : decode cX5_checkRange 6 = .ok (.iload_n 2, 1) := by decide +kernel
theorem dX5_checkRange_7 : decode cX5_checkRange 7 = .ok (.if_icmp .le 14, 3) := by decide +kernel
theorem dX5_checkRange_10 : decode cX5_checkRange 10 = .ok (.new 299, 3) := by decide +kernel
theorem dX5_checkRange_13 : decode cX5_checkRange 13 = .ok (.dup, 1) := by decide +kernel
theorem dX5_checkRange_14 : decode cX5_checkRange 14 = .ok (.ldc_w 301, 3) := by decide +kernel
theorem dX5_checkRange_17 : decode cX5_checkRange 17 = .ok (.invokespecial 303, 3) := by decide +kernel
theorem dX5_checkRange_20 : decode cX5_checkRange 20 = .ok (.athrow, 1) := by decide +kernel
theorem dX5_checkRange_21 : decode cX5_checkRange 21 = .ok (.return_, 1) := by decide +kernel
theorem dX5_checkTicketsLeft_0 : decode cX5_checkTicketsLeft 0 = .ok (.aload_n 0, 1) := by decide +kernel
theorem dX5_checkTicketsLeft_1 : decode cX5_checkTicketsLeft 1 = .ok (.getfield 30, 3) := by decide +kernel
theorem dX5_checkTicketsLeft_4 : decode cX5_checkTicketsLeft 4 = .ok (.invokevirtual 173, 3) := by decide +kernel
theorem dX5_checkTicketsLeft_7 : decode cX5_checkTicketsLeft 7 = .ok (.bipush 80, 2) := by decide +kernel
theorem dX5_checkTicketsLeft_9 : decode cX5_checkTicketsLeft 9 = .ok (.if_icmp .lt 14, 3) := by decide +kernel
theorem dX5_checkTicketsLeft_12 : decode cX5_checkTicketsLeft 12 = .ok (.new 72, 3) := by decide +kernel
theorem dX5_checkTicketsLeft_15 : decode cX5_checkTicketsLeft 15 = .ok (.dup, 1) := by decide +kernel
theorem dX5_checkTicketsLeft_16 : decode cX5_checkTicketsLeft 16 = .ok (.ldc_w 304, 3) := by decide +kernel
theorem dX5_checkTicketsLeft_19 : decode cX5_checkTicketsLeft 19 = .ok (.invokespecial 76, 3) := by decide +kernel
theorem dX5_checkTicketsLeft_22 : decode cX5_checkTicketsLeft 22 = .ok (.athrow, 1) := by decide +kernel
theorem dX5_checkTicketsLeft_23 : decode cX5_checkTicketsLeft 23 = .ok (.return_, 1) := by decide +kernel
theorem dX5_checkUsable_0 : decode cX5_checkUsable 0 = .ok (.aload_n 1, 1) := by decide +kernel
theorem dX5_checkUsable_1 : decode cX5_checkUsable 1 = .ok (.getfield 238, 3) := by decide +kernel
theorem dX5_checkUsable_4 : decode cX5_checkUsable 4 = .ok (.aload_n 0, 1) := by decide +kernel
theorem dX5_checkUsable_5 : decode cX5_checkUsable 5 = .ok (.getfield 278, 3) := by decide +kernel
theorem dX5_checkUsable_8 : decode cX5_checkUsable 8 = .ok (.if_icmp .lt 10, 3) := by decide +kernel
theorem dX5_checkUsable_11 : decode cX5_checkUsable 11 = .ok (.aload_n 1, 1) := by decide +kernel
theorem dX5_checkUsable_12 : decode cX5_checkUsable 12 = .ok (.getfield 110, 3) := by decide +kernel
theorem dX5_checkUsable_15 : decode cX5_checkUsable 15 = .ok (.ifCond .eq 14, 3) := by decide +kernel
theorem dX5_checkUsable_18 : decode cX5_checkUsable 18 = .ok (.new 72, 3) := by decide +kernel
theorem dX5_checkUsable_21 : decode cX5_checkUsable 21 = .ok (.dup, 1) := by decide +kernel
theorem dX5_checkUsable_22 : decode cX5_checkUsable 22 = .ok (.ldc_w 306, 3) := by decide +kernel
theorem dX5_checkUsable_25 : decode cX5_checkUsable 25 = .ok (.invokespecial 76, 3) := by decide +kernel
theorem dX5_checkUsable_28 : decode cX5_checkUsable 28 = .ok (.athrow, 1) := by decide +kernel
theorem dX5_checkUsable_29 : decode cX5_checkUsable 29 = .ok (.return_, 1) := by decide +kernel
theorem dX5_issue_0 : decode cX5_issue 0 = .ok (.new 96, 3) := by decide +kernel
theorem dX5_issue_3 : decode cX5_issue 3 = .ok (.dup, 1) := by decide +kernel
theorem dX5_issue_4 : decode cX5_issue 4 = .ok (.aload_n 0, 1) := by decide +kernel
theorem dX5_issue_5 : decode cX5_issue 5 = .ok (.getfield 30, 3) := by decide +kernel
theorem dX5_issue_8 : decode cX5_issue 8 = .ok (.invokevirtual 173, 3) := by decide +kernel
theorem dX5_issue_11 : decode cX5_issue 11 = .ok (.iload_n 1, 1) := by decide +kernel
theorem dX5_issue_12 : decode cX5_issue 12 = .ok (.iload_n 2, 1) := by decide +kernel
theorem dX5_issue_13 : decode cX5_issue 13 = .ok (.iload_n 3, 1) := by decide +kernel
theorem dX5_issue_14 : decode cX5_issue 14 = .ok (.iload 4, 2) := by decide +kernel
theorem dX5_issue_16 : decode cX5_issue 16 = .ok (.invokespecial 308, 3) := by decide +kernel
theorem dX5_issue_19 : decode cX5_issue 19 = .ok (.astore 5, 2) := by decide +kernel
theorem dX5_issue_21 : decode cX5_issue 21 = .ok (.aload_n 0, 1) := by decide +kernel
theorem dX5_issue_22 : decode cX5_issue 22 = .ok (.getfield 30, 3) := by decide +kernel
theorem dX5_issue_25 : decode cX5_issue 25 = .ok (.aload 5, 2) := by decide +kernel
theorem dX5_issue_27 : decode cX5_issue 27 = .ok (.invokevirtual 184, 3) := by decide +kernel
theorem dX5_issue_30 : decode cX5_issue 30 = .ok (.pop, 1) := by decide +kernel
theorem dX5_issue_31 : decode cX5_issue 31 = .ok (.aload_n 0, 1) := by decide +kernel
theorem dX5_issue_32 : decode cX5_issue 32 = .ok (.dup, 1) := by decide +kernel
theorem dX5_issue_33 : decode cX5_issue 33 = .ok (.getfield 113, 3) := by decide +kernel
theorem dX5_issue_36 : decode cX5_issue 36 = .ok (.iload 4, 2) := by decide +kernel
theorem dX5_issue_38 : decode cX5_issue 38 = .ok (.iadd, 1) := by decide +kernel
theorem dX5_issue_39 : decode cX5_issue 39 = .ok (.putfield 113, 3) := by decide +kernel
theorem dX5_issue_42 : decode cX5_issue 42 = .ok (.aload 5, 2) := by decide +kernel
theorem dX5_issue_44 : decode cX5_issue 44 = .ok (.getfield 238, 3) := by decide +kernel
theorem dX5_issue_47 : decode cX5_issue 47 = .ok (.ireturn, 1) := by decide +kernel
theorem dX5_countOfToday_0 : decode cX5_countOfToday 0 = .ok (.iconst 0, 1) := by decide +kernel
theorem dX5_countOfToday_1 : decode cX5_countOfToday 1 = .ok (.istore_n 3, 1) := by decide +kernel
theorem dX5_countOfToday_2 : decode cX5_countOfToday 2 = .ok (.aload_n 0, 1) := by decide +kernel
theorem dX5_countOfToday_3 : decode cX5_countOfToday 3 = .ok (.getfield 278, 3) := by decide +kernel
theorem dX5_countOfToday_6 : decode cX5_countOfToday 6 = .ok (.istore 4, 2) := by decide +kernel
theorem dX5_countOfToday_8 : decode cX5_countOfToday 8 = .ok (.iload 4, 2) := by decide +kernel
theorem dX5_countOfToday_10 : decode cX5_countOfToday 10 = .ok (.aload_n 0, 1) := by decide +kernel
theorem dX5_countOfToday_11 : decode cX5_countOfToday 11 = .ok (.getfield 30, 3) := by decide +kernel
theorem dX5_countOfToday_14 : decode cX5_countOfToday 14 = .ok (.invokevirtual 173, 3) := by decide +kernel
theorem dX5_countOfToday_17 : decode cX5_countOfToday 17 = .ok (.if_icmp .ge 32, 3) := by decide +kernel
theorem dX5_countOfToday_20 : decode cX5_countOfToday 20 = .ok (.aload_n 0, 1) := by decide +kernel
theorem dX5_countOfToday_21 : decode cX5_countOfToday 21 = .ok (.getfield 30, 3) := by decide +kernel
theorem dX5_countOfToday_24 : decode cX5_countOfToday 24 = .ok (.iload 4, 2) := by decide +kernel
theorem dX5_countOfToday_26 : decode cX5_countOfToday 26 = .ok (.invokevirtual 234, 3) := by decide +kernel
theorem dX5_countOfToday_29 : decode cX5_countOfToday 29 = .ok (.checkcast 96, 3) := by decide +kernel
theorem dX5_countOfToday_32 : decode cX5_countOfToday 32 = .ok (.iload_n 1, 1) := by decide +kernel
theorem dX5_countOfToday_33 : decode cX5_countOfToday 33 = .ok (.iload_n 2, 1) := by decide +kernel
theorem dX5_countOfToday_34 : decode cX5_countOfToday 34 = .ok (.invokevirtual 311, 3) := by decide +kernel
theorem dX5_countOfToday_37 : decode cX5_countOfToday 37 = .ok (.ifCond .eq 6, 3) := by decide +kernel
theorem dX5_countOfToday_40 : decode cX5_countOfToday 40 = .ok (.iinc 3 1, 3) := by decide +kernel
theorem dX5_countOfToday_43 : decode cX5_countOfToday 43 = .ok (.iinc 4 1, 3) := by decide +kernel
theorem dX5_countOfToday_46 : decode cX5_countOfToday 46 = .ok (.goto (-38), 3) := by decide +kernel
theorem dX5_countOfToday_49 : decode cX5_countOfToday 49 = .ok (.iload_n 3, 1) := by decide +kernel
theorem dX5_countOfToday_50 : decode cX5_countOfToday 50 = .ok (.ireturn, 1) := by decide +kernel
theorem dX5_areClosedFor_0 : decode cX5_areClosedFor 0 = .ok (.iconst 0, 1) := by decide +kernel
theorem dX5_areClosedFor_1 : decode cX5_areClosedFor 1 = .ok (.istore_n 2, 1) := by decide +kernel
theorem dX5_areClosedFor_2 : decode cX5_areClosedFor 2 = .ok (.iload_n 2, 1) := by decide +kernel
theorem dX5_areClosedFor_3 : decode cX5_areClosedFor 3 = .ok (.aload_n 0, 1) := by decide +kernel
theorem dX5_areClosedFor_4 : decode cX5_areClosedFor 4 = .ok (.getfield 17, 3) := by decide +kernel
theorem dX5_areClosedFor_7 : decode cX5_areClosedFor 7 = .ok (.arraylength, 1) := by decide +kernel
theorem dX5_areClosedFor_8 : decode cX5_areClosedFor 8 = .ok (.if_icmp .ge 39, 3) := by decide +kernel
theorem dX5_areClosedFor_11 : decode cX5_areClosedFor 11 = .ok (.aload_n 1, 1) := by decide +kernel
theorem dX5_areClosedFor_12 : decode cX5_areClosedFor 12 = .ok (.aload_n 0, 1) := by decide +kernel
theorem dX5_areClosedFor_13 : decode cX5_areClosedFor 13 = .ok (.getfield 17, 3) := by decide +kernel
theorem dX5_areClosedFor_16 : decode cX5_areClosedFor 16 = .ok (.iload_n 2, 1) := by decide +kernel
theorem dX5_areClosedFor_17 : decode cX5_areClosedFor 17 = .ok (.aaload, 1) := by decide +kernel
theorem dX5_areClosedFor_18 : decode cX5_areClosedFor 18 = .ok (.getfield 148, 3) := by decide +kernel
theorem dX5_areClosedFor_21 : decode cX5_areClosedFor 21 = .ok (.invokevirtual 151, 3) := by decide +kernel
theorem dX5_areClosedFor_24 : decode cX5_areClosedFor 24 = .ok (.ifCond .eq 17, 3) := by decide +kernel
theorem dX5_areClosedFor_27 : decode cX5_areClosedFor 27 = .ok (.aload_n 0, 1) := by decide +kernel
theorem dX5_areClosedFor_28 : decode cX5_areClosedFor 28 = .ok (.getfield 17, 3) := by decide +kernel
theorem dX5_areClosedFor_31 : decode cX5_areClosedFor 31 = .ok (.iload_n 2, 1) := by decide +kernel
theorem dX5_areClosedFor_32 : decode cX5_areClosedFor 32 = .ok (.aaload, 1) := by decide +kernel
theorem dX5_areClosedFor_33 : decode cX5_areClosedFor 33 = .ok (.getfield 141, 3) := by decide +kernel
theorem dX5_areClosedFor_36 : decode cX5_areClosedFor 36 = .ok (.ifCond .ne 5, 3) := by decide +kernel
theorem dX5_areClosedFor_39 : decode cX5_areClosedFor 39 = .ok (.iconst 0, 1) := by decide +kernel
theorem dX5_areClosedFor_40 : decode cX5_areClosedFor 40 = .ok (.ireturn, 1) := by decide +kernel
theorem dX5_areClosedFor_41 : decode cX5_areClosedFor 41 = .ok (.iinc 2 1, 3) := by decide +kernel
theorem dX5_areClosedFor_44 : decode cX5_areClosedFor 44 = .ok (.goto (-42), 3) := by decide +kernel
theorem dX5_areClosedFor_47 : decode cX5_areClosedFor 47 = .ok (.iconst 1, 1) := by decide +kernel
theorem dX5_areClosedFor_48 : decode cX5_areClosedFor 48 = .ok (.ireturn, 1) := by decide +kernel
theorem dX5_letQueueIn_0 : decode cX5_letQueueIn 0 = .ok (.aload_n 1, 1) := by decide +kernel
theorem dX5_letQueueIn_1 : decode cX5_letQueueIn 1 = .ok (.getfield 131, 3) := by decide +kernel
theorem dX5_letQueueIn_4 : decode cX5_letQueueIn 4 = .ok (.aload_n 1, 1) := by decide +kernel
theorem dX5_letQueueIn_5 : decode cX5_letQueueIn 5 = .ok (.getfield 138, 3) := by decide +kernel
theorem dX5_letQueueIn_8 : decode cX5_letQueueIn 8 = .ok (.isub, 1) := by decide +kernel
theorem dX5_letQueueIn_9 : decode cX5_letQueueIn 9 = .ok (.istore_n 2, 1) := by decide +kernel
theorem dX5_letQueueIn_10 : decode cX5_letQueueIn 10 = .ok (.iload_n 2, 1) := by decide +kernel
theorem dX5_letQueueIn_11 : decode cX5_letQueueIn 11 = .ok (.ifCond .le 52, 3) := by decide +kernel
theorem dX5_letQueueIn_14 : decode cX5_letQueueIn 14 = .ok (.aload_n 1, 1) := by decide +kernel
theorem dX5_letQueueIn_15 : decode cX5_letQueueIn 15 = .ok (.getfield 228, 3) := by decide +kernel
theorem dX5_letQueueIn_18 : decode cX5_letQueueIn 18 = .ok (.invokevirtual 315, 3) := by decide +kernel
theorem dX5_letQueueIn_21 : decode cX5_letQueueIn 21 = .ok (.ifCond .ne 42, 3) := by decide +kernel
theorem dX5_letQueueIn_24 : decode cX5_letQueueIn 24 = .ok (.aload_n 1, 1) := by decide +kernel
theorem dX5_letQueueIn_25 : decode cX5_letQueueIn 25 = .ok (.getfield 228, 3) := by decide +kernel
theorem dX5_letQueueIn_28 : decode cX5_letQueueIn 28 = .ok (.iconst 0, 1) := by decide +kernel
theorem dX5_letQueueIn_29 : decode cX5_letQueueIn 29 = .ok (.invokevirtual 319, 3) := by decide +kernel
theorem dX5_letQueueIn_32 : decode cX5_letQueueIn 32 = .ok (.checkcast 96, 3) := by decide +kernel
theorem dX5_letQueueIn_35 : decode cX5_letQueueIn 35 = .ok (.astore_n 3, 1) := by decide +kernel
theorem dX5_letQueueIn_36 : decode cX5_letQueueIn 36 = .ok (.aload_n 3, 1) := by decide +kernel
theorem dX5_letQueueIn_37 : decode cX5_letQueueIn 37 = .ok (.iconst 0, 1) := by decide +kernel
theorem dX5_letQueueIn_38 : decode cX5_letQueueIn 38 = .ok (.putfield 100, 3) := by decide +kernel
theorem dX5_letQueueIn_41 : decode cX5_letQueueIn 41 = .ok (.aload_n 1, 1) := by decide +kernel
theorem dX5_letQueueIn_42 : decode cX5_letQueueIn 42 = .ok (.dup, 1) := by decide +kernel
theorem dX5_letQueueIn_43 : decode cX5_letQueueIn 43 = .ok (.getfield 138, 3) := by decide +kernel
theorem dX5_letQueueIn_46 : decode cX5_letQueueIn 46 = .ok (.iconst 1, 1) := by decide +kernel
theorem dX5_letQueueIn_47 : decode cX5_letQueueIn 47 = .ok (.iadd, 1) := by decide +kernel
theorem dX5_letQueueIn_48 : decode cX5_letQueueIn 48 = .ok (.putfield 138, 3) := by decide +kernel
theorem dX5_letQueueIn_51 : decode cX5_letQueueIn 51 = .ok (.aload_n 0, 1) := by decide +kernel
theorem dX5_letQueueIn_52 : decode cX5_letQueueIn 52 = .ok (.aload_n 3, 1) := by decide +kernel
theorem dX5_letQueueIn_53 : decode cX5_letQueueIn 53 = .ok (.aload_n 1, 1) := by decide +kernel
theorem dX5_letQueueIn_54 : decode cX5_letQueueIn 54 = .ok (.invokevirtual 322, 3) := by decide +kernel
theorem dX5_letQueueIn_57 : decode cX5_letQueueIn 57 = .ok (.iinc 2 (-1), 3) := by decide +kernel
theorem dX5_letQueueIn_60 : decode cX5_letQueueIn 60 = .ok (.goto (-50), 3) := by decide +kernel
theorem dX5_letQueueIn_63 : decode cX5_letQueueIn 63 = .ok (.return_, 1) := by decide +kernel
theorem dX5_showRoom_0 : decode cX5_showRoom 0 = .ok (.iconst 1, 1) := by decide +kernel
theorem dX5_showRoom_1 : decode cX5_showRoom 1 = .ok (.aload_n 2, 1) := by decide +kernel
theorem dX5_showRoom_2 : decode cX5_showRoom 2 = .ok (.getfield 170, 3) := by decide +kernel
theorem dX5_showRoom_5 : decode cX5_showRoom 5 = .ok (.ishl, 1) := by decide +kernel
theorem dX5_showRoom_6 : decode cX5_showRoom 6 = .ok (.istore_n 3, 1) := by decide +kernel
theorem dX5_showRoom_7 : decode cX5_showRoom 7 = .ok (.aload_n 1, 1) := by decide +kernel
theorem dX5_showRoom_8 : decode cX5_showRoom 8 = .ok (.getfield 95, 3) := by decide +kernel
theorem dX5_showRoom_11 : decode cX5_showRoom 11 = .ok (.iload_n 3, 1) := by decide +kernel
theorem dX5_showRoom_12 : decode cX5_showRoom 12 = .ok (.iand, 1) := by decide +kernel
theorem dX5_showRoom_13 : decode cX5_showRoom 13 = .ok (.ifCond .eq 4, 3) := by decide +kernel
theorem dX5_showRoom_16 : decode cX5_showRoom 16 = .ok (.return_, 1) := by decide +kernel
theorem dX5_showRoom_17 : decode cX5_showRoom 17 = .ok (.aload_n 1, 1) := by decide +kernel
theorem dX5_showRoom_18 : decode cX5_showRoom 18 = .ok (.dup, 1) := by decide +kernel
theorem dX5_showRoom_19 : decode cX5_showRoom 19 = .ok (.getfield 95, 3) := by decide +kernel
theorem dX5_showRoom_22 : decode cX5_showRoom 22 = .ok (.iload_n 3, 1) := by decide +kernel
theorem dX5_showRoom_23 : decode cX5_showRoom 23 = .ok (.ior, 1) := by decide +kernel
theorem dX5_showRoom_24 : decode cX5_showRoom 24 = .ok (.putfield 95, 3) := by decide +kernel
theorem dX5_showRoom_27 : decode cX5_showRoom 27 = .ok (.iconst 0, 1) := by decide +kernel
theorem dX5_showRoom_28 : decode cX5_showRoom 28 = .ok (.istore 4, 2) := by decide +kernel
theorem dX5_showRoom_30 : decode cX5_showRoom 30 = .ok (.iload 4, 2) := by decide +kernel
theorem dX5_showRoom_32 : decode cX5_showRoom 32 = .ok (.aload_n 0, 1) := by decide +kernel
theorem dX5_showRoom_33 : decode cX5_showRoom 33 = .ok (.getfield 34, 3) := by decide +kernel
theorem dX5_showRoom_36 : decode cX5_showRoom 36 = .ok (.invokevirtual 173, 3) := by decide +kernel
theorem dX5_showRoom_39 : decode cX5_showRoom 39 = .ok (.if_icmp .ge 53, 3) := by decide +kernel
theorem dX5_showRoom_42 : decode cX5_showRoom 42 = .ok (.aload_n 0, 1) := by decide +kernel
theorem dX5_showRoom_43 : decode cX5_showRoom 43 = .ok (.getfield 34, 3) := by decide +kernel
theorem dX5_showRoom_46 : decode cX5_showRoom 46 = .ok (.iload 4, 2) := by decide +kernel
theorem dX5_showRoom_48 : decode cX5_showRoom 48 = .ok (.invokevirtual 234, 3) := by decide +kernel
theorem dX5_showRoom_51 : decode cX5_showRoom 51 = .ok (.checkcast 179, 3) := by decide +kernel
theorem dX5_showRoom_54 : decode cX5_showRoom 54 = .ok (.astore 5, 2) := by decide +kernel
theorem dX5_showRoom_56 : decode cX5_showRoom 56 = .ok (.aload 5, 2) := by decide +kernel
theorem dX5_showRoom_58 : decode cX5_showRoom 58 = .ok (.getfield 193, 3) := by decide +kernel
theorem dX5_showRoom_61 : decode cX5_showRoom 61 = .ok (.aload_n 2, 1) := by decide +kernel
theorem dX5_showRoom_62 : decode cX5_showRoom 62 = .ok (.getfield 170, 3) := by decide +kernel
theorem dX5_showRoom_65 : decode cX5_showRoom 65 = .ok (.if_icmp .ne 21, 3) := by decide +kernel
theorem dX5_showRoom_68 : decode cX5_showRoom 68 = .ok (.aload 5, 2) := by decide +kernel
theorem dX5_showRoom_70 : decode cX5_showRoom 70 = .ok (.dup, 1) := by decide +kernel
theorem dX5_showRoom_71 : decode cX5_showRoom 71 = .ok (.getfield 239, 3) := by decide +kernel
theorem dX5_showRoom_74 : decode cX5_showRoom 74 = .ok (.iconst 1, 1) := by decide +kernel
theorem dX5_showRoom_75 : decode cX5_showRoom 75 = .ok (.iadd, 1) := by decide +kernel
theorem dX5_showRoom_76 : decode cX5_showRoom 76 = .ok (.putfield 239, 3) := by decide +kernel
theorem dX5_showRoom_79 : decode cX5_showRoom 79 = .ok (.aload_n 0, 1) := by decide +kernel
theorem dX5_showRoom_80 : decode cX5_showRoom 80 = .ok (.aload 5, 2) := by decide +kernel
theorem dX5_showRoom_82 : decode cX5_showRoom 82 = .ok (.aload_n 2, 1) := by decide +kernel
theorem dX5_showRoom_83 : decode cX5_showRoom 83 = .ok (.invokevirtual 326, 3) := by decide +kernel
theorem dX5_showRoom_86 : decode cX5_showRoom 86 = .ok (.iinc 4 1, 3) := by decide +kernel
theorem dX5_showRoom_89 : decode cX5_showRoom 89 = .ok (.goto (-59), 3) := by decide +kernel
theorem dX5_showRoom_92 : decode cX5_showRoom 92 = .ok (.return_, 1) := by decide +kernel
theorem dX5_payFee_0 : decode cX5_payFee 0 = .ok (.aload_n 1, 1) := by decide +kernel
theorem dX5_payFee_1 : decode cX5_payFee 1 = .ok (.getfield 196, 3) := by decide +kernel
theorem dX5_payFee_4 : decode cX5_payFee 4 = .ok (.ifCond .eq 47, 3) := by decide +kernel
theorem dX5_payFee_7 : decode cX5_payFee 7 = .ok (.aload_n 1, 1) := by decide +kernel
theorem dX5_payFee_8 : decode cX5_payFee 8 = .ok (.dup, 1) := by decide +kernel
theorem dX5_payFee_9 : decode cX5_payFee 9 = .ok (.getfield 205, 3) := by decide +kernel
theorem dX5_payFee_12 : decode cX5_payFee 12 = .ok (.aload_n 1, 1) := by decide +kernel
theorem dX5_payFee_13 : decode cX5_payFee 13 = .ok (.getfield 202, 3) := by decide +kernel
theorem dX5_payFee_16 : decode cX5_payFee 16 = .ok (.iadd, 1) := by decide +kernel
theorem dX5_payFee_17 : decode cX5_payFee 17 = .ok (.putfield 205, 3) := by decide +kernel
theorem dX5_payFee_20 : decode cX5_payFee 20 = .ok (.aload_n 0, 1) := by decide +kernel
theorem dX5_payFee_21 : decode cX5_payFee 21 = .ok (.aload_n 2, 1) := by decide +kernel
theorem dX5_payFee_22 : decode cX5_payFee 22 = .ok (.getfield 148, 3) := by decide +kernel
theorem dX5_payFee_25 : decode cX5_payFee 25 = .ok (.invokevirtual 42, 3) := by decide +kernel
theorem dX5_payFee_28 : decode cX5_payFee 28 = .ok (.aload_n 1, 1) := by decide +kernel
theorem dX5_payFee_29 : decode cX5_payFee 29 = .ok (.getfield 202, 3) := by decide +kernel
theorem dX5_payFee_32 : decode cX5_payFee 32 = .ok (.ineg, 1) := by decide +kernel
theorem dX5_payFee_33 : decode cX5_payFee 33 = .ok (.invokevirtual 330, 3) := by decide +kernel
theorem dX5_payFee_36 : decode cX5_payFee 36 = .ok (.aload_n 0, 1) := by decide +kernel
theorem dX5_payFee_37 : decode cX5_payFee 37 = .ok (.aload_n 1, 1) := by decide +kernel
theorem dX5_payFee_38 : decode cX5_payFee 38 = .ok (.getfield 199, 3) := by decide +kernel
theorem dX5_payFee_41 : decode cX5_payFee 41 = .ok (.invokevirtual 42, 3) := by decide +kernel
theorem dX5_payFee_44 : decode cX5_payFee 44 = .ok (.aload_n 1, 1) := by decide +kernel
theorem dX5_payFee_45 : decode cX5_payFee 45 = .ok (.getfield 202, 3) := by decide +kernel
theorem dX5_payFee_48 : decode cX5_payFee 48 = .ok (.invokevirtual 330, 3) := by decide +kernel
theorem dX5_payFee_51 : decode cX5_payFee 51 = .ok (.return_, 1) := by decide +kernel
theorem dX5_sendAllOut_0 : decode cX5_sendAllOut 0 = .ok (.aload_n 1, 1) := by decide +kernel
theorem dX5_sendAllOut_1 : decode cX5_sendAllOut 1 = .ok (.getfield 138, 3) := by decide +kernel
theorem dX5_sendAllOut_4 : decode cX5_sendAllOut 4 = .ok (.aload_n 1, 1) := by decide +kernel
theorem dX5_sendAllOut_5 : decode cX5_sendAllOut 5 = .ok (.getfield 228, 3) := by decide +kernel
theorem dX5_sendAllOut_8 : decode cX5_sendAllOut 8 = .ok (.invokevirtual 173, 3) := by decide +kernel
theorem dX5_sendAllOut_11 : decode cX5_sendAllOut 11 = .ok (.iadd, 1) := by decide +kernel
theorem dX5_sendAllOut_12 : decode cX5_sendAllOut 12 = .ok (.istore_n 2, 1) := by decide +kernel
theorem dX5_sendAllOut_13 : decode cX5_sendAllOut 13 = .ok (.aload_n 0, 1) := by decide +kernel
theorem dX5_sendAllOut_14 : decode cX5_sendAllOut 14 = .ok (.getfield 278, 3) := by decide +kernel
theorem dX5_sendAllOut_17 : decode cX5_sendAllOut 17 = .ok (.istore_n 3, 1) := by decide +kernel
theorem dX5_sendAllOut_18 : decode cX5_sendAllOut 18 = .ok (.iload_n 3, 1) := by decide +kernel
theorem dX5_sendAllOut_19 : decode cX5_sendAllOut 19 = .ok (.aload_n 0, 1) := by decide +kernel
theorem dX5_sendAllOut_20 : decode cX5_sendAllOut 20 = .ok (.getfield 30, 3) := by decide +kernel
theorem dX5_sendAllOut_23 : decode cX5_sendAllOut 23 = .ok (.invokevirtual 173, 3) := by decide +kernel
theorem dX5_sendAllOut_26 : decode cX5_sendAllOut 26 = .ok (.if_icmp .ge 39, 3) := by decide +kernel
theorem dX5_sendAllOut_29 : decode cX5_sendAllOut 29 = .ok (.aload_n 0, 1) := by decide +kernel
theorem dX5_sendAllOut_30 : decode cX5_sendAllOut 30 = .ok (.getfield 30, 3) := by decide +kernel
theorem dX5_sendAllOut_33 : decode cX5_sendAllOut 33 = .ok (.iload_n 3, 1) := by decide +kernel
theorem dX5_sendAllOut_34 : decode cX5_sendAllOut 34 = .ok (.invokevirtual 234, 3) := by decide +kernel
theorem dX5_sendAllOut_37 : decode cX5_sendAllOut 37 = .ok (.checkcast 96, 3) := by decide +kernel
theorem dX5_sendAllOut_40 : decode cX5_sendAllOut 40 = .ok (.astore 4, 2) := by decide +kernel
theorem dX5_sendAllOut_42 : decode cX5_sendAllOut 42 = .ok (.aload 4, 2) := by decide +kernel
theorem dX5_sendAllOut_44 : decode cX5_sendAllOut 44 = .ok (.getfield 154, 3) := by decide +kernel
theorem dX5_sendAllOut_47 : decode cX5_sendAllOut 47 = .ok (.aload_n 1, 1) := by decide +kernel
theorem dX5_sendAllOut_48 : decode cX5_sendAllOut 48 = .ok (.getfield 170, 3) := by decide +kernel
theorem dX5_sendAllOut_51 : decode cX5_sendAllOut 51 = .ok (.if_icmp .ne 8, 3) := by decide +kernel
theorem dX5_sendAllOut_54 : decode cX5_sendAllOut 54 = .ok (.aload 4, 2) := by decide +kernel
theorem dX5_sendAllOut_56 : decode cX5_sendAllOut 56 = .ok (.invokevirtual 167, 3) := by decide +kernel
theorem dX5_sendAllOut_59 : decode cX5_sendAllOut 59 = .ok (.iinc 3 1, 3) := by decide +kernel
theorem dX5_sendAllOut_62 : decode cX5_sendAllOut 62 = .ok (.goto (-44), 3) := by decide +kernel
theorem dX5_sendAllOut_65 : decode cX5_sendAllOut 65 = .ok (.aload_n 1, 1) := by decide +kernel
theorem dX5_sendAllOut_66 : decode cX5_sendAllOut 66 = .ok (.iconst 0, 1) := by decide +kernel
theorem dX5_sendAllOut_67 : decode cX5_sendAllOut 67 = .ok (.putfield 138, 3) := by decide +kernel
theorem dX5_sendAllOut_70 : decode cX5_sendAllOut 70 = .ok (.aload_n 1, 1) := by decide +kernel
theorem dX5_sendAllOut_71 : decode cX5_sendAllOut 71 = .ok (.getfield 228, 3) := by decide +kernel
theorem dX5_sendAllOut_74 : decode cX5_sendAllOut 74 = .ok (.invokevirtual 333, 3) := by decide +kernel
theorem dX5_sendAllOut_77 : decode cX5_sendAllOut 77 = .ok (.iload_n 2, 1) := by decide +kernel
theorem dX5_sendAllOut_78 : decode cX5_sendAllOut 78 = .ok (.ireturn, 1) := by decide +kernel
theorem dX5_endDay_0 : decode cX5_endDay 0 = .ok (.iconst 0, 1) := by decide +kernel
theorem dX5_endDay_1 : decode cX5_endDay 1 = .ok (.istore_n 1, 1) := by decide +kernel
theorem dX5_endDay_2 : decode cX5_endDay 2 = .ok (.iload_n 1, 1) := by decide +kernel
theorem dX5_endDay_3 : decode cX5_endDay 3 = .ok (.aload_n 0, 1) := by decide +kernel
theorem dX5_endDay_4 : decode cX5_endDay 4 = .ok (.getfield 17, 3) := by decide +kernel
theorem dX5_endDay_7 : decode cX5_endDay 7 = .ok (.arraylength, 1) := by decide +kernel
theorem dX5_endDay_8 : decode cX5_endDay 8 = .ok (.if_icmp .ge 20, 3) := by decide +kernel
theorem dX5_endDay_11 : decode cX5_endDay 11 = .ok (.aload_n 0, 1) := by decide +kernel
theorem dX5_endDay_12 : decode cX5_endDay 12 = .ok (.aload_n 0, 1) := by decide +kernel
theorem dX5_endDay_13 : decode cX5_endDay 13 = .ok (.getfield 17, 3) := by decide +kernel
theorem dX5_endDay_16 : decode cX5_endDay 16 = .ok (.iload_n 1, 1) := by decide +kernel
theorem dX5_endDay_17 : decode cX5_endDay 17 = .ok (.aaload, 1) := by decide +kernel
theorem dX5_endDay_18 : decode cX5_endDay 18 = .ok (.invokevirtual 144, 3) := by decide +kernel
theorem dX5_endDay_21 : decode cX5_endDay 21 = .ok (.pop, 1) := by decide +kernel
theorem dX5_endDay_22 : decode cX5_endDay 22 = .ok (.iinc 1 1, 3) := by decide +kernel
theorem dX5_endDay_25 : decode cX5_endDay 25 = .ok (.goto (-23), 3) := by decide +kernel
theorem dX5_endDay_28 : decode cX5_endDay 28 = .ok (.aload_n 0, 1) := by decide +kernel
theorem dX5_endDay_29 : decode cX5_endDay 29 = .ok (.getfield 278, 3) := by decide +kernel
theorem dX5_endDay_32 : decode cX5_endDay 32 = .ok (.istore_n 1, 1) := by decide +kernel
theorem dX5_endDay_33 : decode cX5_endDay 33 = .ok (.iload_n 1, 1) := by decide +kernel
theorem dX5_endDay_34 : decode cX5_endDay 34 = .ok (.aload_n 0, 1) := by decide +kernel
theorem dX5_endDay_35 : decode cX5_endDay 35 = .ok (.getfield 30, 3) := by decide +kernel
theorem dX5_endDay_38 : decode cX5_endDay 38 = .ok (.invokevirtual 173, 3) := by decide +kernel
theorem dX5_endDay_41 : decode cX5_endDay 41 = .ok (.if_icmp .ge 40, 3) := by decide +kernel
theorem dX5_endDay_44 : decode cX5_endDay 44 = .ok (.aload_n 0, 1) := by decide +kernel
theorem dX5_endDay_45 : decode cX5_endDay 45 = .ok (.getfield 30, 3) := by decide +kernel
theorem dX5_endDay_48 : decode cX5_endDay 48 = .ok (.iload_n 1, 1) := by decide +kernel
theorem dX5_endDay_49 : decode cX5_endDay 49 = .ok (.invokevirtual 234, 3) := by decide +kernel
theorem dX5_endDay_52 : decode cX5_endDay 52 = .ok (.checkcast 96, 3) := by decide +kernel
theorem dX5_endDay_55 : decode cX5_endDay 55 = .ok (.astore_n 2, 1) := by decide +kernel
theorem dX5_endDay_56 : decode cX5_endDay 56 = .ok (.aload_n 2, 1) := by decide +kernel
theorem dX5_endDay_57 : decode cX5_endDay 57 = .ok (.getfield 110, 3) := by decide +kernel
theorem dX5_endDay_60 : decode cX5_endDay 60 = .ok (.ifCond .ne 15, 3) := by decide +kernel
theorem dX5_endDay_63 : decode cX5_endDay 63 = .ok (.aload_n 0, 1) := by decide +kernel
theorem dX5_endDay_64 : decode cX5_endDay 64 = .ok (.aload_n 2, 1) := by decide +kernel
theorem dX5_endDay_65 : decode cX5_endDay 65 = .ok (.getfield 116, 3) := by decide +kernel
theorem dX5_endDay_68 : decode cX5_endDay 68 = .ok (.aload_n 2, 1) := by decide +kernel
theorem dX5_endDay_69 : decode cX5_endDay 69 = .ok (.getfield 95, 3) := by decide +kernel
theorem dX5_endDay_72 : decode cX5_endDay 72 = .ok (.invokevirtual 336, 3) := by decide +kernel
theorem dX5_endDay_75 : decode cX5_endDay 75 = .ok (.iinc 1 1, 3) := by decide +kernel
theorem dX5_endDay_78 : decode cX5_endDay 78 = .ok (.goto (-45), 3) := by decide +kernel
theorem dX5_endDay_81 : decode cX5_endDay 81 = .ok (.iconst 0, 1) := by decide +kernel
theorem dX5_endDay_82 : decode cX5_endDay 82 = .ok (.istore_n 1, 1) := by decide +kernel
theorem dX5_endDay_83 : decode cX5_endDay 83 = .ok (.iload_n 1, 1) := by decide +kernel
theorem dX5_endDay_84 : decode cX5_endDay 84 = .ok (.aload_n 0, 1) := by decide +kernel
theorem dX5_endDay_85 : decode cX5_endDay 85 = .ok (.getfield 23, 3) := by decide +kernel
theorem dX5_endDay_88 : decode cX5_endDay 88 = .ok (.arraylength, 1) := by decide +kernel
theorem dX5_endDay_89 : decode cX5_endDay 89 = .ok (.if_icmp .ge 37, 3) := by decide +kernel
theorem dX5_endDay_92 : decode cX5_endDay 92 = .ok (.aload_n 0, 1) := by decide +kernel
theorem dX5_endDay_93 : decode cX5_endDay 93 = .ok (.getfield 23, 3) := by decide +kernel
theorem dX5_endDay_96 : decode cX5_endDay 96 = .ok (.iload_n 1, 1) := by decide +kernel
theorem dX5_endDay_97 : decode cX5_endDay 97 = .ok (.aaload, 1) := by decide +kernel
theorem dX5_endDay_98 : decode cX5_endDay 98 = .ok (.aload_n 0, 1) := by decide +kernel
theorem dX5_endDay_99 : decode cX5_endDay 99 = .ok (.getfield 65, 3) := by decide +kernel
theorem dX5_endDay_102 : decode cX5_endDay 102 = .ok (.invokevirtual 68, 3) := by decide +kernel
theorem dX5_endDay_105 : decode cX5_endDay 105 = .ok (.ifCond .eq 15, 3) := by decide +kernel
theorem dX5_endDay_108 : decode cX5_endDay 108 = .ok (.aload_n 0, 1) := by decide +kernel
theorem dX5_endDay_109 : decode cX5_endDay 109 = .ok (.sipush 200, 3) := by decide +kernel
theorem dX5_endDay_112 : decode cX5_endDay 112 = .ok (.aload_n 0, 1) := by decide +kernel
theorem dX5_endDay_113 : decode cX5_endDay 113 = .ok (.iload_n 1, 1) := by decide +kernel
theorem dX5_endDay_114 : decode cX5_endDay 114 = .ok (.invokevirtual 340, 3) := by decide +kernel
theorem dX5_endDay_117 : decode cX5_endDay 117 = .ok (.invokevirtual 336, 3) := by decide +kernel
theorem dX5_endDay_120 : decode cX5_endDay 120 = .ok (.iinc 1 1, 3) := by decide +kernel
theorem dX5_endDay_123 : decode cX5_endDay 123 = .ok (.goto (-40), 3) := by decide +kernel
theorem dX5_endDay_126 : decode cX5_endDay 126 = .ok (.aload_n 0, 1) := by decide +kernel
theorem dX5_endDay_127 : decode cX5_endDay 127 = .ok (.aload_n 0, 1) := by decide +kernel
theorem dX5_endDay_128 : decode cX5_endDay 128 = .ok (.getfield 30, 3) := by decide +kernel
theorem dX5_endDay_131 : decode cX5_endDay 131 = .ok (.invokevirtual 173, 3) := by decide +kernel
theorem dX5_endDay_134 : decode cX5_endDay 134 = .ok (.putfield 278, 3) := by decide +kernel
theorem dX5_endDay_137 : decode cX5_endDay 137 = .ok (.aload_n 0, 1) := by decide +kernel
theorem dX5_endDay_138 : decode cX5_endDay 138 = .ok (.dup, 1) := by decide +kernel
theorem dX5_endDay_139 : decode cX5_endDay 139 = .ok (.getfield 65, 3) := by decide +kernel
theorem dX5_endDay_142 : decode cX5_endDay 142 = .ok (.iconst 1, 1) := by decide +kernel
theorem dX5_endDay_143 : decode cX5_endDay 143 = .ok (.iadd, 1) := by decide +kernel
theorem dX5_endDay_144 : decode cX5_endDay 144 = .ok (.putfield 65, 3) := by decide +kernel
theorem dX5_endDay_147 : decode cX5_endDay 147 = .ok (.return_, 1) := by decide +kernel
theorem dX5_seenToday_0 : decode cX5_seenToday 0 = .ok (.aload_n 0, 1) := by decide +kernel
theorem dX5_seenToday_1 : decode cX5_seenToday 1 = .ok (.getfield 278, 3) := by decide +kernel
theorem dX5_seenToday_4 : decode cX5_seenToday 4 = .ok (.istore_n 2, 1) := by decide +kernel
theorem dX5_seenToday_5 : decode cX5_seenToday 5 = .ok (.iload_n 2, 1) := by decide +kernel
theorem dX5_seenToday_6 : decode cX5_seenToday 6 = .ok (.aload_n 0, 1) := by decide +kernel
theorem dX5_seenToday_7 : decode cX5_seenToday 7 = .ok (.getfield 30, 3) := by decide +kernel
theorem dX5_seenToday_10 : decode cX5_seenToday 10 = .ok (.invokevirtual 173, 3) := by decide +kernel
theorem dX5_seenToday_13 : decode cX5_seenToday 13 = .ok (.if_icmp .ge 43, 3) := by decide +kernel
theorem dX5_seenToday_16 : decode cX5_seenToday 16 = .ok (.aload_n 0, 1) := by decide +kernel
theorem dX5_seenToday_17 : decode cX5_seenToday 17 = .ok (.getfield 30, 3) := by decide +kernel
theorem dX5_seenToday_20 : decode cX5_seenToday 20 = .ok (.iload_n 2, 1) := by decide +kernel
theorem dX5_seenToday_21 : decode cX5_seenToday 21 = .ok (.invokevirtual 234, 3) := by decide +kernel
theorem dX5_seenToday_24 : decode cX5_seenToday 24 = .ok (.checkcast 96, 3) := by decide +kernel
theorem dX5_seenToday_27 : decode cX5_seenToday 27 = .ok (.iload_n 1, 1) := by decide +kernel
theorem dX5_seenToday_28 : decode cX5_seenToday 28 = .ok (.iconst 2, 1) := by decide +kernel
theorem dX5_seenToday_29 : decode cX5_seenToday 29 = .ok (.invokevirtual 311, 3) := by decide +kernel
theorem dX5_seenToday_32 : decode cX5_seenToday 32 = .ok (.ifCond .eq 18, 3) := by decide +kernel
theorem dX5_seenToday_35 : decode cX5_seenToday 35 = .ok (.aload_n 0, 1) := by decide +kernel
theorem dX5_seenToday_36 : decode cX5_seenToday 36 = .ok (.getfield 30, 3) := by decide +kernel
theorem dX5_seenToday_39 : decode cX5_seenToday 39 = .ok (.iload_n 2, 1) := by decide +kernel
theorem dX5_seenToday_40 : decode cX5_seenToday 40 = .ok (.invokevirtual 234, 3) := by decide +kernel
theorem dX5_seenToday_43 : decode cX5_seenToday 43 = .ok (.checkcast 96, 3) := by decide +kernel
theorem dX5_seenToday_46 : decode cX5_seenToday 46 = .ok (.getfield 95, 3) := by decide +kernel
theorem dX5_seenToday_49 : decode cX5_seenToday 49 = .ok (.ireturn, 1) := by decide +kernel
theorem dX5_seenToday_50 : decode cX5_seenToday 50 = .ok (.iinc 2 1, 3) := by decide +kernel
theorem dX5_seenToday_53 : decode cX5_seenToday 53 = .ok (.goto (-48), 3) := by decide +kernel
theorem dX5_seenToday_56 : decode cX5_seenToday 56 = .ok (.iconst 0, 1) := by decide +kernel
theorem dX5_seenToday_57 : decode cX5_seenToday 57 = .ok (.ireturn, 1) := by decide +kernel
theorem dX5_shareOut_0 : decode cX5_shareOut 0 = .ok (.iconst (-1), 1) := by decide +kernel
theorem dX5_shareOut_1 : decode cX5_shareOut 1 = .ok (.istore_n 3, 1) := by decide +kernel
theorem dX5_shareOut_2 : decode cX5_shareOut 2 = .ok (.iload_n 3, 1) := by decide +kernel
theorem dX5_shareOut_3 : decode cX5_shareOut 3 = .ok (.iconst 4, 1) := by decide +kernel
theorem dX5_shareOut_4 : decode cX5_shareOut 4 = .ok (.if_icmp .ge 28, 3) := by decide +kernel
theorem dX5_shareOut_7 : decode cX5_shareOut 7 = .ok (.aload_n 0, 1) := by decide +kernel
theorem dX5_shareOut_8 : decode cX5_shareOut 8 = .ok (.iload_n 3, 1) := by decide +kernel
theorem dX5_shareOut_9 : decode cX5_shareOut 9 = .ok (.invokevirtual 42, 3) := by decide +kernel
theorem dX5_shareOut_12 : decode cX5_shareOut 12 = .ok (.dup, 1) := by decide +kernel
theorem dX5_shareOut_13 : decode cX5_shareOut 13 = .ok (.getfield 259, 3) := by decide +kernel
theorem dX5_shareOut_16 : decode cX5_shareOut 16 = .ok (.iload_n 1, 1) := by decide +kernel
theorem dX5_shareOut_17 : decode cX5_shareOut 17 = .ok (.iload_n 2, 1) := by decide +kernel
theorem dX5_shareOut_18 : decode cX5_shareOut 18 = .ok (.iload_n 3, 1) := by decide +kernel
theorem dX5_shareOut_19 : decode cX5_shareOut 19 = .ok (.invokestatic 343, 3) := by decide +kernel
theorem dX5_shareOut_22 : decode cX5_shareOut 22 = .ok (.iadd, 1) := by decide +kernel
theorem dX5_shareOut_23 : decode cX5_shareOut 23 = .ok (.putfield 259, 3) := by decide +kernel
theorem dX5_shareOut_26 : decode cX5_shareOut 26 = .ok (.iinc 3 1, 3) := by decide +kernel
theorem dX5_shareOut_29 : decode cX5_shareOut 29 = .ok (.goto (-27), 3) := by decide +kernel
theorem dX5_shareOut_32 : decode cX5_shareOut 32 = .ok (.return_, 1) := by decide +kernel
theorem dX5_partOf_0 : decode cX5_partOf 0 = .ok (.iload_n 1, 1) := by decide +kernel
theorem dX5_partOf_1 : decode cX5_partOf 1 = .ok (.invokestatic 347, 3) := by decide +kernel
theorem dX5_partOf_4 : decode cX5_partOf 4 = .ok (.istore_n 3, 1) := by decide +kernel
theorem dX5_partOf_5 : decode cX5_partOf 5 = .ok (.iload_n 3, 1) := by decide +kernel
theorem dX5_partOf_6 : decode cX5_partOf 6 = .ok (.ifCond .ne 7, 3) := by decide +kernel
theorem dX5_partOf_9 : decode cX5_partOf 9 = .ok (.iconst 0, 1) := by decide +kernel
theorem dX5_partOf_10 : decode cX5_partOf 10 = .ok (.goto 6, 3) := by decide +kernel
theorem dX5_partOf_13 : decode cX5_partOf 13 = .ok (.iload_n 0, 1) := by decide +kernel
theorem dX5_partOf_14 : decode cX5_partOf 14 = .ok (.iload_n 3, 1) := by decide +kernel
theorem dX5_partOf_15 : decode cX5_partOf 15 = .ok (.idiv, 1) := by decide +kernel
theorem dX5_partOf_16 : decode cX5_partOf 16 = .ok (.istore 4, 2) := by decide +kernel
theorem dX5_partOf_18 : decode cX5_partOf 18 = .ok (.iload_n 2, 1) := by decide +kernel
theorem dX5_partOf_19 : decode cX5_partOf 19 = .ok (.iconst (-1), 1) := by decide +kernel
theorem dX5_partOf_20 : decode cX5_partOf 20 = .ok (.if_icmp .ne 10, 3) := by decide +kernel
theorem dX5_partOf_23 : decode cX5_partOf 23 = .ok (.iload_n 0, 1) := by decide +kernel
theorem dX5_partOf_24 : decode cX5_partOf 24 = .ok (.iload 4, 2) := by decide +kernel
theorem dX5_partOf_26 : decode cX5_partOf 26 = .ok (.iload_n 3, 1) := by decide +kernel
theorem dX5_partOf_27 : decode cX5_partOf 27 = .ok (.imul, 1) := by decide +kernel
theorem dX5_partOf_28 : decode cX5_partOf 28 = .ok (.isub, 1) := by decide +kernel
theorem dX5_partOf_29 : decode cX5_partOf 29 = .ok (.ireturn, 1) := by decide +kernel
theorem dX5_partOf_30 : decode cX5_partOf 30 = .ok (.bipush 7, 2) := by decide +kernel
theorem dX5_partOf_32 : decode cX5_partOf 32 = .ok (.iload_n 2, 1) := by decide +kernel
theorem dX5_partOf_33 : decode cX5_partOf 33 = .ok (.iconst 3, 1) := by decide +kernel
theorem dX5_partOf_34 : decode cX5_partOf 34 = .ok (.imul, 1) := by decide +kernel
theorem dX5_partOf_35 : decode cX5_partOf 35 = .ok (.ishl, 1) := by decide +kernel
theorem dX5_partOf_36 : decode cX5_partOf 36 = .ok (.istore 5, 2) := by decide +kernel
theorem dX5_partOf_38 : decode cX5_partOf 38 = .ok (.iload 4, 2) := by decide +kernel
theorem dX5_partOf_40 : decode cX5_partOf 40 = .ok (.iload_n 1, 1) := by decide +kernel
theorem dX5_partOf_41 : decode cX5_partOf 41 = .ok (.iload 5, 2) := by decide +kernel
theorem dX5_partOf_43 : decode cX5_partOf 43 = .ok (.iand, 1) := by decide +kernel
theorem dX5_partOf_44 : decode cX5_partOf 44 = .ok (.invokestatic 347, 3) := by decide +kernel
theorem dX5_partOf_47 : decode cX5_partOf 47 = .ok (.imul, 1) := by decide +kernel
theorem dX5_partOf_48 : decode cX5_partOf 48 = .ok (.ireturn, 1) := by decide +kernel
theorem dX5_broughtByTickets_0 : decode cX5_broughtByTickets 0 = .ok (.iconst 0, 1) := by decide +kernel
theorem dX5_broughtByTickets_1 : decode cX5_broughtByTickets 1 = .ok (.istore_n 2, 1) := by decide +kernel
theorem dX5_broughtByTickets_2 : decode cX5_broughtByTickets 2 = .ok (.iconst 0, 1) := by decide +kernel
theorem dX5_broughtByTickets_3 : decode cX5_broughtByTickets 3 = .ok (.istore_n 3, 1) := by decide +kernel
theorem dX5_broughtByTickets_4 : decode cX5_broughtByTickets 4 = .ok (.iload_n 3, 1) := by decide +kernel
theorem dX5_broughtByTickets_5 : decode cX5_broughtByTickets 5 = .ok (.aload_n 0, 1) := by decide +kernel
theorem dX5_broughtByTickets_6 : decode cX5_broughtByTickets 6 = .ok (.getfield 278, 3) := by decide +kernel
theorem dX5_broughtByTickets_9 : decode cX5_broughtByTickets 9 = .ok (.if_icmp .ge 58, 3) := by decide +kernel
theorem dX5_broughtByTickets_12 : decode cX5_broughtByTickets 12 = .ok (.iload_n 3, 1) := by decide +kernel
theorem dX5_broughtByTickets_13 : decode cX5_broughtByTickets 13 = .ok (.aload_n 0, 1) := by decide +kernel
theorem dX5_broughtByTickets_14 : decode cX5_broughtByTickets 14 = .ok (.getfield 30, 3) := by decide +kernel
theorem dX5_broughtByTickets_17 : decode cX5_broughtByTickets 17 = .ok (.invokevirtual 173, 3) := by decide +kernel
theorem dX5_broughtByTickets_20 : decode cX5_broughtByTickets 20 = .ok (.if_icmp .ge 47, 3) := by decide +kernel
theorem dX5_broughtByTickets_23 : decode cX5_broughtByTickets 23 = .ok (.aload_n 0, 1) := by decide +kernel
theorem dX5_broughtByTickets_24 : decode cX5_broughtByTickets 24 = .ok (.getfield 30, 3) := by decide +kernel
theorem dX5_broughtByTickets_27 : decode cX5_broughtByTickets 27 = .ok (.iload_n 3, 1) := by decide +kernel
theorem dX5_broughtByTickets_28 : decode cX5_broughtByTickets 28 = .ok (.invokevirtual 234, 3) := by decide +kernel
theorem dX5_broughtByTickets_31 : decode cX5_broughtByTickets 31 = .ok (.checkcast 96, 3) := by decide +kernel
theorem dX5_broughtByTickets_34 : decode cX5_broughtByTickets 34 = .ok (.astore 4, 2) := by decide +kernel
theorem dX5_broughtByTickets_36 : decode cX5_broughtByTickets 36 = .ok (.aload 4, 2) := by decide +kernel
theorem dX5_broughtByTickets_38 : decode cX5_broughtByTickets 38 = .ok (.getfield 110, 3) := by decide +kernel
theorem dX5_broughtByTickets_41 : decode cX5_broughtByTickets 41 = .ok (.ifCond .ne 20, 3) := by decide +kernel
theorem dX5_broughtByTickets_44 : decode cX5_broughtByTickets 44 = .ok (.iload_n 2, 1) := by decide +kernel
theorem dX5_broughtByTickets_45 : decode cX5_broughtByTickets 45 = .ok (.aload 4, 2) := by decide +kernel
theorem dX5_broughtByTickets_47 : decode cX5_broughtByTickets 47 = .ok (.getfield 116, 3) := by decide +kernel
theorem dX5_broughtByTickets_50 : decode cX5_broughtByTickets 50 = .ok (.aload 4, 2) := by decide +kernel
theorem dX5_broughtByTickets_52 : decode cX5_broughtByTickets 52 = .ok (.getfield 95, 3) := by decide +kernel
theorem dX5_broughtByTickets_55 : decode cX5_broughtByTickets 55 = .ok (.iload_n 1, 1) := by decide +kernel
theorem dX5_broughtByTickets_56 : decode cX5_broughtByTickets 56 = .ok (.invokestatic 343, 3) := by decide +kernel
theorem dX5_broughtByTickets_59 : decode cX5_broughtByTickets 59 = .ok (.iadd, 1) := by decide +kernel
theorem dX5_broughtByTickets_60 : decode cX5_broughtByTickets 60 = .ok (.istore_n 2, 1) := by decide +kernel
theorem dX5_broughtByTickets_61 : decode cX5_broughtByTickets 61 = .ok (.iinc 3 1, 3) := by decide +kernel
theorem dX5_broughtByTickets_64 : decode cX5_broughtByTickets 64 = .ok (.goto (-60), 3) := by decide +kernel
theorem dX5_broughtByTickets_67 : decode cX5_broughtByTickets 67 = .ok (.iload_n 2, 1) := by decide +kernel
theorem dX5_broughtByTickets_68 : decode cX5_broughtByTickets 68 = .ok (.ireturn, 1) := by decide +kernel
theorem dX5_broughtByMemberships_0 : decode cX5_broughtByMemberships 0 = .ok (.iconst 0, 1) := by decide +kernel
theorem dX5_broughtByMemberships_1 : decode cX5_broughtByMemberships 1 = .ok (.istore_n 2, 1) := by decide +kernel
theorem dX5_broughtByMemberships_2 : decode cX5_broughtByMemberships 2 = .ok (.iconst 0, 1) := by decide +kernel
theorem dX5_broughtByMemberships_3 : decode cX5_broughtByMemberships 3 = .ok (.istore_n 3, 1) := by decide +kernel
theorem dX5_broughtByMemberships_4 : decode cX5_broughtByMemberships 4 = .ok (.iload_n 3, 1) := by decide +kernel
theorem dX5_broughtByMemberships_5 : decode cX5_broughtByMemberships 5 = .ok (.aload_n 0, 1) := by decide +kernel
theorem dX5_broughtByMemberships_6 : decode cX5_broughtByMemberships 6 = .ok (.getfield 23, 3) := by decide +kernel
theorem dX5_broughtByMemberships_9 : decode cX5_broughtByMemberships 9 = .ok (.arraylength, 1) := by decide +kernel
theorem dX5_broughtByMemberships_10 : decode cX5_broughtByMemberships 10 = .ok (.if_icmp .ge 25, 3) := by decide +kernel
theorem dX5_broughtByMemberships_13 : decode cX5_broughtByMemberships 13 = .ok (.iload_n 2, 1) := by decide +kernel
theorem dX5_broughtByMemberships_14 : decode cX5_broughtByMemberships 14 = .ok (.aload_n 0, 1) := by decide +kernel
theorem dX5_broughtByMemberships_15 : decode cX5_broughtByMemberships 15 = .ok (.getfield 23, 3) := by decide +kernel
theorem dX5_broughtByMemberships_18 : decode cX5_broughtByMemberships 18 = .ok (.iload_n 3, 1) := by decide +kernel
theorem dX5_broughtByMemberships_19 : decode cX5_broughtByMemberships 19 = .ok (.aaload, 1) := by decide +kernel
theorem dX5_broughtByMemberships_20 : decode cX5_broughtByMemberships 20 = .ok (.aload_n 0, 1) := by decide +kernel
theorem dX5_broughtByMemberships_21 : decode cX5_broughtByMemberships 21 = .ok (.getfield 65, 3) := by decide +kernel
theorem dX5_broughtByMemberships_24 : decode cX5_broughtByMemberships 24 = .ok (.invokevirtual 352, 3) := by decide +kernel
theorem dX5_broughtByMemberships_27 : decode cX5_broughtByMemberships 27 = .ok (.iadd, 1) := by decide +kernel
theorem dX5_broughtByMemberships_28 : decode cX5_broughtByMemberships 28 = .ok (.istore_n 2, 1) := by decide +kernel
theorem dX5_broughtByMemberships_29 : decode cX5_broughtByMemberships 29 = .ok (.iinc 3 1, 3) := by decide +kernel
theorem dX5_broughtByMemberships_32 : decode cX5_broughtByMemberships 32 = .ok (.goto (-28), 3) := by decide +kernel
theorem dX5_broughtByMemberships_35 : decode cX5_broughtByMemberships 35 = .ok (.iconst 0, 1) := by decide +kernel
theorem dX5_broughtByMemberships_36 : decode cX5_broughtByMemberships 36 = .ok (.istore_n 3, 1) := by decide +kernel
theorem dX5_broughtByMemberships_37 : decode cX5_broughtByMemberships 37 = .ok (.iconst 0, 1) := by decide +kernel
theorem dX5_broughtByMemberships_38 : decode cX5_broughtByMemberships 38 = .ok (.istore 4, 2) := by decide +kernel
theorem dX5_broughtByMemberships_40 : decode cX5_broughtByMemberships 40 = .ok (.iload 4, 2) := by decide +kernel
theorem dX5_broughtByMemberships_42 : decode cX5_broughtByMemberships 42 = .ok (.aload_n 0, 1) := by decide +kernel
theorem dX5_broughtByMemberships_43 : decode cX5_broughtByMemberships 43 = .ok (.getfield 278, 3) := by decide +kernel
theorem dX5_broughtByMemberships_46 : decode cX5_broughtByMemberships 46 = .ok (.if_icmp .ge 70, 3) := by decide +kernel
theorem dX5_broughtByMemberships_49 : decode cX5_broughtByMemberships 49 = .ok (.iload 4, 2) := by decide +kernel
theorem dX5_broughtByMemberships_51 : decode cX5_broughtByMemberships 51 = .ok (.aload_n 0, 1) := by decide +kernel
theorem dX5_broughtByMemberships_52 : decode cX5_broughtByMemberships 52 = .ok (.getfield 30, 3) := by decide +kernel
theorem dX5_broughtByMemberships_55 : decode cX5_broughtByMemberships 55 = .ok (.invokevirtual 173, 3) := by decide +kernel
theorem dX5_broughtByMemberships_58 : decode cX5_broughtByMemberships 58 = .ok (.if_icmp .ge 58, 3) := by decide +kernel
theorem dX5_broughtByMemberships_61 : decode cX5_broughtByMemberships 61 = .ok (.aload_n 0, 1) := by decide +kernel
theorem dX5_broughtByMemberships_62 : decode cX5_broughtByMemberships 62 = .ok (.getfield 30, 3) := by decide +kernel
theorem dX5_broughtByMemberships_65 : decode cX5_broughtByMemberships 65 = .ok (.iload 4, 2) := by decide +kernel
theorem dX5_broughtByMemberships_67 : decode cX5_broughtByMemberships 67 = .ok (.invokevirtual 234, 3) := by decide +kernel
theorem dX5_broughtByMemberships_70 : decode cX5_broughtByMemberships 70 = .ok (.checkcast 96, 3) := by decide +kernel
theorem dX5_broughtByMemberships_73 : decode cX5_broughtByMemberships 73 = .ok (.astore 5, 2) := by decide +kernel
theorem dX5_broughtByMemberships_75 : decode cX5_broughtByMemberships 75 = .ok (.aload 5, 2) := by decide +kernel
theorem dX5_broughtByMemberships_77 : decode cX5_broughtByMemberships 77 = .ok (.getfield 355, 3) := by decide +kernel
theorem dX5_broughtByMemberships_80 : decode cX5_broughtByMemberships 80 = .ok (.iconst 2, 1) := by decide +kernel
theorem dX5_broughtByMemberships_81 : decode cX5_broughtByMemberships 81 = .ok (.if_icmp .ne 29, 3) := by decide +kernel
theorem dX5_broughtByMemberships_84 : decode cX5_broughtByMemberships 84 = .ok (.aload 5, 2) := by decide +kernel
theorem dX5_broughtByMemberships_86 : decode cX5_broughtByMemberships 86 = .ok (.getfield 110, 3) := by decide +kernel
theorem dX5_broughtByMemberships_89 : decode cX5_broughtByMemberships 89 = .ok (.ifCond .ne 21, 3) := by decide +kernel
theorem dX5_broughtByMemberships_92 : decode cX5_broughtByMemberships 92 = .ok (.iinc 2 (-1), 3) := by decide +kernel
theorem dX5_broughtByMemberships_95 : decode cX5_broughtByMemberships 95 = .ok (.iload_n 3, 1) := by decide +kernel
theorem dX5_broughtByMemberships_96 : decode cX5_broughtByMemberships 96 = .ok (.sipush 200, 3) := by decide +kernel
theorem dX5_broughtByMemberships_99 : decode cX5_broughtByMemberships 99 = .ok (.aload 5, 2) := by decide +kernel
theorem dX5_broughtByMemberships_101 : decode cX5_broughtByMemberships 101 = .ok (.getfield 95, 3) := by decide +kernel
theorem dX5_broughtByMemberships_104 : decode cX5_broughtByMemberships 104 = .ok (.iload_n 1, 1) := by decide +kernel
theorem dX5_broughtByMemberships_105 : decode cX5_broughtByMemberships 105 = .ok (.invokestatic 343, 3) := by decide +kernel
theorem dX5_broughtByMemberships_108 : decode cX5_broughtByMemberships 108 = .ok (.iadd, 1) := by decide +kernel
theorem dX5_broughtByMemberships_109 : decode cX5_broughtByMemberships 109 = .ok (.istore_n 3, 1) := by decide +kernel
theorem dX5_broughtByMemberships_110 : decode cX5_broughtByMemberships 110 = .ok (.iinc 4 1, 3) := by decide +kernel
theorem dX5_broughtByMemberships_113 : decode cX5_broughtByMemberships 113 = .ok (.goto (-73), 3) := by decide +kernel
theorem dX5_broughtByMemberships_116 : decode cX5_broughtByMemberships 116 = .ok (.iload_n 3, 1) := by decide +kernel
theorem dX5_broughtByMemberships_117 : decode cX5_broughtByMemberships 117 = .ok (.iload_n 2, 1) := by decide +kernel
theorem dX5_broughtByMemberships_118 : decode cX5_broughtByMemberships 118 = .ok (.sipush 200, 3) := by decide +kernel
theorem dX5_broughtByMemberships_121 : decode cX5_broughtByMemberships 121 = .ok (.imul, 1) := by decide +kernel
theorem dX5_broughtByMemberships_122 : decode cX5_broughtByMemberships 122 = .ok (.iconst 0, 1) := by decide +kernel
theorem dX5_broughtByMemberships_123 : decode cX5_broughtByMemberships 123 = .ok (.iload_n 1, 1) := by decide +kernel
theorem dX5_broughtByMemberships_124 : decode cX5_broughtByMemberships 124 = .ok (.invokestatic 343, 3) := by decide +kernel
theorem dX5_broughtByMemberships_127 : decode cX5_broughtByMemberships 127 = .ok (.iadd, 1) := by decide +kernel
theorem dX5_broughtByMemberships_128 : decode cX5_broughtByMemberships 128 = .ok (.ireturn, 1) := by decide +kernel
theorem dJ5_init_d00df_0 : decode cJ5_init_d00df 0 = .ok (.aload_n 0, 1) := by decide +kernel
theorem dJ5_init_d00df_1 : decode cJ5_init_d00df 1 = .ok (.invokespecial 3, 3) := by decide +kernel
theorem dJ5_init_d00df_4 : decode cJ5_init_d00df 4 = .ok (.getstatic 18, 3) := by decide +kernel
theorem dJ5_init_d00df_7 : decode cJ5_init_d00df 7 = .ok (.ifCond .eq 18, 3) := by decide +kernel
theorem dJ5_init_d00df_10 : decode cJ5_init_d00df 10 = .ok (.aload_n 0, 1) := by decide +kernel
theorem dJ5_init_d00df_11 : decode cJ5_init_d00df 11 = .ok (.iload_n 1, 1) := by decide +kernel
theorem dJ5_init_d00df_12 : decode cJ5_init_d00df 12 = .ok (.newarray .byte, 2) := by decide +kernel
theorem dJ5_init_d00df_14 : decode cJ5_init_d00df 14 = .ok (.putfield 15, 3) := by decide +kernel
theorem dJ5_init_d00df_17 : decode cJ5_init_d00df 17 = .ok (.aload_n 0, 1) := by decide +kernel
theorem dJ5_init_d00df_18 : decode cJ5_init_d00df 18 = .ok (.iconst 0, 1) := by decide +kernel
theorem dJ5_init_d00df_19 : decode cJ5_init_d00df 19 = .ok (.putfield 22, 3) := by decide +kernel
theorem dJ5_init_d00df_22 : decode cJ5_init_d00df 22 = .ok (.goto 16, 3) := by decide +kernel
theorem dJ5_init_d00df_25 : decode cJ5_init_d00df 25 = .ok (.aload_n 0, 1) := by decide +kernel
theorem dJ5_init_d00df_26 : decode cJ5_init_d00df 26 = .ok (.iload_n 1, 1) := by decide +kernel
theorem dJ5_init_d00df_27 : decode cJ5_init_d00df 27 = .ok (.invokestatic 26, 3) := by decide +kernel
theorem dJ5_init_d00df_30 : decode cJ5_init_d00df 30 = .ok (.putfield 15, 3) := by decide +kernel
theorem dJ5_init_d00df_33 : decode cJ5_init_d00df 33 = .ok (.aload_n 0, 1) := by decide +kernel
theorem dJ5_init_d00df_34 : decode cJ5_init_d00df 34 = .ok (.iconst 1, 1) := by decide +kernel
theorem dJ5_init_d00df_35 : decode cJ5_init_d00df 35 = .ok (.putfield 22, 3) := by decide +kernel
theorem dJ5_init_d00df_38 : decode cJ5_init_d00df 38 = .ok (.return_, 1) := by decide +kernel
theorem dJ5_length_8abf5_0 : decode cJ5_length_8abf5 0 = .ok (.aload_n 0, 1) := by decide +kernel
theorem dJ5_length_8abf5_1 : decode cJ5_length_8abf5 1 = .ok (.getfield 79, 3) := by decide +kernel
theorem dJ5_length_8abf5_4 : decode cJ5_length_8abf5 4 = .ok (.ireturn, 1) := by decide +kernel
theorem dJ5_ensureCapacityInternal_d00df_0 : decode cJ5_ensureCapacityInternal_d00df 0 = .ok (.aload_n 0, 1) := by decide +kernel
theorem dJ5_ensureCapacityInternal_d00df_1 : decode cJ5_ensureCapacityInternal_d00df 1 = .ok (.getfield 15, 3) := by decide +kernel
theorem dJ5_ensureCapacityInternal_d00df_4 : decode cJ5_ensureCapacityInternal_d00df 4 = .ok (.arraylength, 1) := by decide +kernel
theorem dJ5_ensureCapacityInternal_d00df_5 : decode cJ5_ensureCapacityInternal_d00df 5 = .ok (.aload_n 0, 1) := by decide +kernel
theorem dJ5_ensureCapacityInternal_d00df_6 : decode cJ5_ensureCapacityInternal_d00df 6 = .ok (.getfield 22, 3) := by decide +kernel
theorem dJ5_ensureCapacityInternal_d00df_9 : decode cJ5_ensureCapacityInternal_d00df 9 = .ok (.ishr, 1) := by decide +kernel
theorem dJ5_ensureCapacityInternal_d00df_10 : decode cJ5_ensureCapacityInternal_d00df 10 = .ok (.istore_n 2, 1) := by decide +kernel
theorem dJ5_ensureCapacityInternal_d00df_11 : decode cJ5_ensureCapacityInternal_d00df 11 = .ok (.iload_n 1, 1) := by decide +kernel
theorem dJ5_ensureCapacityInternal_d00df_12 : decode cJ5_ensureCapacityInternal_d00df 12 = .ok (.iload_n 2, 1) := by decide +kernel
theorem dJ5_ensureCapacityInternal_d00df_13 : decode cJ5_ensureCapacityInternal_d00df 13 = .ok (.isub, 1) := by decide +kernel
theorem dJ5_ensureCapacityInternal_d00df_14 : decode cJ5_ensureCapacityInternal_d00df 14 = .ok (.ifCond .le 24, 3) := by decide +kernel
theorem dJ5_ensureCapacityInternal_d00df_17 : decode cJ5_ensureCapacityInternal_d00df 17 = .ok (.aload_n 0, 1) := by decide +kernel
theorem dJ5_ensureCapacityInternal_d00df_18 : decode cJ5_ensureCapacityInternal_d00df 18 = .ok (.aload_n 0, 1) := by decide +kernel
theorem dJ5_ensureCapacityInternal_d00df_19 : decode cJ5_ensureCapacityInternal_d00df 19 = .ok (.getfield 15, 3) := by decide +kernel
theorem dJ5_ensureCapacityInternal_d00df_22 : decode cJ5_ensureCapacityInternal_d00df 22 = .ok (.aload_n 0, 1) := by decide +kernel
theorem dJ5_ensureCapacityInternal_d00df_23 : decode cJ5_ensureCapacityInternal_d00df 23 = .ok (.iload_n 1, 1) := by decide +kernel
theorem dJ5_ensureCapacityInternal_d00df_24 : decode cJ5_ensureCapacityInternal_d00df 24 = .ok (.invokevirtual 104, 3) := by decide +kernel
theorem dJ5_ensureCapacityInternal_d00df_27 : decode cJ5_ensureCapacityInternal_d00df 27 = .ok (.aload_n 0, 1) := by decide +kernel
theorem dJ5_ensureCapacityInternal_d00df_28 : decode cJ5_ensureCapacityInternal_d00df 28 = .ok (.getfield 22, 3) := by decide +kernel
theorem dJ5_ensureCapacityInternal_d00df_31 : decode cJ5_ensureCapacityInternal_d00df 31 = .ok (.ishl, 1) := by decide +kernel
theorem dJ5_ensureCapacityInternal_d00df_32 : decode cJ5_ensureCapacityInternal_d00df 32 = .ok (.invokestatic 108, 3) := by decide +kernel
theorem dJ5_ensureCapacityInternal_d00df_35 : decode cJ5_ensureCapacityInternal_d00df 35 = .ok (.putfield 15, 3) := by decide +kernel
theorem dJ5_ensureCapacityInternal_d00df_38 : decode cJ5_ensureCapacityInternal_d00df 38 = .ok (.return_, 1) := by decide +kernel
theorem dJ5_newCapacity_0f7a4_0 : decode cJ5_newCapacity_0f7a4 0 = .ok (.aload_n 0, 1) := by decide +kernel
theorem dJ5_newCapacity_0f7a4_1 : decode cJ5_newCapacity_0f7a4 1 = .ok (.getfield 15, 3) := by decide +kernel
theorem dJ5_newCapacity_0f7a4_4 : decode cJ5_newCapacity_0f7a4 4 = .ok (.arraylength, 1) := by decide +kernel
theorem dJ5_newCapacity_0f7a4_5 : decode cJ5_newCapacity_0f7a4 5 = .ok (.istore_n 2, 1) := by decide +kernel
theorem dJ5_newCapacity_0f7a4_6 : decode cJ5_newCapacity_0f7a4 6 = .ok (.iload_n 1, 1) := by decide +kernel
theorem dJ5_newCapacity_0f7a4_7 : decode cJ5_newCapacity_0f7a4 7 = .ok (.aload_n 0, 1) := by decide +kernel
theorem dJ5_newCapacity_0f7a4_8 : decode cJ5_newCapacity_0f7a4 8 = .ok (.getfield 22, 3) := by decide +kernel
theorem dJ5_newCapacity_0f7a4_11 : decode cJ5_newCapacity_0f7a4 11 = .ok (.ishl, 1) := by decide +kernel
theorem dJ5_newCapacity_0f7a4_12 : decode cJ5_newCapacity_0f7a4 12 = .ok (.istore_n 3, 1) := by decide +kernel
theorem dJ5_newCapacity_0f7a4_13 : decode cJ5_newCapacity_0f7a4 13 = .ok (.iload_n 3, 1) := by decide +kernel
theorem dJ5_newCapacity_0f7a4_14 : decode cJ5_newCapacity_0f7a4 14 = .ok (.iload_n 2, 1) := by decide +kernel
theorem dJ5_newCapacity_0f7a4_15 : decode cJ5_newCapacity_0f7a4 15 = .ok (.isub, 1) := by decide +kernel
theorem dJ5_newCapacity_0f7a4_16 : decode cJ5_newCapacity_0f7a4 16 = .ok (.istore 4, 2) := by decide +kernel
theorem dJ5_newCapacity_0f7a4_18 : decode cJ5_newCapacity_0f7a4 18 = .ok (.iload_n 2, 1) := by decide +kernel
theorem dJ5_newCapacity_0f7a4_19 : decode cJ5_newCapacity_0f7a4 19 = .ok (.iload 4, 2) := by decide +kernel
theorem dJ5_newCapacity_0f7a4_21 : decode cJ5_newCapacity_0f7a4 21 = .ok (.iload_n 2, 1) := by decide +kernel
theorem dJ5_newCapacity_0f7a4_22 : decode cJ5_newCapacity_0f7a4 22 = .ok (.iconst 2, 1) := by decide +kernel
theorem dJ5_newCapacity_0f7a4_23 : decode cJ5_newCapacity_0f7a4 23 = .ok (.aload_n 0, 1) := by decide +kernel
theorem dJ5_newCapacity_0f7a4_24 : decode cJ5_newCapacity_0f7a4 24 = .ok (.getfield 22, 3) := by decide +kernel
theorem dJ5_newCapacity_0f7a4_27 : decode cJ5_newCapacity_0f7a4 27 = .ok (.ishl, 1) := by decide +kernel
theorem dJ5_newCapacity_0f7a4_28 : decode cJ5_newCapacity_0f7a4 28 = .ok (.iadd, 1) := by decide +kernel
theorem dJ5_newCapacity_0f7a4_29 : decode cJ5_newCapacity_0f7a4 29 = .ok (.invokestatic 114, 3) := by decide +kernel
theorem dJ5_newCapacity_0f7a4_32 : decode cJ5_newCapacity_0f7a4 32 = .ok (.istore 5, 2) := by decide +kernel
theorem dJ5_newCapacity_0f7a4_34 : decode cJ5_newCapacity_0f7a4 34 = .ok (.iload 5, 2) := by decide +kernel
theorem dJ5_newCapacity_0f7a4_36 : decode cJ5_newCapacity_0f7a4 36 = .ok (.ldc 39, 2) := by decide +kernel
theorem dJ5_newCapacity_0f7a4_38 : decode cJ5_newCapacity_0f7a4 38 = .ok (.if_icmp .ne 13, 3) := by decide +kernel
theorem dJ5_newCapacity_0f7a4_41 : decode cJ5_newCapacity_0f7a4 41 = .ok (.new 120, 3) := by decide +kernel
theorem dJ5_newCapacity_0f7a4_44 : decode cJ5_newCapacity_0f7a4 44 = .ok (.dup, 1) := by decide +kernel
theorem dJ5_newCapacity_0f7a4_45 : decode cJ5_newCapacity_0f7a4 45 = .ok (.ldc 122, 2) := by decide +kernel
theorem dJ5_newCapacity_0f7a4_47 : decode cJ5_newCapacity_0f7a4 47 = .ok (.invokespecial 124, 3) := by decide +kernel
theorem dJ5_newCapacity_0f7a4_50 : decode cJ5_newCapacity_0f7a4 50 = .ok (.athrow, 1) := by decide +kernel
theorem dJ5_newCapacity_0f7a4_51 : decode cJ5_newCapacity_0f7a4 51 = .ok (.iload 5, 2) := by decide +kernel
theorem dJ5_newCapacity_0f7a4_53 : decode cJ5_newCapacity_0f7a4 53 = .ok (.aload_n 0, 1) := by decide +kernel
theorem dJ5_newCapacity_0f7a4_54 : decode cJ5_newCapacity_0f7a4 54 = .ok (.getfield 22, 3) := by decide +kernel
theorem dJ5_newCapacity_0f7a4_57 : decode cJ5_newCapacity_0f7a4 57 = .ok (.ishr, 1) := by decide +kernel
theorem dJ5_newCapacity_0f7a4_58 : decode cJ5_newCapacity_0f7a4 58 = .ok (.ireturn, 1) := by decide +kernel
theorem dJ5_charAt_5068e_0 : decode cJ5_charAt_5068e 0 = .ok (.aload_n 0, 1) := by decide +kernel
theorem dJ5_charAt_5068e_1 : decode cJ5_charAt_5068e 1 = .ok (.getfield 22, 3) := by decide +kernel
theorem dJ5_charAt_5068e_4 : decode cJ5_charAt_5068e 4 = .ok (.istore_n 2, 1) := by decide +kernel
theorem dJ5_charAt_5068e_5 : decode cJ5_charAt_5068e 5 = .ok (.aload_n 0, 1) := by decide +kernel
theorem dJ5_charAt_5068e_6 : decode cJ5_charAt_5068e 6 = .ok (.getfield 15, 3) := by decide +kernel
theorem dJ5_charAt_5068e_9 : decode cJ5_charAt_5068e 9 = .ok (.astore_n 3, 1) := by decide +kernel
theorem dJ5_charAt_5068e_10 : decode cJ5_charAt_5068e 10 = .ok (.aload_n 0, 1) := by decide +kernel
theorem dJ5_charAt_5068e_11 : decode cJ5_charAt_5068e 11 = .ok (.getfield 79, 3) := by decide +kernel
theorem dJ5_charAt_5068e_14 : decode cJ5_charAt_5068e 14 = .ok (.aload_n 3, 1) := by decide +kernel
theorem dJ5_charAt_5068e_15 : decode cJ5_charAt_5068e 15 = .ok (.arraylength, 1) := by decide +kernel
theorem dJ5_charAt_5068e_16 : decode cJ5_charAt_5068e 16 = .ok (.iload_n 2, 1) := by decide +kernel
theorem dJ5_charAt_5068e_17 : decode cJ5_charAt_5068e 17 = .ok (.ishr, 1) := by decide +kernel
theorem dJ5_charAt_5068e_18 : decode cJ5_charAt_5068e 18 = .ok (.invokestatic 138, 3) := by decide +kernel
theorem dJ5_charAt_5068e_21 : decode cJ5_charAt_5068e 21 = .ok (.istore 4, 2) := by decide +kernel
theorem dJ5_charAt_5068e_23 : decode cJ5_charAt_5068e 23 = .ok (.iload_n 1, 1) := by decide +kernel
theorem dJ5_charAt_5068e_24 : decode cJ5_charAt_5068e 24 = .ok (.iload 4, 2) := by decide +kernel
theorem dJ5_charAt_5068e_26 : decode cJ5_charAt_5068e 26 = .ok (.invokestatic 144, 3) := by decide +kernel
theorem dJ5_charAt_5068e_29 : decode cJ5_charAt_5068e 29 = .ok (.iload_n 2, 1) := by decide +kernel
theorem dJ5_charAt_5068e_30 : decode cJ5_charAt_5068e 30 = .ok (.ifCond .ne 12, 3) := by decide +kernel
theorem dJ5_charAt_5068e_33 : decode cJ5_charAt_5068e 33 = .ok (.aload_n 3, 1) := by decide +kernel
theorem dJ5_charAt_5068e_34 : decode cJ5_charAt_5068e 34 = .ok (.iload_n 1, 1) := by decide +kernel
theorem dJ5_charAt_5068e_35 : decode cJ5_charAt_5068e 35 = .ok (.baload, 1) := by decide +kernel
theorem dJ5_charAt_5068e_36 : decode cJ5_charAt_5068e 36 = .ok (.sipush 255, 3) := by decide +kernel
theorem dJ5_charAt_5068e_39 : decode cJ5_charAt_5068e 39 = .ok (.iand, 1) := by decide +kernel
theorem dJ5_charAt_5068e_40 : decode cJ5_charAt_5068e 40 = .ok (.i2c, 1) := by decide +kernel
theorem dJ5_charAt_5068e_41 : decode cJ5_charAt_5068e 41 = .ok (.ireturn, 1) := by decide +kernel
theorem dJ5_charAt_5068e_42 : decode cJ5_charAt_5068e 42 = .ok (.aload_n 3, 1) := by decide +kernel
theorem dJ5_charAt_5068e_43 : decode cJ5_charAt_5068e 43 = .ok (.iload_n 1, 1) := by decide +kernel
theorem dJ5_charAt_5068e_44 : decode cJ5_charAt_5068e 44 = .ok (.invokestatic 148, 3) := by decide +kernel
theorem dJ5_charAt_5068e_47 : decode cJ5_charAt_5068e 47 = .ok (.ireturn, 1) := by decide +kernel
theorem dJ5_append_3fe6f_0 : decode cJ5_append_3fe6f 0 = .ok (.aload_n 0, 1) := by decide +kernel
theorem dJ5_append_3fe6f_1 : decode cJ5_append_3fe6f 1 = .ok (.aload_n 0, 1) := by decide +kernel
theorem dJ5_append_3fe6f_2 : decode cJ5_append_3fe6f 2 = .ok (.getfield 79, 3) := by decide +kernel
theorem dJ5_append_3fe6f_5 : decode cJ5_append_3fe6f 5 = .ok (.iconst 1, 1) := by decide +kernel
theorem dJ5_append_3fe6f_6 : decode cJ5_append_3fe6f 6 = .ok (.iadd, 1) := by decide +kernel
theorem dJ5_append_3fe6f_7 : decode cJ5_append_3fe6f 7 = .ok (.invokevirtual 100, 3) := by decide +kernel
theorem dJ5_append_3fe6f_10 : decode cJ5_append_3fe6f 10 = .ok (.aload_n 0, 1) := by decide +kernel
theorem dJ5_append_3fe6f_11 : decode cJ5_append_3fe6f 11 = .ok (.invokevirtual 83, 3) := by decide +kernel
theorem dJ5_append_3fe6f_14 : decode cJ5_append_3fe6f 14 = .ok (.ifCond .eq 31, 3) := by decide +kernel
theorem dJ5_append_3fe6f_17 : decode cJ5_append_3fe6f 17 = .ok (.iload_n 1, 1) := by decide +kernel
theorem dJ5_append_3fe6f_18 : decode cJ5_append_3fe6f 18 = .ok (.invokestatic 191, 3) := by decide +kernel
theorem dJ5_append_3fe6f_21 : decode cJ5_append_3fe6f 21 = .ok (.ifCond .eq 24, 3) := by decide +kernel
theorem dJ5_append_3fe6f_24 : decode cJ5_append_3fe6f 24 = .ok (.aload_n 0, 1) := by decide +kernel
theorem dJ5_append_3fe6f_25 : decode cJ5_append_3fe6f 25 = .ok (.getfield 15, 3) := by decide +kernel
theorem dJ5_append_3fe6f_28 : decode cJ5_append_3fe6f 28 = .ok (.aload_n 0, 1) := by decide +kernel
theorem dJ5_append_3fe6f_29 : decode cJ5_append_3fe6f 29 = .ok (.dup, 1) := by decide +kernel
theorem dJ5_append_3fe6f_30 : decode cJ5_append_3fe6f 30 = .ok (.getfield 79, 3) := by decide +kernel
theorem dJ5_append_3fe6f_33 : decode cJ5_append_3fe6f 33 = .ok (.dup_x1, 1) := by decide +kernel
theorem dJ5_append_3fe6f_34 : decode cJ5_append_3fe6f 34 = .ok (.iconst 1, 1) := by decide +kernel
theorem dJ5_append_3fe6f_35 : decode cJ5_append_3fe6f 35 = .ok (.iadd, 1) := by decide +kernel
theorem dJ5_append_3fe6f_36 : decode cJ5_append_3fe6f 36 = .ok (.putfield 79, 3) := by decide +kernel
theorem dJ5_append_3fe6f_39 : decode cJ5_append_3fe6f 39 = .ok (.iload_n 1, 1) := by decide +kernel
theorem dJ5_append_3fe6f_40 : decode cJ5_append_3fe6f 40 = .ok (.i2b, 1) := by decide +kernel
theorem dJ5_append_3fe6f_41 : decode cJ5_append_3fe6f 41 = .ok (.bastore, 1) := by decide +kernel
theorem dJ5_append_3fe6f_42 : decode cJ5_append_3fe6f 42 = .ok (.goto 33, 3) := by decide +kernel
theorem dJ5_append_3fe6f_45 : decode cJ5_append_3fe6f 45 = .ok (.aload_n 0, 1) := by decide +kernel
theorem dJ5_append_3fe6f_46 : decode cJ5_append_3fe6f 46 = .ok (.invokevirtual 83, 3) := by decide +kernel
theorem dJ5_append_3fe6f_49 : decode cJ5_append_3fe6f 49 = .ok (.ifCond .eq 7, 3) := by decide +kernel
theorem dJ5_append_3fe6f_52 : decode cJ5_append_3fe6f 52 = .ok (.aload_n 0, 1) := by decide +kernel
theorem dJ5_append_3fe6f_53 : decode cJ5_append_3fe6f 53 = .ok (.invokevirtual 195, 3) := by decide +kernel
theorem dJ5_append_3fe6f_56 : decode cJ5_append_3fe6f 56 = .ok (.aload_n 0, 1) := by decide +kernel
theorem dJ5_append_3fe6f_57 : decode cJ5_append_3fe6f 57 = .ok (.getfield 15, 3) := by decide +kernel
theorem dJ5_append_3fe6f_60 : decode cJ5_append_3fe6f 60 = .ok (.aload_n 0, 1) := by decide +kernel
theorem dJ5_append_3fe6f_61 : decode cJ5_append_3fe6f 61 = .ok (.dup, 1) := by decide +kernel
theorem dJ5_append_3fe6f_62 : decode cJ5_append_3fe6f 62 = .ok (.getfield 79, 3) := by decide +kernel
theorem dJ5_append_3fe6f_65 : decode cJ5_append_3fe6f 65 = .ok (.dup_x1, 1) := by decide +kernel
theorem dJ5_append_3fe6f_66 : decode cJ5_append_3fe6f 66 = .ok (.iconst 1, 1) := by decide +kernel
theorem dJ5_append_3fe6f_67 : decode cJ5_append_3fe6f 67 = .ok (.iadd, 1) := by decide +kernel
theorem dJ5_append_3fe6f_68 : decode cJ5_append_3fe6f 68 = .ok (.putfield 79, 3) := by decide +kernel
theorem dJ5_append_3fe6f_71 : decode cJ5_append_3fe6f 71 = .ok (.iload_n 1, 1) := by decide +kernel
theorem dJ5_append_3fe6f_72 : decode cJ5_append_3fe6f 72 = .ok (.invokestatic 197, 3) := by decide +kernel
theorem dJ5_append_3fe6f_75 : decode cJ5_append_3fe6f 75 = .ok (.aload_n 0, 1) := by decide +kernel
theorem dJ5_append_3fe6f_76 : decode cJ5_append_3fe6f 76 = .ok (.areturn, 1) := by decide +kernel
theorem dJ5_append_c97b9_0 : decode cJ5_append_c97b9 0 = .ok (.aload_n 0, 1) := by decide +kernel
theorem dJ5_append_c97b9_1 : decode cJ5_append_c97b9 1 = .ok (.getfield 79, 3) := by decide +kernel
theorem dJ5_append_c97b9_4 : decode cJ5_append_c97b9 4 = .ok (.istore_n 2, 1) := by decide +kernel
theorem dJ5_append_c97b9_5 : decode cJ5_append_c97b9 5 = .ok (.iload_n 2, 1) := by decide +kernel
theorem dJ5_append_c97b9_6 : decode cJ5_append_c97b9 6 = .ok (.iload_n 1, 1) := by decide +kernel
theorem dJ5_append_c97b9_7 : decode cJ5_append_c97b9 7 = .ok (.invokestatic 245, 3) := by decide +kernel
theorem dJ5_append_c97b9_10 : decode cJ5_append_c97b9 10 = .ok (.iadd, 1) := by decide +kernel
theorem dJ5_append_c97b9_11 : decode cJ5_append_c97b9 11 = .ok (.istore_n 3, 1) := by decide +kernel
theorem dJ5_append_c97b9_12 : decode cJ5_append_c97b9 12 = .ok (.aload_n 0, 1) := by decide +kernel
theorem dJ5_append_c97b9_13 : decode cJ5_append_c97b9 13 = .ok (.iload_n 3, 1) := by decide +kernel
theorem dJ5_append_c97b9_14 : decode cJ5_append_c97b9 14 = .ok (.invokevirtual 100, 3) := by decide +kernel
theorem dJ5_append_c97b9_17 : decode cJ5_append_c97b9 17 = .ok (.aload_n 0, 1) := by decide +kernel
theorem dJ5_append_c97b9_18 : decode cJ5_append_c97b9 18 = .ok (.invokevirtual 83, 3) := by decide +kernel
theorem dJ5_append_c97b9_21 : decode cJ5_append_c97b9 21 = .ok (.ifCond .eq 16, 3) := by decide +kernel
theorem dJ5_append_c97b9_24 : decode cJ5_append_c97b9 24 = .ok (.iload_n 1, 1) := by decide +kernel
theorem dJ5_append_c97b9_25 : decode cJ5_append_c97b9 25 = .ok (.iload_n 3, 1) := by decide +kernel
theorem dJ5_append_c97b9_26 : decode cJ5_append_c97b9 26 = .ok (.aload_n 0, 1) := by decide +kernel
theorem dJ5_append_c97b9_27 : decode cJ5_append_c97b9 27 = .ok (.getfield 15, 3) := by decide +kernel
theorem dJ5_append_c97b9_30 : decode cJ5_append_c97b9 30 = .ok (.invokestatic 248, 3) := by decide +kernel
theorem dJ5_append_c97b9_33 : decode cJ5_append_c97b9 33 = .ok (.pop, 1) := by decide +kernel
theorem dJ5_append_c97b9_34 : decode cJ5_append_c97b9 34 = .ok (.goto 14, 3) := by decide +kernel
theorem dJ5_append_c97b9_37 : decode cJ5_append_c97b9 37 = .ok (.iload_n 1, 1) := by decide +kernel
theorem dJ5_append_c97b9_38 : decode cJ5_append_c97b9 38 = .ok (.iload_n 2, 1) := by decide +kernel
theorem dJ5_append_c97b9_39 : decode cJ5_append_c97b9 39 = .ok (.iload_n 3, 1) := by decide +kernel
theorem dJ5_append_c97b9_40 : decode cJ5_append_c97b9 40 = .ok (.aload_n 0, 1) := by decide +kernel
theorem dJ5_append_c97b9_41 : decode cJ5_append_c97b9 41 = .ok (.getfield 15, 3) := by decide +kernel
theorem dJ5_append_c97b9_44 : decode cJ5_append_c97b9 44 = .ok (.invokestatic 251, 3) := by decide +kernel
theorem dJ5_append_c97b9_47 : decode cJ5_append_c97b9 47 = .ok (.pop, 1) := by decide +kernel
theorem dJ5_append_c97b9_48 : decode cJ5_append_c97b9 48 = .ok (.aload_n 0, 1) := by decide +kernel
theorem dJ5_append_c97b9_49 : decode cJ5_append_c97b9 49 = .ok (.iload_n 3, 1) := by decide +kernel
theorem dJ5_append_c97b9_50 : decode cJ5_append_c97b9 50 = .ok (.putfield 79, 3) := by decide +kernel
theorem dJ5_append_c97b9_53 : decode cJ5_append_c97b9 53 = .ok (.aload_n 0, 1) := by decide +kernel
theorem dJ5_append_c97b9_54 : decode cJ5_append_c97b9 54 = .ok (.areturn, 1) := by decide +kernel
theorem dJ5_isLatin1_aae02_0 : decode cJ5_isLatin1_aae02 0 = .ok (.getstatic 18, 3) := by decide +kernel
theorem dJ5_isLatin1_aae02_3 : decode cJ5_isLatin1_aae02 3 = .ok (.ifCond .eq 14, 3) := by decide +kernel
theorem dJ5_isLatin1_aae02_6 : decode cJ5_isLatin1_aae02 6 = .ok (.aload_n 0, 1) := by decide +kernel
theorem dJ5_isLatin1_aae02_7 : decode cJ5_isLatin1_aae02 7 = .ok (.getfield 22, 3) := by decide +kernel
theorem dJ5_isLatin1_aae02_10 : decode cJ5_isLatin1_aae02 10 = .ok (.ifCond .ne 7, 3) := by decide +kernel
theorem dJ5_isLatin1_aae02_13 : decode cJ5_isLatin1_aae02 13 = .ok (.iconst 1, 1) := by decide +kernel
theorem dJ5_isLatin1_aae02_14 : decode cJ5_isLatin1_aae02 14 = .ok (.goto 4, 3) := by decide +kernel
theorem dJ5_isLatin1_aae02_17 : decode cJ5_isLatin1_aae02 17 = .ok (.iconst 0, 1) := by decide +kernel
theorem dJ5_isLatin1_aae02_18 : decode cJ5_isLatin1_aae02 18 = .ok (.ireturn, 1) := by decide +kernel
theorem dJ6_getChars_ba4f3_0 : decode cJ6_getChars_ba4f3 0 = .ok (.iload_n 1, 1) := by decide +kernel
theorem dJ6_getChars_ba4f3_1 : decode cJ6_getChars_ba4f3 1 = .ok (.istore 5, 2) := by decide +kernel
theorem dJ6_getChars_ba4f3_3 : decode cJ6_getChars_ba4f3 3 = .ok (.iload_n 0, 1) := by decide +kernel
theorem dJ6_getChars_ba4f3_4 : decode cJ6_getChars_ba4f3 4 = .ok (.ifCond .ge 7, 3) := by decide +kernel
theorem dJ6_getChars_ba4f3_7 : decode cJ6_getChars_ba4f3 7 = .ok (.iconst 1, 1) := by decide +kernel
theorem dJ6_getChars_ba4f3_8 : decode cJ6_getChars_ba4f3 8 = .ok (.goto 4, 3) := by decide +kernel
theorem dJ6_getChars_ba4f3_11 : decode cJ6_getChars_ba4f3 11 = .ok (.iconst 0, 1) := by decide +kernel
theorem dJ6_getChars_ba4f3_12 : decode cJ6_getChars_ba4f3 12 = .ok (.istore 6, 2) := by decide +kernel
theorem dJ6_getChars_ba4f3_14 : decode cJ6_getChars_ba4f3 14 = .ok (.iload 6, 2) := by decide +kernel
theorem dJ6_getChars_ba4f3_16 : decode cJ6_getChars_ba4f3 16 = .ok (.ifCond .ne 6, 3) := by decide +kernel
theorem dJ6_getChars_ba4f3_19 : decode cJ6_getChars_ba4f3 19 = .ok (.iload_n 0, 1) := by decide +kernel
theorem dJ6_getChars_ba4f3_20 : decode cJ6_getChars_ba4f3 20 = .ok (.ineg, 1) := by decide +kernel
theorem dJ6_getChars_ba4f3_21 : decode cJ6_getChars_ba4f3 21 = .ok (.istore_n 0, 1) := by decide +kernel
theorem dJ6_getChars_ba4f3_22 : decode cJ6_getChars_ba4f3 22 = .ok (.iload_n 0, 1) := by decide +kernel
theorem dJ6_getChars_ba4f3_23 : decode cJ6_getChars_ba4f3 23 = .ok (.bipush (-100), 2) := by decide +kernel
theorem dJ6_getChars_ba4f3_25 : decode cJ6_getChars_ba4f3 25 = .ok (.if_icmp .gt 47, 3) := by decide +kernel
theorem dJ6_getChars_ba4f3_28 : decode cJ6_getChars_ba4f3 28 = .ok (.iload_n 0, 1) := by decide +kernel
theorem dJ6_getChars_ba4f3_29 : decode cJ6_getChars_ba4f3 29 = .ok (.bipush 100, 2) := by decide +kernel
theorem dJ6_getChars_ba4f3_31 : decode cJ6_getChars_ba4f3 31 = .ok (.idiv, 1) := by decide +kernel
theorem dJ6_getChars_ba4f3_32 : decode cJ6_getChars_ba4f3 32 = .ok (.istore_n 3, 1) := by decide +kernel
theorem dJ6_getChars_ba4f3_33 : decode cJ6_getChars_ba4f3 33 = .ok (.iload_n 3, 1) := by decide +kernel
theorem dJ6_getChars_ba4f3_34 : decode cJ6_getChars_ba4f3 34 = .ok (.bipush 100, 2) := by decide +kernel
theorem dJ6_getChars_ba4f3_36 : decode cJ6_getChars_ba4f3 36 = .ok (.imul, 1) := by decide +kernel
theorem dJ6_getChars_ba4f3_37 : decode cJ6_getChars_ba4f3 37 = .ok (.iload_n 0, 1) := by decide +kernel
theorem dJ6_getChars_ba4f3_38 : decode cJ6_getChars_ba4f3 38 = .ok (.isub, 1) := by decide +kernel
theorem dJ6_getChars_ba4f3_39 : decode cJ6_getChars_ba4f3 39 = .ok (.istore 4, 2) := by decide +kernel
theorem dJ6_getChars_ba4f3_41 : decode cJ6_getChars_ba4f3 41 = .ok (.iload_n 3, 1) := by decide +kernel
theorem dJ6_getChars_ba4f3_42 : decode cJ6_getChars_ba4f3 42 = .ok (.istore_n 0, 1) := by decide +kernel
theorem dJ6_getChars_ba4f3_43 : decode cJ6_getChars_ba4f3 43 = .ok (.aload_n 2, 1) := by decide +kernel
theorem dJ6_getChars_ba4f3_44 : decode cJ6_getChars_ba4f3 44 = .ok (.iinc 5 (-1), 3) := by decide +kernel
theorem dJ6_getChars_ba4f3_47 : decode cJ6_getChars_ba4f3 47 = .ok (.iload 5, 2) := by decide +kernel
theorem dJ6_getChars_ba4f3_49 : decode cJ6_getChars_ba4f3 49 = .ok (.getstatic 83, 3) := by decide +kernel
theorem dJ6_getChars_ba4f3_52 : decode cJ6_getChars_ba4f3 52 = .ok (.iload 4, 2) := by decide +kernel
theorem dJ6_getChars_ba4f3_54 : decode cJ6_getChars_ba4f3 54 = .ok (.baload, 1) := by decide +kernel
theorem dJ6_getChars_ba4f3_55 : decode cJ6_getChars_ba4f3 55 = .ok (.bastore, 1) := by decide +kernel
theorem dJ6_getChars_ba4f3_56 : decode cJ6_getChars_ba4f3 56 = .ok (.aload_n 2, 1) := by decide +kernel
theorem dJ6_getChars_ba4f3_57 : decode cJ6_getChars_ba4f3 57 = .ok (.iinc 5 (-1), 3) := by decide +kernel
theorem dJ6_getChars_ba4f3_60 : decode cJ6_getChars_ba4f3 60 = .ok (.iload 5, 2) := by decide +kernel
theorem dJ6_getChars_ba4f3_62 : decode cJ6_getChars_ba4f3 62 = .ok (.getstatic 87, 3) := by decide +kernel
theorem dJ6_getChars_ba4f3_65 : decode cJ6_getChars_ba4f3 65 = .ok (.iload 4, 2) := by decide +kernel
theorem dJ6_getChars_ba4f3_67 : decode cJ6_getChars_ba4f3 67 = .ok (.baload, 1) := by decide +kernel
theorem dJ6_getChars_ba4f3_68 : decode cJ6_getChars_ba4f3 68 = .ok (.bastore, 1) := by decide +kernel
theorem dJ6_getChars_ba4f3_69 : decode cJ6_getChars_ba4f3 69 = .ok (.goto (-47), 3) := by decide +kernel
theorem dJ6_getChars_ba4f3_72 : decode cJ6_getChars_ba4f3 72 = .ok (.aload_n 2, 1) := by decide +kernel
theorem dJ6_getChars_ba4f3_73 : decode cJ6_getChars_ba4f3 73 = .ok (.iinc 5 (-1), 3) := by decide +kernel
theorem dJ6_getChars_ba4f3_76 : decode cJ6_getChars_ba4f3 76 = .ok (.iload 5, 2) := by decide +kernel
theorem dJ6_getChars_ba4f3_78 : decode cJ6_getChars_ba4f3 78 = .ok (.getstatic 83, 3) := by decide +kernel
theorem dJ6_getChars_ba4f3_81 : decode cJ6_getChars_ba4f3 81 = .ok (.iload_n 0, 1) := by decide +kernel
theorem dJ6_getChars_ba4f3_82 : decode cJ6_getChars_ba4f3 82 = .ok (.ineg, 1) := by decide +kernel
theorem dJ6_getChars_ba4f3_83 : decode cJ6_getChars_ba4f3 83 = .ok (.baload, 1) := by decide +kernel
theorem dJ6_getChars_ba4f3_84 : decode cJ6_getChars_ba4f3 84 = .ok (.bastore, 1) := by decide +kernel
theorem dJ6_getChars_ba4f3_85 : decode cJ6_getChars_ba4f3 85 = .ok (.iload_n 0, 1) := by decide +kernel
theorem dJ6_getChars_ba4f3_86 : decode cJ6_getChars_ba4f3 86 = .ok (.bipush (-9), 2) := by decide +kernel
theorem dJ6_getChars_ba4f3_88 : decode cJ6_getChars_ba4f3 88 = .ok (.if_icmp .ge 16, 3) := by decide +kernel
theorem dJ6_getChars_ba4f3_91 : decode cJ6_getChars_ba4f3 91 = .ok (.aload_n 2, 1) := by decide +kernel
theorem dJ6_getChars_ba4f3_92 : decode cJ6_getChars_ba4f3 92 = .ok (.iinc 5 (-1), 3) := by decide +kernel
theorem dJ6_getChars_ba4f3_95 : decode cJ6_getChars_ba4f3 95 = .ok (.iload 5, 2) := by decide +kernel
theorem dJ6_getChars_ba4f3_97 : decode cJ6_getChars_ba4f3 97 = .ok (.getstatic 87, 3) := by decide +kernel
theorem dJ6_getChars_ba4f3_100 : decode cJ6_getChars_ba4f3 100 = .ok (.iload_n 0, 1) := by decide +kernel
theorem dJ6_getChars_ba4f3_101 : decode cJ6_getChars_ba4f3 101 = .ok (.ineg, 1) := by decide +kernel
theorem dJ6_getChars_ba4f3_102 : decode cJ6_getChars_ba4f3 102 = .ok (.baload, 1) := by decide +kernel
theorem dJ6_getChars_ba4f3_103 : decode cJ6_getChars_ba4f3 103 = .ok (.bastore, 1) := by decide +kernel
theorem dJ6_getChars_ba4f3_104 : decode cJ6_getChars_ba4f3 104 = .ok (.iload 6, 2) := by decide +kernel
theorem dJ6_getChars_ba4f3_106 : decode cJ6_getChars_ba4f3 106 = .ok (.ifCond .eq 12, 3) := by decide +kernel
theorem dJ6_getChars_ba4f3_109 : decode cJ6_getChars_ba4f3 109 = .ok (.aload_n 2, 1) := by decide +kernel
theorem dJ6_getChars_ba4f3_110 : decode cJ6_getChars_ba4f3 110 = .ok (.iinc 5 (-1), 3) := by decide +kernel
theorem dJ6_getChars_ba4f3_113 : decode cJ6_getChars_ba4f3 113 = .ok (.iload 5, 2) := by decide +kernel
theorem dJ6_getChars_ba4f3_115 : decode cJ6_getChars_ba4f3 115 = .ok (.bipush 45, 2) := by decide +kernel
theorem dJ6_getChars_ba4f3_117 : decode cJ6_getChars_ba4f3 117 = .ok (.bastore, 1) := by decide +kernel
theorem dJ6_getChars_ba4f3_118 : decode cJ6_getChars_ba4f3 118 = .ok (.iload 5, 2) := by decide +kernel
theorem dJ6_getChars_ba4f3_120 : decode cJ6_getChars_ba4f3 120 = .ok (.ireturn, 1) := by decide +kernel
theorem dJ6_stringSize_0f7a4_0 : decode cJ6_stringSize_0f7a4 0 = .ok (.iconst 1, 1) := by decide +kernel
theorem dJ6_stringSize_0f7a4_1 : decode cJ6_stringSize_0f7a4 1 = .ok (.istore_n 1, 1) := by decide +kernel
theorem dJ6_stringSize_0f7a4_2 : decode cJ6_stringSize_0f7a4 2 = .ok (.iload_n 0, 1) := by decide +kernel
theorem dJ6_stringSize_0f7a4_3 : decode cJ6_stringSize_0f7a4 3 = .ok (.ifCond .lt 8, 3) := by decide +kernel
theorem dJ6_stringSize_0f7a4_6 : decode cJ6_stringSize_0f7a4 6 = .ok (.iconst 0, 1) := by decide +kernel
theorem dJ6_stringSize_0f7a4_7 : decode cJ6_stringSize_0f7a4 7 = .ok (.istore_n 1, 1) := by decide +kernel
theorem dJ6_stringSize_0f7a4_8 : decode cJ6_stringSize_0f7a4 8 = .ok (.iload_n 0, 1) := by decide +kernel
theorem dJ6_stringSize_0f7a4_9 : decode cJ6_stringSize_0f7a4 9 = .ok (.ineg, 1) := by decide +kernel
theorem dJ6_stringSize_0f7a4_10 : decode cJ6_stringSize_0f7a4 10 = .ok (.istore_n 0, 1) := by decide +kernel
theorem dJ6_stringSize_0f7a4_11 : decode cJ6_stringSize_0f7a4 11 = .ok (.bipush (-10), 2) := by decide +kernel
theorem dJ6_stringSize_0f7a4_13 : decode cJ6_stringSize_0f7a4 13 = .ok (.istore_n 2, 1) := by decide +kernel
theorem dJ6_stringSize_0f7a4_14 : decode cJ6_stringSize_0f7a4 14 = .ok (.iconst 1, 1) := by decide +kernel
theorem dJ6_stringSize_0f7a4_15 : decode cJ6_stringSize_0f7a4 15 = .ok (.istore_n 3, 1) := by decide +kernel
theorem dJ6_stringSize_0f7a4_16 : decode cJ6_stringSize_0f7a4 16 = .ok (.iload_n 3, 1) := by decide +kernel
theorem dJ6_stringSize_0f7a4_17 : decode cJ6_stringSize_0f7a4 17 = .ok (.bipush 10, 2) := by decide +kernel
theorem dJ6_stringSize_0f7a4_19 : decode cJ6_stringSize_0f7a4 19 = .ok (.if_icmp .ge 23, 3) := by decide +kernel
theorem dJ6_stringSize_0f7a4_22 : decode cJ6_stringSize_0f7a4 22 = .ok (.iload_n 0, 1) := by decide +kernel
theorem dJ6_stringSize_0f7a4_23 : decode cJ6_stringSize_0f7a4 23 = .ok (.iload_n 2, 1) := by decide +kernel
theorem dJ6_stringSize_0f7a4_24 : decode cJ6_stringSize_0f7a4 24 = .ok (.if_icmp .le 7, 3) := by decide +kernel
theorem dJ6_stringSize_0f7a4_27 : decode cJ6_stringSize_0f7a4 27 = .ok (.iload_n 3, 1) := by decide +kernel
theorem dJ6_stringSize_0f7a4_28 : decode cJ6_stringSize_0f7a4 28 = .ok (.iload_n 1, 1) := by decide +kernel
theorem dJ6_stringSize_0f7a4_29 : decode cJ6_stringSize_0f7a4 29 = .ok (.iadd, 1) := by decide +kernel
theorem dJ6_stringSize_0f7a4_30 : decode cJ6_stringSize_0f7a4 30 = .ok (.ireturn, 1) := by decide +kernel
theorem dJ6_stringSize_0f7a4_31 : decode cJ6_stringSize_0f7a4 31 = .ok (.bipush 10, 2) := by decide +kernel
theorem dJ6_stringSize_0f7a4_33 : decode cJ6_stringSize_0f7a4 33 = .ok (.iload_n 2, 1) := by decide +kernel
theorem dJ6_stringSize_0f7a4_34 : decode cJ6_stringSize_0f7a4 34 = .ok (.imul, 1) := by decide +kernel
theorem dJ6_stringSize_0f7a4_35 : decode cJ6_stringSize_0f7a4 35 = .ok (.istore_n 2, 1) := by decide +kernel
theorem dJ6_stringSize_0f7a4_36 : decode cJ6_stringSize_0f7a4 36 = .ok (.iinc 3 1, 3) := by decide +kernel
theorem dJ6_stringSize_0f7a4_39 : decode cJ6_stringSize_0f7a4 39 = .ok (.goto (-23), 3) := by decide +kernel
theorem dJ6_stringSize_0f7a4_42 : decode cJ6_stringSize_0f7a4 42 = .ok (.bipush 10, 2) := by decide +kernel
theorem dJ6_stringSize_0f7a4_44 : decode cJ6_stringSize_0f7a4 44 = .ok (.iload_n 1, 1) := by decide +kernel
theorem dJ6_stringSize_0f7a4_45 : decode cJ6_stringSize_0f7a4 45 = .ok (.iadd, 1) := by decide +kernel
theorem dJ6_stringSize_0f7a4_46 : decode cJ6_stringSize_0f7a4 46 = .ok (.ireturn, 1) := by decide +kernel
theorem dJ6_bitCount_0f7a4_0 : decode cJ6_bitCount_0f7a4 0 = .ok (.iload_n 0, 1) := by decide +kernel
theorem dJ6_bitCount_0f7a4_1 : decode cJ6_bitCount_0f7a4 1 = .ok (.iload_n 0, 1) := by decide +kernel
theorem dJ6_bitCount_0f7a4_2 : decode cJ6_bitCount_0f7a4 2 = .ok (.iconst 1, 1) := by decide +kernel
theorem dJ6_bitCount_0f7a4_3 : decode cJ6_bitCount_0f7a4 3 = .ok (.iushr, 1) := by decide +kernel
theorem dJ6_bitCount_0f7a4_4 : decode cJ6_bitCount_0f7a4 4 = .ok (.ldc_w 265, 3) := by decide +kernel
theorem dJ6_bitCount_0f7a4_7 : decode cJ6_bitCount_0f7a4 7 = .ok (.iand, 1) := by decide +kernel
theorem dJ6_bitCount_0f7a4_8 : decode cJ6_bitCount_0f7a4 8 = .ok (.isub, 1) := by decide +kernel
theorem dJ6_bitCount_0f7a4_9 : decode cJ6_bitCount_0f7a4 9 = .ok (.istore_n 0, 1) := by decide +kernel
theorem dJ6_bitCount_0f7a4_10 : decode cJ6_bitCount_0f7a4 10 = .ok (.iload_n 0, 1) := by decide +kernel
theorem dJ6_bitCount_0f7a4_11 : decode cJ6_bitCount_0f7a4 11 = .ok (.ldc_w 266, 3) := by decide +kernel
theorem dJ6_bitCount_0f7a4_14 : decode cJ6_bitCount_0f7a4 14 = .ok (.iand, 1) := by decide +kernel
theorem dJ6_bitCount_0f7a4_15 : decode cJ6_bitCount_0f7a4 15 = .ok (.iload_n 0, 1) := by decide +kernel
theorem dJ6_bitCount_0f7a4_16 : decode cJ6_bitCount_0f7a4 16 = .ok (.iconst 2, 1) := by decide +kernel
theorem dJ6_bitCount_0f7a4_17 : decode cJ6_bitCount_0f7a4 17 = .ok (.iushr, 1) := by decide +kernel
theorem dJ6_bitCount_0f7a4_18 : decode cJ6_bitCount_0f7a4 18 = .ok (.ldc_w 266, 3) := by decide +kernel
theorem dJ6_bitCount_0f7a4_21 : decode cJ6_bitCount_0f7a4 21 = .ok (.iand, 1) := by decide +kernel
theorem dJ6_bitCount_0f7a4_22 : decode cJ6_bitCount_0f7a4 22 = .ok (.iadd, 1) := by decide +kernel
theorem dJ6_bitCount_0f7a4_23 : decode cJ6_bitCount_0f7a4 23 = .ok (.istore_n 0, 1) := by decide +kernel
theorem dJ6_bitCount_0f7a4_24 : decode cJ6_bitCount_0f7a4 24 = .ok (.iload_n 0, 1) := by decide +kernel
theorem dJ6_bitCount_0f7a4_25 : decode cJ6_bitCount_0f7a4 25 = .ok (.iload_n 0, 1) := by decide +kernel
theorem dJ6_bitCount_0f7a4_26 : decode cJ6_bitCount_0f7a4 26 = .ok (.iconst 4, 1) := by decide +kernel
theorem dJ6_bitCount_0f7a4_27 : decode cJ6_bitCount_0f7a4 27 = .ok (.iushr, 1) := by decide +kernel
theorem dJ6_bitCount_0f7a4_28 : decode cJ6_bitCount_0f7a4 28 = .ok (.iadd, 1) := by decide +kernel
theorem dJ6_bitCount_0f7a4_29 : decode cJ6_bitCount_0f7a4 29 = .ok (.ldc_w 267, 3) := by decide +kernel
theorem dJ6_bitCount_0f7a4_32 : decode cJ6_bitCount_0f7a4 32 = .ok (.iand, 1) := by decide +kernel
theorem dJ6_bitCount_0f7a4_33 : decode cJ6_bitCount_0f7a4 33 = .ok (.istore_n 0, 1) := by decide +kernel
theorem dJ6_bitCount_0f7a4_34 : decode cJ6_bitCount_0f7a4 34 = .ok (.iload_n 0, 1) := by decide +kernel
theorem dJ6_bitCount_0f7a4_35 : decode cJ6_bitCount_0f7a4 35 = .ok (.iload_n 0, 1) := by decide +kernel
theorem dJ6_bitCount_0f7a4_36 : decode cJ6_bitCount_0f7a4 36 = .ok (.bipush 8, 2) := by decide +kernel
theorem dJ6_bitCount_0f7a4_38 : decode cJ6_bitCount_0f7a4 38 = .ok (.iushr, 1) := by decide +kernel
theorem dJ6_bitCount_0f7a4_39 : decode cJ6_bitCount_0f7a4 39 = .ok (.iadd, 1) := by decide +kernel
theorem dJ6_bitCount_0f7a4_40 : decode cJ6_bitCount_0f7a4 40 = .ok (.istore_n 0, 1) := by decide +kernel
theorem dJ6_bitCount_0f7a4_41 : decode cJ6_bitCount_0f7a4 41 = .ok (.iload_n 0, 1) := by decide +kernel
theorem dJ6_bitCount_0f7a4_42 : decode cJ6_bitCount_0f7a4 42 = .ok (.iload_n 0, 1) := by decide +kernel
theorem dJ6_bitCount_0f7a4_43 : decode cJ6_bitCount_0f7a4 43 = .ok (.bipush 16, 2) := by decide +kernel
theorem dJ6_bitCount_0f7a4_45 : decode cJ6_bitCount_0f7a4 45 = .ok (.iushr, 1) := by decide +kernel
theorem dJ6_bitCount_0f7a4_46 : decode cJ6_bitCount_0f7a4 46 = .ok (.iadd, 1) := by decide +kernel
theorem dJ6_bitCount_0f7a4_47 : decode cJ6_bitCount_0f7a4 47 = .ok (.istore_n 0, 1) := by decide +kernel
theorem dJ6_bitCount_0f7a4_48 : decode cJ6_bitCount_0f7a4 48 = .ok (.iload_n 0, 1) := by decide +kernel
theorem dJ6_bitCount_0f7a4_49 : decode cJ6_bitCount_0f7a4 49 = .ok (.bipush 63, 2) := by decide +kernel
theorem dJ6_bitCount_0f7a4_51 : decode cJ6_bitCount_0f7a4 51 = .ok (.iand, 1) := by decide +kernel
theorem dJ6_bitCount_0f7a4_52 : decode cJ6_bitCount_0f7a4 52 = .ok (.ireturn, 1) := by decide +kernel
theorem dJ4_init_da8c8_0 : decode cJ4_init_da8c8 0 = .ok (.aload_n 0, 1) := by decide +kernel
theorem dJ4_init_da8c8_1 : decode cJ4_init_da8c8 1 = .ok (.bipush 16, 2) := by decide +kernel
theorem dJ4_init_da8c8_3 : decode cJ4_init_da8c8 3 = .ok (.invokespecial 1, 3) := by decide +kernel
theorem dJ4_init_da8c8_6 : decode cJ4_init_da8c8 6 = .ok (.return_, 1) := by decide +kernel
theorem dJ4_append_cf468_0 : decode cJ4_append_cf468 0 = .ok (.aload_n 0, 1) := by decide +kernel
theorem dJ4_append_cf468_1 : decode cJ4_append_cf468 1 = .ok (.iload_n 1, 1) := by decide +kernel
theorem dJ4_append_cf468_2 : decode cJ4_append_cf468 2 = .ok (.invokespecial 50, 3) := by decide +kernel
theorem dJ4_append_cf468_5 : decode cJ4_append_cf468 5 = .ok (.pop, 1) := by decide +kernel
theorem dJ4_append_cf468_6 : decode cJ4_append_cf468 6 = .ok (.aload_n 0, 1) := by decide +kernel
theorem dJ4_append_cf468_7 : decode cJ4_append_cf468 7 = .ok (.areturn, 1) := by decide +kernel
theorem dJ4_append_bf812_0 : decode cJ4_append_bf812 0 = .ok (.aload_n 0, 1) := by decide +kernel
theorem dJ4_append_bf812_1 : decode cJ4_append_bf812 1 = .ok (.iload_n 1, 1) := by decide +kernel
theorem dJ4_append_bf812_2 : decode cJ4_append_bf812 2 = .ok (.invokespecial 53, 3) := by decide +kernel
theorem dJ4_append_bf812_5 : decode cJ4_append_bf812 5 = .ok (.pop, 1) := by decide +kernel
theorem dJ4_append_bf812_6 : decode cJ4_append_bf812 6 = .ok (.aload_n 0, 1) := by decide +kernel
theorem dJ4_append_bf812_7 : decode cJ4_append_bf812 7 = .ok (.areturn, 1) := by decide +kernel
theorem dJ4_charAt_5068e_0 : decode cJ4_charAt_5068e 0 = .ok (.aload_n 0, 1) := by decide +kernel
theorem dJ4_charAt_5068e_1 : decode cJ4_charAt_5068e 1 = .ok (.iload_n 1, 1) := by decide +kernel
theorem dJ4_charAt_5068e_2 : decode cJ4_charAt_5068e 2 = .ok (.invokespecial 329, 3) := by decide +kernel
theorem dJ4_charAt_5068e_5 : decode cJ4_charAt_5068e 5 = .ok (.ireturn, 1) := by decide +kernel
theorem dJ4_length_8abf5_0 : decode cJ4_length_8abf5 0 = .ok (.aload_n 0, 1) := by decide +kernel
theorem dJ4_length_8abf5_1 : decode cJ4_length_8abf5 1 = .ok (.invokespecial 343, 3) := by decide +kernel
theorem dJ4_length_8abf5_4 : decode cJ4_length_8abf5 4 = .ok (.ireturn, 1) := by decide +kernel
theorem dJ1_canEncode_fc78d_0 : decode cJ1_canEncode_fc78d 0 = .ok (.iload_n 0, 1) := by decide +kernel
theorem dJ1_canEncode_fc78d_1 : decode cJ1_canEncode_fc78d 1 = .ok (.sipush 255, 3) := by decide +kernel
theorem dJ1_canEncode_fc78d_4 : decode cJ1_canEncode_fc78d 4 = .ok (.if_icmp .gt 7, 3) := by decide +kernel
theorem dJ1_canEncode_fc78d_7 : decode cJ1_canEncode_fc78d 7 = .ok (.iconst 1, 1) := by decide +kernel
theorem dJ1_canEncode_fc78d_8 : decode cJ1_canEncode_fc78d 8 = .ok (.goto 4, 3) := by decide +kernel
theorem dJ1_canEncode_fc78d_11 : decode cJ1_canEncode_fc78d 11 = .ok (.iconst 0, 1) := by decide +kernel
theorem dJ1_canEncode_fc78d_12 : decode cJ1_canEncode_fc78d 12 = .ok (.ireturn, 1) := by decide +kernel
theorem dJxa1e45_init_da8c8_0 : decode cJxa1e45_init_da8c8 0 = .ok (.aload_n 0, 1) := by decide +kernel
theorem dJxa1e45_init_da8c8_1 : decode cJxa1e45_init_da8c8 1 = .ok (.invokespecial 1, 3) := by decide +kernel
theorem dJxa1e45_init_da8c8_4 : decode cJxa1e45_init_da8c8 4 = .ok (.return_, 1) := by decide +kernel
theorem dJxc12de_init_da8c8_0 : decode cJxc12de_init_da8c8 0 = .ok (.aload_n 0, 1) := by decide +kernel
theorem dJxc12de_init_da8c8_1 : decode cJxc12de_init_da8c8 1 = .ok (.invokespecial 1, 3) := by decide +kernel
theorem dJxc12de_init_da8c8_4 : decode cJxc12de_init_da8c8 4 = .ok (.aload_n 0, 1) := by decide +kernel
theorem dJxc12de_init_da8c8_5 : decode cJxc12de_init_da8c8 5 = .ok (.iconst 0, 1) := by decide +kernel
theorem dJxc12de_init_da8c8_6 : decode cJxc12de_init_da8c8 6 = .ok (.putfield 7, 3) := by decide +kernel
theorem dJxc12de_init_da8c8_9 : decode cJxc12de_init_da8c8 9 = .ok (.return_, 1) := by decide +kernel
theorem dJx4a65c_init_da8c8_0 : decode cJx4a65c_init_da8c8 0 = .ok (.aload_n 0, 1) := by decide +kernel
theorem dJx4a65c_init_da8c8_1 : decode cJx4a65c_init_da8c8 1 = .ok (.invokespecial 1, 3) := by decide +kernel
theorem dJx4a65c_init_da8c8_4 : decode cJx4a65c_init_da8c8 4 = .ok (.aload_n 0, 1) := by decide +kernel
theorem dJx4a65c_init_da8c8_5 : decode cJx4a65c_init_da8c8 5 = .ok (.getstatic 39, 3) := by decide +kernel
theorem dJx4a65c_init_da8c8_8 : decode cJx4a65c_init_da8c8 8 = .ok (.putfield 9, 3) := by decide +kernel
theorem dJx4a65c_init_da8c8_11 : decode cJx4a65c_init_da8c8 11 = .ok (.return_, 1) := by decide +kernel
theorem dJx4a65c_grow_92f84_0 : decode cJx4a65c_grow_92f84 0 = .ok (.aload_n 0, 1) := by decide +kernel
theorem dJx4a65c_grow_92f84_1 : decode cJx4a65c_grow_92f84 1 = .ok (.getfield 9, 3) := by decide +kernel
theorem dJx4a65c_grow_92f84_4 : decode cJx4a65c_grow_92f84 4 = .ok (.arraylength, 1) := by decide +kernel
theorem dJx4a65c_grow_92f84_5 : decode cJx4a65c_grow_92f84 5 = .ok (.istore_n 2, 1) := by decide +kernel
theorem dJx4a65c_grow_92f84_6 : decode cJx4a65c_grow_92f84 6 = .ok (.iload_n 2, 1) := by decide +kernel
theorem dJx4a65c_grow_92f84_7 : decode cJx4a65c_grow_92f84 7 = .ok (.ifCond .gt 13, 3) := by decide +kernel
theorem dJx4a65c_grow_92f84_10 : decode cJx4a65c_grow_92f84 10 = .ok (.aload_n 0, 1) := by decide +kernel
theorem dJx4a65c_grow_92f84_11 : decode cJx4a65c_grow_92f84 11 = .ok (.getfield 9, 3) := by decide +kernel
theorem dJx4a65c_grow_92f84_14 : decode cJx4a65c_grow_92f84 14 = .ok (.getstatic 39, 3) := by decide +kernel
theorem dJx4a65c_grow_92f84_17 : decode cJx4a65c_grow_92f84 17 = .ok (.if_acmp .eq 28, 3) := by decide +kernel
theorem dJx4a65c_grow_92f84_20 : decode cJx4a65c_grow_92f84 20 = .ok (.iload_n 2, 1) := by decide +kernel
theorem dJx4a65c_grow_92f84_21 : decode cJx4a65c_grow_92f84 21 = .ok (.iload_n 1, 1) := by decide +kernel
theorem dJx4a65c_grow_92f84_22 : decode cJx4a65c_grow_92f84 22 = .ok (.iload_n 2, 1) := by decide +kernel
theorem dJx4a65c_grow_92f84_23 : decode cJx4a65c_grow_92f84 23 = .ok (.isub, 1) := by decide +kernel
theorem dJx4a65c_grow_92f84_24 : decode cJx4a65c_grow_92f84 24 = .ok (.iload_n 2, 1) := by decide +kernel
theorem dJx4a65c_grow_92f84_25 : decode cJx4a65c_grow_92f84 25 = .ok (.iconst 1, 1) := by decide +kernel
theorem dJx4a65c_grow_92f84_26 : decode cJx4a65c_grow_92f84 26 = .ok (.ishr, 1) := by decide +kernel
theorem dJx4a65c_grow_92f84_27 : decode cJx4a65c_grow_92f84 27 = .ok (.invokestatic 73, 3) := by decide +kernel
theorem dJx4a65c_grow_92f84_30 : decode cJx4a65c_grow_92f84 30 = .ok (.istore_n 3, 1) := by decide +kernel
theorem dJx4a65c_grow_92f84_31 : decode cJx4a65c_grow_92f84 31 = .ok (.aload_n 0, 1) := by decide +kernel
theorem dJx4a65c_grow_92f84_32 : decode cJx4a65c_grow_92f84 32 = .ok (.aload_n 0, 1) := by decide +kernel
theorem dJx4a65c_grow_92f84_33 : decode cJx4a65c_grow_92f84 33 = .ok (.getfield 9, 3) := by decide +kernel
theorem dJx4a65c_grow_92f84_36 : decode cJx4a65c_grow_92f84 36 = .ok (.iload_n 3, 1) := by decide +kernel
theorem dJx4a65c_grow_92f84_37 : decode cJx4a65c_grow_92f84 37 = .ok (.invokestatic 66, 3) := by decide +kernel
theorem dJx4a65c_grow_92f84_40 : decode cJx4a65c_grow_92f84 40 = .ok (.dup_x1, 1) := by decide +kernel
theorem dJx4a65c_grow_92f84_41 : decode cJx4a65c_grow_92f84 41 = .ok (.putfield 9, 3) := by decide +kernel
theorem dJx4a65c_grow_92f84_44 : decode cJx4a65c_grow_92f84 44 = .ok (.areturn, 1) := by decide +kernel
theorem dJx4a65c_grow_92f84_45 : decode cJx4a65c_grow_92f84 45 = .ok (.aload_n 0, 1) := by decide +kernel
theorem dJx4a65c_grow_92f84_46 : decode cJx4a65c_grow_92f84 46 = .ok (.bipush 10, 2) := by decide +kernel
theorem dJx4a65c_grow_92f84_48 : decode cJx4a65c_grow_92f84 48 = .ok (.iload_n 1, 1) := by decide +kernel
theorem dJx4a65c_grow_92f84_49 : decode cJx4a65c_grow_92f84 49 = .ok (.invokestatic 79, 3) := by decide +kernel
theorem dJx4a65c_grow_92f84_52 : decode cJx4a65c_grow_92f84 52 = .ok (.anewarray 7, 3) := by decide +kernel
theorem dJx4a65c_grow_92f84_55 : decode cJx4a65c_grow_92f84 55 = .ok (.dup_x1, 1) := by decide +kernel
theorem dJx4a65c_grow_92f84_56 : decode cJx4a65c_grow_92f84 56 = .ok (.putfield 9, 3) := by decide +kernel
theorem dJx4a65c_grow_92f84_59 : decode cJx4a65c_grow_92f84 59 = .ok (.areturn, 1) := by decide +kernel
theorem dJx4a65c_grow_d5877_0 : decode cJx4a65c_grow_d5877 0 = .ok (.aload_n 0, 1) := by decide +kernel
theorem dJx4a65c_grow_d5877_1 : decode cJx4a65c_grow_d5877 1 = .ok (.aload_n 0, 1) := by decide +kernel
theorem dJx4a65c_grow_d5877_2 : decode cJx4a65c_grow_d5877 2 = .ok (.getfield 48, 3) := by decide +kernel
theorem dJx4a65c_grow_d5877_5 : decode cJx4a65c_grow_d5877 5 = .ok (.iconst 1, 1) := by decide +kernel
theorem dJx4a65c_grow_d5877_6 : decode cJx4a65c_grow_d5877 6 = .ok (.iadd, 1) := by decide +kernel
theorem dJx4a65c_grow_d5877_7 : decode cJx4a65c_grow_d5877 7 = .ok (.invokevirtual 69, 3) := by decide +kernel
theorem dJx4a65c_grow_d5877_10 : decode cJx4a65c_grow_d5877 10 = .ok (.areturn, 1) := by decide +kernel
theorem dJx4a65c_size_8abf5_0 : decode cJx4a65c_size_8abf5 0 = .ok (.aload_n 0, 1) := by decide +kernel
theorem dJx4a65c_size_8abf5_1 : decode cJx4a65c_size_8abf5 1 = .ok (.getfield 48, 3) := by decide +kernel
theorem dJx4a65c_size_8abf5_4 : decode cJx4a65c_size_8abf5 4 = .ok (.ireturn, 1) := by decide +kernel
theorem dJx4a65c_isEmpty_aae02_0 : decode cJx4a65c_isEmpty_aae02 0 = .ok (.aload_n 0, 1) := by decide +kernel
theorem dJx4a65c_isEmpty_aae02_1 : decode cJx4a65c_isEmpty_aae02 1 = .ok (.getfield 48, 3) := by decide +kernel
theorem dJx4a65c_isEmpty_aae02_4 : decode cJx4a65c_isEmpty_aae02 4 = .ok (.ifCond .ne 7, 3) := by decide +kernel
theorem dJx4a65c_isEmpty_aae02_7 : decode cJx4a65c_isEmpty_aae02 7 = .ok (.iconst 1, 1) := by decide +kernel
theorem dJx4a65c_isEmpty_aae02_8 : decode cJx4a65c_isEmpty_aae02 8 = .ok (.goto 4, 3) := by decide +kernel
theorem dJx4a65c_isEmpty_aae02_11 : decode cJx4a65c_isEmpty_aae02 11 = .ok (.iconst 0, 1) := by decide +kernel
theorem dJx4a65c_isEmpty_aae02_12 : decode cJx4a65c_isEmpty_aae02 12 = .ok (.ireturn, 1) := by decide +kernel
theorem dJx4a65c_elementData_915e3_0 : decode cJx4a65c_elementData_915e3 0 = .ok (.aload_n 0, 1) := by decide +kernel
theorem dJx4a65c_elementData_915e3_1 : decode cJx4a65c_elementData_915e3 1 = .ok (.getfield 9, 3) := by decide +kernel
theorem dJx4a65c_elementData_915e3_4 : decode cJx4a65c_elementData_915e3 4 = .ok (.iload_n 1, 1) := by decide +kernel
theorem dJx4a65c_elementData_915e3_5 : decode cJx4a65c_elementData_915e3 5 = .ok (.aaload, 1) := by decide +kernel
theorem dJx4a65c_elementData_915e3_6 : decode cJx4a65c_elementData_915e3 6 = .ok (.areturn, 1) := by decide +kernel
theorem dJx4a65c_get_915e3_0 : decode cJx4a65c_get_915e3 0 = .ok (.iload_n 1, 1) := by decide +kernel
theorem dJx4a65c_get_915e3_1 : decode cJx4a65c_get_915e3 1 = .ok (.aload_n 0, 1) := by decide +kernel
theorem dJx4a65c_get_915e3_2 : decode cJx4a65c_get_915e3 2 = .ok (.getfield 48, 3) := by decide +kernel
theorem dJx4a65c_get_915e3_5 : decode cJx4a65c_get_915e3 5 = .ok (.invokestatic 118, 3) := by decide +kernel
theorem dJx4a65c_get_915e3_8 : decode cJx4a65c_get_915e3 8 = .ok (.pop, 1) := by decide +kernel
theorem dJx4a65c_get_915e3_9 : decode cJx4a65c_get_915e3 9 = .ok (.aload_n 0, 1) := by decide +kernel
theorem dJx4a65c_get_915e3_10 : decode cJx4a65c_get_915e3 10 = .ok (.iload_n 1, 1) := by decide +kernel
theorem dJx4a65c_get_915e3_11 : decode cJx4a65c_get_915e3 11 = .ok (.invokevirtual 123, 3) := by decide +kernel
theorem dJx4a65c_get_915e3_14 : decode cJx4a65c_get_915e3 14 = .ok (.areturn, 1) := by decide +kernel
theorem dJx4a65c_add_72be8_0 : decode cJx4a65c_add_72be8 0 = .ok (.iload_n 3, 1) := by decide +kernel
theorem dJx4a65c_add_72be8_1 : decode cJx4a65c_add_72be8 1 = .ok (.aload_n 2, 1) := by decide +kernel
theorem dJx4a65c_add_72be8_2 : decode cJx4a65c_add_72be8 2 = .ok (.arraylength, 1) := by decide +kernel
theorem dJx4a65c_add_72be8_3 : decode cJx4a65c_add_72be8 3 = .ok (.if_icmp .ne 8, 3) := by decide +kernel
theorem dJx4a65c_add_72be8_6 : decode cJx4a65c_add_72be8 6 = .ok (.aload_n 0, 1) := by decide +kernel
theorem dJx4a65c_add_72be8_7 : decode cJx4a65c_add_72be8 7 = .ok (.invokevirtual 129, 3) := by decide +kernel
theorem dJx4a65c_add_72be8_10 : decode cJx4a65c_add_72be8 10 = .ok (.astore_n 2, 1) := by decide +kernel
theorem dJx4a65c_add_72be8_11 : decode cJx4a65c_add_72be8 11 = .ok (.aload_n 2, 1) := by decide +kernel
theorem dJx4a65c_add_72be8_12 : decode cJx4a65c_add_72be8 12 = .ok (.iload_n 3, 1) := by decide +kernel
theorem dJx4a65c_add_72be8_13 : decode cJx4a65c_add_72be8 13 = .ok (.aload_n 1, 1) := by decide +kernel
theorem dJx4a65c_add_72be8_14 : decode cJx4a65c_add_72be8 14 = .ok (.aastore, 1) := by decide +kernel
theorem dJx4a65c_add_72be8_15 : decode cJx4a65c_add_72be8 15 = .ok (.aload_n 0, 1) := by decide +kernel
theorem dJx4a65c_add_72be8_16 : decode cJx4a65c_add_72be8 16 = .ok (.iload_n 3, 1) := by decide +kernel
theorem dJx4a65c_add_72be8_17 : decode cJx4a65c_add_72be8 17 = .ok (.iconst 1, 1) := by decide +kernel
theorem dJx4a65c_add_72be8_18 : decode cJx4a65c_add_72be8 18 = .ok (.iadd, 1) := by decide +kernel
theorem dJx4a65c_add_72be8_19 : decode cJx4a65c_add_72be8 19 = .ok (.putfield 48, 3) := by decide +kernel
theorem dJx4a65c_add_72be8_22 : decode cJx4a65c_add_72be8 22 = .ok (.return_, 1) := by decide +kernel
theorem dJx4a65c_add_9ea2d_0 : decode cJx4a65c_add_9ea2d 0 = .ok (.aload_n 0, 1) := by decide +kernel
theorem dJx4a65c_add_9ea2d_1 : decode cJx4a65c_add_9ea2d 1 = .ok (.dup, 1) := by decide +kernel
theorem dJx4a65c_add_9ea2d_2 : decode cJx4a65c_add_9ea2d 2 = .ok (.getfield 63, 3) := by decide +kernel
theorem dJx4a65c_add_9ea2d_5 : decode cJx4a65c_add_9ea2d 5 = .ok (.iconst 1, 1) := by decide +kernel
theorem dJx4a65c_add_9ea2d_6 : decode cJx4a65c_add_9ea2d 6 = .ok (.iadd, 1) := by decide +kernel
theorem dJx4a65c_add_9ea2d_7 : decode cJx4a65c_add_9ea2d 7 = .ok (.putfield 63, 3) := by decide +kernel
theorem dJx4a65c_add_9ea2d_10 : decode cJx4a65c_add_9ea2d 10 = .ok (.aload_n 0, 1) := by decide +kernel
theorem dJx4a65c_add_9ea2d_11 : decode cJx4a65c_add_9ea2d 11 = .ok (.aload_n 1, 1) := by decide +kernel
theorem dJx4a65c_add_9ea2d_12 : decode cJx4a65c_add_9ea2d 12 = .ok (.aload_n 0, 1) := by decide +kernel
theorem dJx4a65c_add_9ea2d_13 : decode cJx4a65c_add_9ea2d 13 = .ok (.getfield 9, 3) := by decide +kernel
theorem dJx4a65c_add_9ea2d_16 : decode cJx4a65c_add_9ea2d 16 = .ok (.aload_n 0, 1) := by decide +kernel
theorem dJx4a65c_add_9ea2d_17 : decode cJx4a65c_add_9ea2d 17 = .ok (.getfield 48, 3) := by decide +kernel
theorem dJx4a65c_add_9ea2d_20 : decode cJx4a65c_add_9ea2d 20 = .ok (.invokevirtual 131, 3) := by decide +kernel
theorem dJx4a65c_add_9ea2d_23 : decode cJx4a65c_add_9ea2d 23 = .ok (.iconst 1, 1) := by decide +kernel
theorem dJx4a65c_add_9ea2d_24 : decode cJx4a65c_add_9ea2d 24 = .ok (.ireturn, 1) := by decide +kernel
theorem dJx4a65c_add_7a177_0 : decode cJx4a65c_add_7a177 0 = .ok (.aload_n 0, 1) := by decide +kernel
theorem dJx4a65c_add_7a177_1 : decode cJx4a65c_add_7a177 1 = .ok (.iload_n 1, 1) := by decide +kernel
theorem dJx4a65c_add_7a177_2 : decode cJx4a65c_add_7a177 2 = .ok (.invokevirtual 135, 3) := by decide +kernel
theorem dJx4a65c_add_7a177_5 : decode cJx4a65c_add_7a177 5 = .ok (.aload_n 0, 1) := by decide +kernel
theorem dJx4a65c_add_7a177_6 : decode cJx4a65c_add_7a177 6 = .ok (.dup, 1) := by decide +kernel
theorem dJx4a65c_add_7a177_7 : decode cJx4a65c_add_7a177 7 = .ok (.getfield 63, 3) := by decide +kernel
theorem dJx4a65c_add_7a177_10 : decode cJx4a65c_add_7a177 10 = .ok (.iconst 1, 1) := by decide +kernel
theorem dJx4a65c_add_7a177_11 : decode cJx4a65c_add_7a177 11 = .ok (.iadd, 1) := by decide +kernel
theorem dJx4a65c_add_7a177_12 : decode cJx4a65c_add_7a177 12 = .ok (.putfield 63, 3) := by decide +kernel
theorem dJx4a65c_add_7a177_15 : decode cJx4a65c_add_7a177 15 = .ok (.aload_n 0, 1) := by decide +kernel
theorem dJx4a65c_add_7a177_16 : decode cJx4a65c_add_7a177 16 = .ok (.getfield 48, 3) := by decide +kernel
theorem dJx4a65c_add_7a177_19 : decode cJx4a65c_add_7a177 19 = .ok (.dup, 1) := by decide +kernel
theorem dJx4a65c_add_7a177_20 : decode cJx4a65c_add_7a177 20 = .ok (.istore_n 3, 1) := by decide +kernel
theorem dJx4a65c_add_7a177_21 : decode cJx4a65c_add_7a177 21 = .ok (.aload_n 0, 1) := by decide +kernel
theorem dJx4a65c_add_7a177_22 : decode cJx4a65c_add_7a177 22 = .ok (.getfield 9, 3) := by decide +kernel
theorem dJx4a65c_add_7a177_25 : decode cJx4a65c_add_7a177 25 = .ok (.dup, 1) := by decide +kernel
theorem dJx4a65c_add_7a177_26 : decode cJx4a65c_add_7a177 26 = .ok (.astore 4, 2) := by decide +kernel
theorem dJx4a65c_add_7a177_28 : decode cJx4a65c_add_7a177 28 = .ok (.arraylength, 1) := by decide +kernel
theorem dJx4a65c_add_7a177_29 : decode cJx4a65c_add_7a177 29 = .ok (.if_icmp .ne 9, 3) := by decide +kernel
theorem dJx4a65c_add_7a177_32 : decode cJx4a65c_add_7a177 32 = .ok (.aload_n 0, 1) := by decide +kernel
theorem dJx4a65c_add_7a177_33 : decode cJx4a65c_add_7a177 33 = .ok (.invokevirtual 129, 3) := by decide +kernel
theorem dJx4a65c_add_7a177_36 : decode cJx4a65c_add_7a177 36 = .ok (.astore 4, 2) := by decide +kernel
theorem dJx4a65c_add_7a177_38 : decode cJx4a65c_add_7a177 38 = .ok (.aload 4, 2) := by decide +kernel
theorem dJx4a65c_add_7a177_40 : decode cJx4a65c_add_7a177 40 = .ok (.iload_n 1, 1) := by decide +kernel
theorem dJx4a65c_add_7a177_41 : decode cJx4a65c_add_7a177 41 = .ok (.aload 4, 2) := by decide +kernel
theorem dJx4a65c_add_7a177_43 : decode cJx4a65c_add_7a177 43 = .ok (.iload_n 1, 1) := by decide +kernel
theorem dJx4a65c_add_7a177_44 : decode cJx4a65c_add_7a177 44 = .ok (.iconst 1, 1) := by decide +kernel
theorem dJx4a65c_add_7a177_45 : decode cJx4a65c_add_7a177 45 = .ok (.iadd, 1) := by decide +kernel
theorem dJx4a65c_add_7a177_46 : decode cJx4a65c_add_7a177 46 = .ok (.iload_n 3, 1) := by decide +kernel
theorem dJx4a65c_add_7a177_47 : decode cJx4a65c_add_7a177 47 = .ok (.iload_n 1, 1) := by decide +kernel
theorem dJx4a65c_add_7a177_48 : decode cJx4a65c_add_7a177 48 = .ok (.isub, 1) := by decide +kernel
theorem dJx4a65c_add_7a177_49 : decode cJx4a65c_add_7a177 49 = .ok (.invokestatic 112, 3) := by decide +kernel
theorem dJx4a65c_add_7a177_52 : decode cJx4a65c_add_7a177 52 = .ok (.aload 4, 2) := by decide +kernel
theorem dJx4a65c_add_7a177_54 : decode cJx4a65c_add_7a177 54 = .ok (.iload_n 1, 1) := by decide +kernel
theorem dJx4a65c_add_7a177_55 : decode cJx4a65c_add_7a177 55 = .ok (.aload_n 2, 1) := by decide +kernel
theorem dJx4a65c_add_7a177_56 : decode cJx4a65c_add_7a177 56 = .ok (.aastore, 1) := by decide +kernel
theorem dJx4a65c_add_7a177_57 : decode cJx4a65c_add_7a177 57 = .ok (.aload_n 0, 1) := by decide +kernel
theorem dJx4a65c_add_7a177_58 : decode cJx4a65c_add_7a177 58 = .ok (.iload_n 3, 1) := by decide +kernel
theorem dJx4a65c_add_7a177_59 : decode cJx4a65c_add_7a177 59 = .ok (.iconst 1, 1) := by decide +kernel
theorem dJx4a65c_add_7a177_60 : decode cJx4a65c_add_7a177 60 = .ok (.iadd, 1) := by decide +kernel
theorem dJx4a65c_add_7a177_61 : decode cJx4a65c_add_7a177 61 = .ok (.putfield 48, 3) := by decide +kernel
theorem dJx4a65c_add_7a177_64 : decode cJx4a65c_add_7a177 64 = .ok (.return_, 1) := by decide +kernel
theorem dJx4a65c_remove_915e3_0 : decode cJx4a65c_remove_915e3 0 = .ok (.iload_n 1, 1) := by decide +kernel
theorem dJx4a65c_remove_915e3_1 : decode cJx4a65c_remove_915e3 1 = .ok (.aload_n 0, 1) := by decide +kernel
theorem dJx4a65c_remove_915e3_2 : decode cJx4a65c_remove_915e3 2 = .ok (.getfield 48, 3) := by decide +kernel
theorem dJx4a65c_remove_915e3_5 : decode cJx4a65c_remove_915e3 5 = .ok (.invokestatic 118, 3) := by decide +kernel
theorem dJx4a65c_remove_915e3_8 : decode cJx4a65c_remove_915e3 8 = .ok (.pop, 1) := by decide +kernel
theorem dJx4a65c_remove_915e3_9 : decode cJx4a65c_remove_915e3 9 = .ok (.aload_n 0, 1) := by decide +kernel
theorem dJx4a65c_remove_915e3_10 : decode cJx4a65c_remove_915e3 10 = .ok (.getfield 9, 3) := by decide +kernel
theorem dJx4a65c_remove_915e3_13 : decode cJx4a65c_remove_915e3 13 = .ok (.astore_n 2, 1) := by decide +kernel
theorem dJx4a65c_remove_915e3_14 : decode cJx4a65c_remove_915e3 14 = .ok (.aload_n 2, 1) := by decide +kernel
theorem dJx4a65c_remove_915e3_15 : decode cJx4a65c_remove_915e3 15 = .ok (.iload_n 1, 1) := by decide +kernel
theorem dJx4a65c_remove_915e3_16 : decode cJx4a65c_remove_915e3 16 = .ok (.aaload, 1) := by decide +kernel
theorem dJx4a65c_remove_915e3_17 : decode cJx4a65c_remove_915e3 17 = .ok (.astore_n 3, 1) := by decide +kernel
theorem dJx4a65c_remove_915e3_18 : decode cJx4a65c_remove_915e3 18 = .ok (.aload_n 0, 1) := by decide +kernel
theorem dJx4a65c_remove_915e3_19 : decode cJx4a65c_remove_915e3 19 = .ok (.aload_n 2, 1) := by decide +kernel
theorem dJx4a65c_remove_915e3_20 : decode cJx4a65c_remove_915e3 20 = .ok (.iload_n 1, 1) := by decide +kernel
theorem dJx4a65c_remove_915e3_21 : decode cJx4a65c_remove_915e3 21 = .ok (.invokevirtual 144, 3) := by decide +kernel
theorem dJx4a65c_remove_915e3_24 : decode cJx4a65c_remove_915e3 24 = .ok (.aload_n 3, 1) := by decide +kernel
theorem dJx4a65c_remove_915e3_25 : decode cJx4a65c_remove_915e3 25 = .ok (.areturn, 1) := by decide +kernel
theorem dJx4a65c_fastRemove_b59b0_0 : decode cJx4a65c_fastRemove_b59b0 0 = .ok (.aload_n 0, 1) := by decide +kernel
theorem dJx4a65c_fastRemove_b59b0_1 : decode cJx4a65c_fastRemove_b59b0 1 = .ok (.dup, 1) := by decide +kernel
theorem dJx4a65c_fastRemove_b59b0_2 : decode cJx4a65c_fastRemove_b59b0 2 = .ok (.getfield 63, 3) := by decide +kernel
theorem dJx4a65c_fastRemove_b59b0_5 : decode cJx4a65c_fastRemove_b59b0 5 = .ok (.iconst 1, 1) := by decide +kernel
theorem dJx4a65c_fastRemove_b59b0_6 : decode cJx4a65c_fastRemove_b59b0 6 = .ok (.iadd, 1) := by decide +kernel
theorem dJx4a65c_fastRemove_b59b0_7 : decode cJx4a65c_fastRemove_b59b0 7 = .ok (.putfield 63, 3) := by decide +kernel
theorem dJx4a65c_fastRemove_b59b0_10 : decode cJx4a65c_fastRemove_b59b0 10 = .ok (.aload_n 0, 1) := by decide +kernel
theorem dJx4a65c_fastRemove_b59b0_11 : decode cJx4a65c_fastRemove_b59b0 11 = .ok (.getfield 48, 3) := by decide +kernel
theorem dJx4a65c_fastRemove_b59b0_14 : decode cJx4a65c_fastRemove_b59b0 14 = .ok (.iconst 1, 1) := by decide +kernel
theorem dJx4a65c_fastRemove_b59b0_15 : decode cJx4a65c_fastRemove_b59b0 15 = .ok (.isub, 1) := by decide +kernel
theorem dJx4a65c_fastRemove_b59b0_16 : decode cJx4a65c_fastRemove_b59b0 16 = .ok (.dup, 1) := by decide +kernel
theorem dJx4a65c_fastRemove_b59b0_17 : decode cJx4a65c_fastRemove_b59b0 17 = .ok (.istore_n 3, 1) := by decide +kernel
theorem dJx4a65c_fastRemove_b59b0_18 : decode cJx4a65c_fastRemove_b59b0 18 = .ok (.iload_n 2, 1) := by decide +kernel
theorem dJx4a65c_fastRemove_b59b0_19 : decode cJx4a65c_fastRemove_b59b0 19 = .ok (.if_icmp .le 15, 3) := by decide +kernel
theorem dJx4a65c_fastRemove_b59b0_22 : decode cJx4a65c_fastRemove_b59b0 22 = .ok (.aload_n 1, 1) := by decide +kernel
theorem dJx4a65c_fastRemove_b59b0_23 : decode cJx4a65c_fastRemove_b59b0 23 = .ok (.iload_n 2, 1) := by decide +kernel
theorem dJx4a65c_fastRemove_b59b0_24 : decode cJx4a65c_fastRemove_b59b0 24 = .ok (.iconst 1, 1) := by decide +kernel
theorem dJx4a65c_fastRemove_b59b0_25 : decode cJx4a65c_fastRemove_b59b0 25 = .ok (.iadd, 1) := by decide +kernel
theorem dJx4a65c_fastRemove_b59b0_26 : decode cJx4a65c_fastRemove_b59b0 26 = .ok (.aload_n 1, 1) := by decide +kernel
theorem dJx4a65c_fastRemove_b59b0_27 : decode cJx4a65c_fastRemove_b59b0 27 = .ok (.iload_n 2, 1) := by decide +kernel
theorem dJx4a65c_fastRemove_b59b0_28 : decode cJx4a65c_fastRemove_b59b0 28 = .ok (.iload_n 3, 1) := by decide +kernel
theorem dJx4a65c_fastRemove_b59b0_29 : decode cJx4a65c_fastRemove_b59b0 29 = .ok (.iload_n 2, 1) := by decide +kernel
theorem dJx4a65c_fastRemove_b59b0_30 : decode cJx4a65c_fastRemove_b59b0 30 = .ok (.isub, 1) := by decide +kernel
theorem dJx4a65c_fastRemove_b59b0_31 : decode cJx4a65c_fastRemove_b59b0 31 = .ok (.invokestatic 112, 3) := by decide +kernel
theorem dJx4a65c_fastRemove_b59b0_34 : decode cJx4a65c_fastRemove_b59b0 34 = .ok (.aload_n 1, 1) := by decide +kernel
theorem dJx4a65c_fastRemove_b59b0_35 : decode cJx4a65c_fastRemove_b59b0 35 = .ok (.aload_n 0, 1) := by decide +kernel
theorem dJx4a65c_fastRemove_b59b0_36 : decode cJx4a65c_fastRemove_b59b0 36 = .ok (.iload_n 3, 1) := by decide +kernel
theorem dJx4a65c_fastRemove_b59b0_37 : decode cJx4a65c_fastRemove_b59b0 37 = .ok (.dup_x1, 1) := by decide +kernel
theorem dJx4a65c_fastRemove_b59b0_38 : decode cJx4a65c_fastRemove_b59b0 38 = .ok (.putfield 48, 3) := by decide +kernel
theorem dJx4a65c_fastRemove_b59b0_41 : decode cJx4a65c_fastRemove_b59b0 41 = .ok (.aconst_null, 1) := by decide +kernel
theorem dJx4a65c_fastRemove_b59b0_42 : decode cJx4a65c_fastRemove_b59b0 42 = .ok (.aastore, 1) := by decide +kernel
theorem dJx4a65c_fastRemove_b59b0_43 : decode cJx4a65c_fastRemove_b59b0 43 = .ok (.return_, 1) := by decide +kernel
theorem dJx4a65c_clear_da8c8_0 : decode cJx4a65c_clear_da8c8 0 = .ok (.aload_n 0, 1) := by decide +kernel
theorem dJx4a65c_clear_da8c8_1 : decode cJx4a65c_clear_da8c8 1 = .ok (.dup, 1) := by decide +kernel
theorem dJx4a65c_clear_da8c8_2 : decode cJx4a65c_clear_da8c8 2 = .ok (.getfield 63, 3) := by decide +kernel
theorem dJx4a65c_clear_da8c8_5 : decode cJx4a65c_clear_da8c8 5 = .ok (.iconst 1, 1) := by decide +kernel
theorem dJx4a65c_clear_da8c8_6 : decode cJx4a65c_clear_da8c8 6 = .ok (.iadd, 1) := by decide +kernel
theorem dJx4a65c_clear_da8c8_7 : decode cJx4a65c_clear_da8c8 7 = .ok (.putfield 63, 3) := by decide +kernel
theorem dJx4a65c_clear_da8c8_10 : decode cJx4a65c_clear_da8c8 10 = .ok (.aload_n 0, 1) := by decide +kernel
theorem dJx4a65c_clear_da8c8_11 : decode cJx4a65c_clear_da8c8 11 = .ok (.getfield 9, 3) := by decide +kernel
theorem dJx4a65c_clear_da8c8_14 : decode cJx4a65c_clear_da8c8 14 = .ok (.astore_n 1, 1) := by decide +kernel
theorem dJx4a65c_clear_da8c8_15 : decode cJx4a65c_clear_da8c8 15 = .ok (.aload_n 0, 1) := by decide +kernel
theorem dJx4a65c_clear_da8c8_16 : decode cJx4a65c_clear_da8c8 16 = .ok (.getfield 48, 3) := by decide +kernel
theorem dJx4a65c_clear_da8c8_19 : decode cJx4a65c_clear_da8c8 19 = .ok (.istore_n 2, 1) := by decide +kernel
theorem dJx4a65c_clear_da8c8_20 : decode cJx4a65c_clear_da8c8 20 = .ok (.aload_n 0, 1) := by decide +kernel
theorem dJx4a65c_clear_da8c8_21 : decode cJx4a65c_clear_da8c8 21 = .ok (.iconst 0, 1) := by decide +kernel
theorem dJx4a65c_clear_da8c8_22 : decode cJx4a65c_clear_da8c8 22 = .ok (.dup_x1, 1) := by decide +kernel
theorem dJx4a65c_clear_da8c8_23 : decode cJx4a65c_clear_da8c8 23 = .ok (.putfield 48, 3) := by decide +kernel
theorem dJx4a65c_clear_da8c8_26 : decode cJx4a65c_clear_da8c8 26 = .ok (.istore_n 3, 1) := by decide +kernel
theorem dJx4a65c_clear_da8c8_27 : decode cJx4a65c_clear_da8c8 27 = .ok (.iload_n 3, 1) := by decide +kernel
theorem dJx4a65c_clear_da8c8_28 : decode cJx4a65c_clear_da8c8 28 = .ok (.iload_n 2, 1) := by decide +kernel
theorem dJx4a65c_clear_da8c8_29 : decode cJx4a65c_clear_da8c8 29 = .ok (.if_icmp .ge 13, 3) := by decide +kernel
theorem dJx4a65c_clear_da8c8_32 : decode cJx4a65c_clear_da8c8 32 = .ok (.aload_n 1, 1) := by decide +kernel
theorem dJx4a65c_clear_da8c8_33 : decode cJx4a65c_clear_da8c8 33 = .ok (.iload_n 3, 1) := by decide +kernel
theorem dJx4a65c_clear_da8c8_34 : decode cJx4a65c_clear_da8c8 34 = .ok (.aconst_null, 1) := by decide +kernel
theorem dJx4a65c_clear_da8c8_35 : decode cJx4a65c_clear_da8c8 35 = .ok (.aastore, 1) := by decide +kernel
theorem dJx4a65c_clear_da8c8_36 : decode cJx4a65c_clear_da8c8 36 = .ok (.iinc 3 1, 3) := by decide +kernel
theorem dJx4a65c_clear_da8c8_39 : decode cJx4a65c_clear_da8c8 39 = .ok (.goto (-12), 3) := by decide +kernel
theorem dJx4a65c_clear_da8c8_42 : decode cJx4a65c_clear_da8c8 42 = .ok (.return_, 1) := by decide +kernel
theorem dJx4a65c_rangeCheckForAdd_d00df_0 : decode cJx4a65c_rangeCheckForAdd_d00df 0 = .ok (.iload_n 1, 1) := by decide +kernel
theorem dJx4a65c_rangeCheckForAdd_d00df_1 : decode cJx4a65c_rangeCheckForAdd_d00df 1 = .ok (.aload_n 0, 1) := by decide +kernel
theorem dJx4a65c_rangeCheckForAdd_d00df_2 : decode cJx4a65c_rangeCheckForAdd_d00df 2 = .ok (.getfield 48, 3) := by decide +kernel
theorem dJx4a65c_rangeCheckForAdd_d00df_5 : decode cJx4a65c_rangeCheckForAdd_d00df 5 = .ok (.if_icmp .gt 7, 3) := by decide +kernel
theorem dJx4a65c_rangeCheckForAdd_d00df_8 : decode cJx4a65c_rangeCheckForAdd_d00df 8 = .ok (.iload_n 1, 1) := by decide +kernel
theorem dJx4a65c_rangeCheckForAdd_d00df_9 : decode cJx4a65c_rangeCheckForAdd_d00df 9 = .ok (.ifCond .ge 16, 3) := by decide +kernel
theorem dJx4a65c_rangeCheckForAdd_d00df_12 : decode cJx4a65c_rangeCheckForAdd_d00df 12 = .ok (.new 187, 3) := by decide +kernel
theorem dJx4a65c_rangeCheckForAdd_d00df_15 : decode cJx4a65c_rangeCheckForAdd_d00df 15 = .ok (.dup, 1) := by decide +kernel
theorem dJx4a65c_rangeCheckForAdd_d00df_16 : decode cJx4a65c_rangeCheckForAdd_d00df 16 = .ok (.aload_n 0, 1) := by decide +kernel
theorem dJx4a65c_rangeCheckForAdd_d00df_17 : decode cJx4a65c_rangeCheckForAdd_d00df 17 = .ok (.iload_n 1, 1) := by decide +kernel
theorem dJx4a65c_rangeCheckForAdd_d00df_18 : decode cJx4a65c_rangeCheckForAdd_d00df 18 = .ok (.invokevirtual 198, 3) := by decide +kernel
theorem dJx4a65c_rangeCheckForAdd_d00df_21 : decode cJx4a65c_rangeCheckForAdd_d00df 21 = .ok (.invokespecial 193, 3) := by decide +kernel
theorem dJx4a65c_rangeCheckForAdd_d00df_24 : decode cJx4a65c_rangeCheckForAdd_d00df 24 = .ok (.athrow, 1) := by decide +kernel
theorem dJx4a65c_rangeCheckForAdd_d00df_25 : decode cJx4a65c_rangeCheckForAdd_d00df 25 = .ok (.return_, 1) := by decide +kernel
theorem dJx4a65c_outOfBoundsMsg_b52d3_0 : decode cJx4a65c_outOfBoundsMsg_b52d3 0 = .ok (.new 20, 3) := by decide +kernel
theorem dJx4a65c_outOfBoundsMsg_b52d3_3 : decode cJx4a65c_outOfBoundsMsg_b52d3 3 = .ok (.dup, 1) := by decide +kernel
theorem dJx4a65c_outOfBoundsMsg_b52d3_4 : decode cJx4a65c_outOfBoundsMsg_b52d3 4 = .ok (.invokespecial 22, 3) := by decide +kernel
theorem dJx4a65c_outOfBoundsMsg_b52d3_7 : decode cJx4a65c_outOfBoundsMsg_b52d3 7 = .ok (.ldc 201, 2) := by decide +kernel
theorem dJx4a65c_outOfBoundsMsg_b52d3_9 : decode cJx4a65c_outOfBoundsMsg_b52d3 9 = .ok (.invokevirtual 25, 3) := by decide +kernel
theorem dJx4a65c_outOfBoundsMsg_b52d3_12 : decode cJx4a65c_outOfBoundsMsg_b52d3 12 = .ok (.iload_n 1, 1) := by decide +kernel
theorem dJx4a65c_outOfBoundsMsg_b52d3_13 : decode cJx4a65c_outOfBoundsMsg_b52d3 13 = .ok (.invokevirtual 29, 3) := by decide +kernel
theorem dJx4a65c_outOfBoundsMsg_b52d3_16 : decode cJx4a65c_outOfBoundsMsg_b52d3 16 = .ok (.ldc 203, 2) := by decide +kernel
theorem dJx4a65c_outOfBoundsMsg_b52d3_18 : decode cJx4a65c_outOfBoundsMsg_b52d3 18 = .ok (.invokevirtual 25, 3) := by decide +kernel
theorem dJx4a65c_outOfBoundsMsg_b52d3_21 : decode cJx4a65c_outOfBoundsMsg_b52d3 21 = .ok (.aload_n 0, 1) := by decide +kernel
theorem dJx4a65c_outOfBoundsMsg_b52d3_22 : decode cJx4a65c_outOfBoundsMsg_b52d3 22 = .ok (.getfield 48, 3) := by decide +kernel
theorem dJx4a65c_outOfBoundsMsg_b52d3_25 : decode cJx4a65c_outOfBoundsMsg_b52d3 25 = .ok (.invokevirtual 29, 3) := by decide +kernel
theorem dJx4a65c_outOfBoundsMsg_b52d3_28 : decode cJx4a65c_outOfBoundsMsg_b52d3 28 = .ok (.invokevirtual 32, 3) := by decide +kernel
theorem dJx4a65c_outOfBoundsMsg_b52d3_31 : decode cJx4a65c_outOfBoundsMsg_b52d3 31 = .ok (.areturn, 1) := by decide +kernel
theorem dJ7_copyOf_1904c_0 : decode cJ7_copyOf_1904c 0 = .ok (.aload_n 0, 1) := by decide +kernel
theorem dJ7_copyOf_1904c_1 : decode cJ7_copyOf_1904c 1 = .ok (.iload_n 1, 1) := by decide +kernel
theorem dJ7_copyOf_1904c_2 : decode cJ7_copyOf_1904c 2 = .ok (.aload_n 0, 1) := by decide +kernel
theorem dJ7_copyOf_1904c_3 : decode cJ7_copyOf_1904c 3 = .ok (.invokevirtual 86, 3) := by decide +kernel
theorem dJ7_copyOf_1904c_6 : decode cJ7_copyOf_1904c 6 = .ok (.invokestatic 300, 3) := by decide +kernel
theorem dJ7_copyOf_1904c_9 : decode cJ7_copyOf_1904c 9 = .ok (.areturn, 1) := by decide +kernel
theorem dJ7_copyOf_6403c_0 : decode cJ7_copyOf_6403c 0 = .ok (.aload_n 2, 1) := by decide +kernel
theorem dJ7_copyOf_6403c_1 : decode cJ7_copyOf_6403c 1 = .ok (.ldc 110, 2) := by decide +kernel
theorem dJ7_copyOf_6403c_3 : decode cJ7_copyOf_6403c 3 = .ok (.if_acmp .ne 10, 3) := by decide +kernel
theorem dJ7_copyOf_6403c_6 : decode cJ7_copyOf_6403c 6 = .ok (.iload_n 1, 1) := by decide +kernel
theorem dJ7_copyOf_6403c_7 : decode cJ7_copyOf_6403c 7 = .ok (.anewarray 2, 3) := by decide +kernel
theorem dJ7_copyOf_6403c_10 : decode cJ7_copyOf_6403c 10 = .ok (.goto 14, 3) := by decide +kernel
theorem dJ7_copyOf_6403c_13 : decode cJ7_copyOf_6403c 13 = .ok (.aload_n 2, 1) := by decide +kernel
theorem dJ7_copyOf_6403c_14 : decode cJ7_copyOf_6403c 14 = .ok (.invokevirtual 90, 3) := by decide +kernel
theorem dJ7_copyOf_6403c_17 : decode cJ7_copyOf_6403c 17 = .ok (.iload_n 1, 1) := by decide +kernel
theorem dJ7_copyOf_6403c_18 : decode cJ7_copyOf_6403c 18 = .ok (.invokestatic 95, 3) := by decide +kernel
theorem dJ7_copyOf_6403c_21 : decode cJ7_copyOf_6403c 21 = .ok (.checkcast 110, 3) := by decide +kernel
theorem dJ7_copyOf_6403c_24 : decode cJ7_copyOf_6403c 24 = .ok (.astore_n 3, 1) := by decide +kernel
theorem dJ7_copyOf_6403c_25 : decode cJ7_copyOf_6403c 25 = .ok (.aload_n 0, 1) := by decide +kernel
theorem dJ7_copyOf_6403c_26 : decode cJ7_copyOf_6403c 26 = .ok (.iconst 0, 1) := by decide +kernel
theorem dJ7_copyOf_6403c_27 : decode cJ7_copyOf_6403c 27 = .ok (.aload_n 3, 1) := by decide +kernel
theorem dJ7_copyOf_6403c_28 : decode cJ7_copyOf_6403c 28 = .ok (.iconst 0, 1) := by decide +kernel
theorem dJ7_copyOf_6403c_29 : decode cJ7_copyOf_6403c 29 = .ok (.aload_n 0, 1) := by decide +kernel
theorem dJ7_copyOf_6403c_30 : decode cJ7_copyOf_6403c 30 = .ok (.arraylength, 1) := by decide +kernel
theorem dJ7_copyOf_6403c_31 : decode cJ7_copyOf_6403c 31 = .ok (.iload_n 1, 1) := by decide +kernel
theorem dJ7_copyOf_6403c_32 : decode cJ7_copyOf_6403c 32 = .ok (.invokestatic 304, 3) := by decide +kernel
theorem dJ7_copyOf_6403c_35 : decode cJ7_copyOf_6403c 35 = .ok (.invokestatic 150, 3) := by decide +kernel
theorem dJ7_copyOf_6403c_38 : decode cJ7_copyOf_6403c 38 = .ok (.aload_n 3, 1) := by decide +kernel
theorem dJ7_copyOf_6403c_39 : decode cJ7_copyOf_6403c 39 = .ok (.areturn, 1) := by decide +kernel
theorem dJ7_copyOf_9075b_0 : decode cJ7_copyOf_9075b 0 = .ok (.iload_n 1, 1) := by decide +kernel
theorem dJ7_copyOf_9075b_1 : decode cJ7_copyOf_9075b 1 = .ok (.aload_n 0, 1) := by decide +kernel
theorem dJ7_copyOf_9075b_2 : decode cJ7_copyOf_9075b 2 = .ok (.arraylength, 1) := by decide +kernel
theorem dJ7_copyOf_9075b_3 : decode cJ7_copyOf_9075b 3 = .ok (.if_icmp .ne 11, 3) := by decide +kernel
theorem dJ7_copyOf_9075b_6 : decode cJ7_copyOf_9075b 6 = .ok (.aload_n 0, 1) := by decide +kernel
theorem dJ7_copyOf_9075b_7 : decode cJ7_copyOf_9075b 7 = .ok (.invokevirtual 310, 3) := by decide +kernel
theorem dJ7_copyOf_9075b_10 : decode cJ7_copyOf_9075b 10 = .ok (.checkcast 311, 3) := by decide +kernel
theorem dJ7_copyOf_9075b_13 : decode cJ7_copyOf_9075b 13 = .ok (.areturn, 1) := by decide +kernel
theorem dJ7_copyOf_9075b_14 : decode cJ7_copyOf_9075b 14 = .ok (.iload_n 1, 1) := by decide +kernel
theorem dJ7_copyOf_9075b_15 : decode cJ7_copyOf_9075b 15 = .ok (.newarray .byte, 2) := by decide +kernel
theorem dJ7_copyOf_9075b_17 : decode cJ7_copyOf_9075b 17 = .ok (.astore_n 2, 1) := by decide +kernel
theorem dJ7_copyOf_9075b_18 : decode cJ7_copyOf_9075b 18 = .ok (.aload_n 0, 1) := by decide +kernel
theorem dJ7_copyOf_9075b_19 : decode cJ7_copyOf_9075b 19 = .ok (.iconst 0, 1) := by decide +kernel
theorem dJ7_copyOf_9075b_20 : decode cJ7_copyOf_9075b 20 = .ok (.aload_n 2, 1) := by decide +kernel
theorem dJ7_copyOf_9075b_21 : decode cJ7_copyOf_9075b 21 = .ok (.iconst 0, 1) := by decide +kernel
theorem dJ7_copyOf_9075b_22 : decode cJ7_copyOf_9075b 22 = .ok (.aload_n 0, 1) := by decide +kernel
theorem dJ7_copyOf_9075b_23 : decode cJ7_copyOf_9075b 23 = .ok (.arraylength, 1) := by decide +kernel
theorem dJ7_copyOf_9075b_24 : decode cJ7_copyOf_9075b 24 = .ok (.iload_n 1, 1) := by decide +kernel
theorem dJ7_copyOf_9075b_25 : decode cJ7_copyOf_9075b 25 = .ok (.invokestatic 304, 3) := by decide +kernel
theorem dJ7_copyOf_9075b_28 : decode cJ7_copyOf_9075b 28 = .ok (.invokestatic 150, 3) := by decide +kernel
theorem dJ7_copyOf_9075b_31 : decode cJ7_copyOf_9075b 31 = .ok (.aload_n 2, 1) := by decide +kernel
theorem dJ7_copyOf_9075b_32 : decode cJ7_copyOf_9075b 32 = .ok (.areturn, 1) := by decide +kernel
theorem dJ7_checkLength_df160_0 : decode cJ7_checkLength_df160 0 = .ok (.iload_n 1, 1) := by decide +kernel
theorem dJ7_checkLength_df160_1 : decode cJ7_checkLength_df160 1 = .ok (.iload_n 0, 1) := by decide +kernel
theorem dJ7_checkLength_df160_2 : decode cJ7_checkLength_df160 2 = .ok (.if_icmp .ge 35, 3) := by decide +kernel
theorem dJ7_checkLength_df160_5 : decode cJ7_checkLength_df160 5 = .ok (.new 43, 3) := by decide +kernel
theorem dJ7_checkLength_df160_8 : decode cJ7_checkLength_df160 8 = .ok (.dup, 1) := by decide +kernel
theorem dJ7_checkLength_df160_9 : decode cJ7_checkLength_df160 9 = .ok (.new 45, 3) := by decide +kernel
theorem dJ7_checkLength_df160_12 : decode cJ7_checkLength_df160 12 = .ok (.dup, 1) := by decide +kernel
theorem dJ7_checkLength_df160_13 : decode cJ7_checkLength_df160 13 = .ok (.invokespecial 47, 3) := by decide +kernel
theorem dJ7_checkLength_df160_16 : decode cJ7_checkLength_df160 16 = .ok (.iload_n 0, 1) := by decide +kernel
theorem dJ7_checkLength_df160_17 : decode cJ7_checkLength_df160 17 = .ok (.invokevirtual 54, 3) := by decide +kernel
theorem dJ7_checkLength_df160_20 : decode cJ7_checkLength_df160 20 = .ok (.ldc_w 337, 3) := by decide +kernel
theorem dJ7_checkLength_df160_23 : decode cJ7_checkLength_df160 23 = .ok (.invokevirtual 50, 3) := by decide +kernel
theorem dJ7_checkLength_df160_26 : decode cJ7_checkLength_df160 26 = .ok (.iload_n 1, 1) := by decide +kernel
theorem dJ7_checkLength_df160_27 : decode cJ7_checkLength_df160 27 = .ok (.invokevirtual 54, 3) := by decide +kernel
theorem dJ7_checkLength_df160_30 : decode cJ7_checkLength_df160 30 = .ok (.invokevirtual 61, 3) := by decide +kernel
theorem dJ7_checkLength_df160_33 : decode cJ7_checkLength_df160 33 = .ok (.invokespecial 65, 3) := by decide +kernel
theorem dJ7_checkLength_df160_36 : decode cJ7_checkLength_df160 36 = .ok (.athrow, 1) := by decide +kernel
theorem dJ7_checkLength_df160_37 : decode cJ7_checkLength_df160 37 = .ok (.return_, 1) := by decide +kernel
theorem dJ15_checkIndex_7cf53_0 : decode cJ15_checkIndex_7cf53 0 = .ok (.iload_n 0, 1) := by decide +kernel
theorem dJ15_checkIndex_7cf53_1 : decode cJ15_checkIndex_7cf53 1 = .ok (.iload_n 1, 1) := by decide +kernel
theorem dJ15_checkIndex_7cf53_2 : decode cJ15_checkIndex_7cf53 2 = .ok (.aconst_null, 1) := by decide +kernel
theorem dJ15_checkIndex_7cf53_3 : decode cJ15_checkIndex_7cf53 3 = .ok (.invokestatic 105, 3) := by decide +kernel
theorem dJ15_checkIndex_7cf53_6 : decode cJ15_checkIndex_7cf53 6 = .ok (.ireturn, 1) := by decide +kernel
theorem dJ8_newLength_cabcc_0 : decode cJ8_newLength_cabcc 0 = .ok (.iload_n 0, 1) := by decide +kernel
theorem dJ8_newLength_cabcc_1 : decode cJ8_newLength_cabcc 1 = .ok (.iload_n 1, 1) := by decide +kernel
theorem dJ8_newLength_cabcc_2 : decode cJ8_newLength_cabcc 2 = .ok (.iload_n 2, 1) := by decide +kernel
theorem dJ8_newLength_cabcc_3 : decode cJ8_newLength_cabcc 3 = .ok (.invokestatic 194, 3) := by decide +kernel
theorem dJ8_newLength_cabcc_6 : decode cJ8_newLength_cabcc 6 = .ok (.iadd, 1) := by decide +kernel
theorem dJ8_newLength_cabcc_7 : decode cJ8_newLength_cabcc 7 = .ok (.istore_n 3, 1) := by decide +kernel
theorem dJ8_newLength_cabcc_8 : decode cJ8_newLength_cabcc 8 = .ok (.iconst 0, 1) := by decide +kernel
theorem dJ8_newLength_cabcc_9 : decode cJ8_newLength_cabcc 9 = .ok (.iload_n 3, 1) := by decide +kernel
theorem dJ8_newLength_cabcc_10 : decode cJ8_newLength_cabcc 10 = .ok (.if_icmp .ge 11, 3) := by decide +kernel
theorem dJ8_newLength_cabcc_13 : decode cJ8_newLength_cabcc 13 = .ok (.iload_n 3, 1) := by decide +kernel
theorem dJ8_newLength_cabcc_14 : decode cJ8_newLength_cabcc 14 = .ok (.ldc 200, 2) := by decide +kernel
theorem dJ8_newLength_cabcc_16 : decode cJ8_newLength_cabcc 16 = .ok (.if_icmp .gt 5, 3) := by decide +kernel
theorem dJ8_newLength_cabcc_19 : decode cJ8_newLength_cabcc 19 = .ok (.iload_n 3, 1) := by decide +kernel
theorem dJ8_newLength_cabcc_20 : decode cJ8_newLength_cabcc 20 = .ok (.ireturn, 1) := by decide +kernel
theorem dJ8_newLength_cabcc_21 : decode cJ8_newLength_cabcc 21 = .ok (.iload_n 0, 1) := by decide +kernel
theorem dJ8_newLength_cabcc_22 : decode cJ8_newLength_cabcc 22 = .ok (.iload_n 1, 1) := by decide +kernel
theorem dJ8_newLength_cabcc_23 : decode cJ8_newLength_cabcc 23 = .ok (.invokestatic 201, 3) := by decide +kernel
theorem dJ8_newLength_cabcc_26 : decode cJ8_newLength_cabcc 26 = .ok (.ireturn, 1) := by decide +kernel
theorem dJ3_checkIndex_8e157_0 : decode cJ3_checkIndex_8e157 0 = .ok (.iload_n 0, 1) := by decide +kernel
theorem dJ3_checkIndex_8e157_1 : decode cJ3_checkIndex_8e157 1 = .ok (.ifCond .lt 8, 3) := by decide +kernel
theorem dJ3_checkIndex_8e157_4 : decode cJ3_checkIndex_8e157 4 = .ok (.iload_n 0, 1) := by decide +kernel
theorem dJ3_checkIndex_8e157_5 : decode cJ3_checkIndex_8e157 5 = .ok (.iload_n 1, 1) := by decide +kernel
theorem dJ3_checkIndex_8e157_6 : decode cJ3_checkIndex_8e157 6 = .ok (.if_icmp .lt 10, 3) := by decide +kernel
theorem dJ3_checkIndex_8e157_9 : decode cJ3_checkIndex_8e157 9 = .ok (.aload_n 2, 1) := by decide +kernel
theorem dJ3_checkIndex_8e157_10 : decode cJ3_checkIndex_8e157 10 = .ok (.iload_n 0, 1) := by decide +kernel
theorem dJ3_checkIndex_8e157_11 : decode cJ3_checkIndex_8e157 11 = .ok (.iload_n 1, 1) := by decide +kernel
theorem dJ3_checkIndex_8e157_12 : decode cJ3_checkIndex_8e157 12 = .ok (.invokestatic 95, 3) := by decide +kernel
theorem dJ3_checkIndex_8e157_15 : decode cJ3_checkIndex_8e157 15 = .ok (.athrow, 1) := by decide +kernel
theorem dJ3_checkIndex_8e157_16 : decode cJ3_checkIndex_8e157 16 = .ok (.iload_n 0, 1) := by decide +kernel
theorem dJ3_checkIndex_8e157_17 : decode cJ3_checkIndex_8e157 17 = .ok (.ireturn, 1) := by decide +kernel
end
section
theorem dX6_init_0 : decode cX6_init 0 = .ok (.aload_n 0, 1) := by decide +kernel
theorem dX6_init_1 : decode cX6_init 1 = .ok (.invokespecial 1, 3) := by decide +kernel
theorem dX6_init_4 : decode cX6_init 4 = .ok (.aload_n 0, 1) := by decide +kernel
theorem dX6_init_5 : decode cX6_init 5 = .ok (.iconst 4, 1) := by decide +kernel
theorem dX6_init_6 : decode cX6_init 6 = .ok (.newarray .int, 2) := by decide +kernel
theorem dX6_init_8 : decode cX6_init 8 = .ok (.putfield 7, 3) := by decide +kernel
theorem dX6_init_11 : decode cX6_init 11 = .ok (.aload_n 0, 1) := by decide +kernel
theorem dX6_init_12 : decode cX6_init 12 = .ok (.bipush 6, 2) := by decide +kernel
theorem dX6_init_14 : decode cX6_init 14 = .ok (.newarray .int, 2) := by decide +kernel
theorem dX6_init_16 : decode cX6_init 16 = .ok (.putfield 13, 3) := by decide +kernel
theorem dX6_init_19 : decode cX6_init 19 = .ok (.aload_n 0, 1) := by decide +kernel
theorem dX6_init_20 : decode cX6_init 20 = .ok (.bipush 80, 2) := by decide +kernel
theorem dX6_init_22 : decode cX6_init 22 = .ok (.newarray .int, 2) := by decide +kernel
theorem dX6_init_24 : decode cX6_init 24 = .ok (.putfield 16, 3) := by decide +kernel
theorem dX6_init_27 : decode cX6_init 27 = .ok (.aload_n 0, 1) := by decide +kernel
theorem dX6_init_28 : decode cX6_init 28 = .ok (.bipush 80, 2) := by decide +kernel
theorem dX6_init_30 : decode cX6_init 30 = .ok (.newarray .int, 2) := by decide +kernel
theorem dX6_init_32 : decode cX6_init 32 = .ok (.putfield 19, 3) := by decide +kernel
theorem dX6_init_35 : decode cX6_init 35 = .ok (.aload_n 0, 1) := by decide +kernel
theorem dX6_init_36 : decode cX6_init 36 = .ok (.bipush 80, 2) := by decide +kernel
theorem dX6_init_38 : decode cX6_init 38 = .ok (.newarray .int, 2) := by decide +kernel
theorem dX6_init_40 : decode cX6_init 40 = .ok (.putfield 22, 3) := by decide +kernel
theorem dX6_init_43 : decode cX6_init 43 = .ok (.aload_n 0, 1) := by decide +kernel
theorem dX6_init_44 : decode cX6_init 44 = .ok (.bipush 80, 2) := by decide +kernel
theorem dX6_init_46 : decode cX6_init 46 = .ok (.newarray .int, 2) := by decide +kernel
theorem dX6_init_48 : decode cX6_init 48 = .ok (.putfield 25, 3) := by decide +kernel
theorem dX6_init_51 : decode cX6_init 51 = .ok (.aload_n 0, 1) := by decide +kernel
theorem dX6_init_52 : decode cX6_init 52 = .ok (.bipush 80, 2) := by decide +kernel
theorem dX6_init_54 : decode cX6_init 54 = .ok (.newarray .int, 2) := by decide +kernel
theorem dX6_init_56 : decode cX6_init 56 = .ok (.putfield 28, 3) := by decide +kernel
theorem dX6_init_59 : decode cX6_init 59 = .ok (.aload_n 0, 1) := by decide +kernel
theorem dX6_init_60 : decode cX6_init 60 = .ok (.bipush 80, 2) := by decide +kernel
theorem dX6_init_62 : decode cX6_init 62 = .ok (.newarray .boolean, 2) := by decide +kernel
theorem dX6_init_64 : decode cX6_init 64 = .ok (.putfield 31, 3) := by decide +kernel
theorem dX6_init_67 : decode cX6_init 67 = .ok (.aload_n 0, 1) := by decide +kernel
theorem dX6_init_68 : decode cX6_init 68 = .ok (.bipush 80, 2) := by decide +kernel
theorem dX6_init_70 : decode cX6_init 70 = .ok (.newarray .int, 2) := by decide +kernel
theorem dX6_init_72 : decode cX6_init 72 = .ok (.putfield 35, 3) := by decide +kernel
theorem dX6_init_75 : decode cX6_init 75 = .ok (.aload_n 0, 1) := by decide +kernel
theorem dX6_init_76 : decode cX6_init 76 = .ok (.bipush 80, 2) := by decide +kernel
theorem dX6_init_78 : decode cX6_init 78 = .ok (.newarray .int, 2) := by decide +kernel
theorem dX6_init_80 : decode cX6_init 80 = .ok (.putfield 38, 3) := by decide +kernel
theorem dX6_init_83 : decode cX6_init 83 = .ok (.aload_n 0, 1) := by decide +kernel
theorem dX6_init_84 : decode cX6_init 84 = .ok (.bipush 80, 2) := by decide +kernel
theorem dX6_init_86 : decode cX6_init 86 = .ok (.newarray .int, 2) := by decide +kernel
theorem dX6_init_88 : decode cX6_init 88 = .ok (.putfield 41, 3) := by decide +kernel
theorem dX6_init_91 : decode cX6_init 91 = .ok (.aload_n 0, 1) := by decide +kernel
theorem dX6_init_92 : decode cX6_init 92 = .ok (.bipush 12, 2) := by decide +kernel
theorem dX6_init_94 : decode cX6_init 94 = .ok (.newarray .int, 2) := by decide +kernel
theorem dX6_init_96 : decode cX6_init 96 = .ok (.putfield 44, 3) := by decide +kernel
theorem dX6_init_99 : decode cX6_init 99 = .ok (.aload_n 0, 1) := by decide +kernel
theorem dX6_init_100 : decode cX6_init 100 = .ok (.bipush 12, 2) := by decide +kernel
theorem dX6_init_102 : decode cX6_init 102 = .ok (.newarray .boolean, 2) := by decide +kernel
theorem dX6_init_104 : decode cX6_init 104 = .ok (.putfield 47, 3) := by decide +kernel
theorem dX6_init_107 : decode cX6_init 107 = .ok (.aload_n 0, 1) := by decide +kernel
theorem dX6_init_108 : decode cX6_init 108 = .ok (.bipush 12, 2) := by decide +kernel
theorem dX6_init_110 : decode cX6_init 110 = .ok (.newarray .int, 2) := by decide +kernel
theorem dX6_init_112 : decode cX6_init 112 = .ok (.putfield 50, 3) := by decide +kernel
theorem dX6_init_115 : decode cX6_init 115 = .ok (.aload_n 0, 1) := by decide +kernel
theorem dX6_init_116 : decode cX6_init 116 = .ok (.bipush 12, 2) := by decide +kernel
theorem dX6_init_118 : decode cX6_init 118 = .ok (.newarray .int, 2) := by decide +kernel
theorem dX6_init_120 : decode cX6_init 120 = .ok (.putfield 53, 3) := by decide +kernel
theorem dX6_init_123 : decode cX6_init 123 = .ok (.aload_n 0, 1) := by decide +kernel
theorem dX6_init_124 : decode cX6_init 124 = .ok (.bipush 12, 2) := by decide +kernel
theorem dX6_init_126 : decode cX6_init 126 = .ok (.newarray .boolean, 2) := by decide +kernel
theorem dX6_init_128 : decode cX6_init 128 = .ok (.putfield 56, 3) := by decide +kernel
theorem dX6_init_131 : decode cX6_init 131 = .ok (.aload_n 0, 1) := by decide +kernel
theorem dX6_init_132 : decode cX6_init 132 = .ok (.bipush 12, 2) := by decide +kernel
theorem dX6_init_134 : decode cX6_init 134 = .ok (.newarray .int, 2) := by decide +kernel
theorem dX6_init_136 : decode cX6_init 136 = .ok (.putfield 59, 3) := by decide +kernel
theorem dX6_init_139 : decode cX6_init 139 = .ok (.aload_n 0, 1) := by decide +kernel
theorem dX6_init_140 : decode cX6_init 140 = .ok (.bipush 12, 2) := by decide +kernel
theorem dX6_init_142 : decode cX6_init 142 = .ok (.newarray .int, 2) := by decide +kernel
theorem dX6_init_144 : decode cX6_init 144 = .ok (.putfield 62, 3) := by decide +kernel
theorem dX6_init_147 : decode cX6_init 147 = .ok (.aload_n 0, 1) := by decide +kernel
theorem dX6_init_148 : decode cX6_init 148 = .ok (.bipush 12, 2) := by decide +kernel
theorem dX6_init_150 : decode cX6_init 150 = .ok (.newarray .int, 2) := by decide +kernel
theorem dX6_init_152 : decode cX6_init 152 = .ok (.putfield 65, 3) := by decide +kernel
theorem dX6_init_155 : decode cX6_init 155 = .ok (.aload_n 0, 1) := by decide +kernel
theorem dX6_init_156 : decode cX6_init 156 = .ok (.bipush 12, 2) := by decide +kernel
theorem dX6_init_158 : decode cX6_init 158 = .ok (.newarray .int, 2) := by decide +kernel
theorem dX6_init_160 : decode cX6_init 160 = .ok (.putfield 68, 3) := by decide +kernel
theorem dX6_init_163 : decode cX6_init 163 = .ok (.aload_n 0, 1) := by decide +kernel
theorem dX6_init_164 : decode cX6_init 164 = .ok (.iconst 5, 1) := by decide +kernel
theorem dX6_init_165 : decode cX6_init 165 = .ok (.newarray .int, 2) := by decide +kernel
theorem dX6_init_167 : decode cX6_init 167 = .ok (.putfield 71, 3) := by decide +kernel
theorem dX6_init_170 : decode cX6_init 170 = .ok (.aload_n 0, 1) := by decide +kernel
theorem dX6_init_171 : decode cX6_init 171 = .ok (.bipush 16, 2) := by decide +kernel
theorem dX6_init_173 : decode cX6_init 173 = .ok (.newarray .int, 2) := by decide +kernel
theorem dX6_init_175 : decode cX6_init 175 = .ok (.putfield 74, 3) := by decide +kernel
theorem dX6_init_178 : decode cX6_init 178 = .ok (.iconst 0, 1) := by decide +kernel
theorem dX6_init_179 : decode cX6_init 179 = .ok (.istore_n 1, 1) := by decide +kernel
theorem dX6_init_180 : decode cX6_init 180 = .ok (.iload_n 1, 1) := by decide +kernel
theorem dX6_init_181 : decode cX6_init 181 = .ok (.iconst 4, 1) := by decide +kernel
theorem dX6_init_182 : decode cX6_init 182 = .ok (.if_icmp .ge 18, 3) := by decide +kernel
theorem dX6_init_185 : decode cX6_init 185 = .ok (.aload_n 0, 1) := by decide +kernel
theorem dX6_init_186 : decode cX6_init 186 = .ok (.getfield 7, 3) := by decide +kernel
theorem dX6_init_189 : decode cX6_init 189 = .ok (.iload_n 1, 1) := by decide +kernel
theorem dX6_init_190 : decode cX6_init 190 = .ok (.sipush 600, 3) := by decide +kernel
theorem dX6_init_193 : decode cX6_init 193 = .ok (.iastore, 1) := by decide +kernel
theorem dX6_init_194 : decode cX6_init 194 = .ok (.iinc 1 1, 3) := by decide +kernel
theorem dX6_init_197 : decode cX6_init 197 = .ok (.goto (-17), 3) := by decide +kernel
theorem dX6_init_200 : decode cX6_init 200 = .ok (.aload_n 0, 1) := by decide +kernel
theorem dX6_init_201 : decode cX6_init 201 = .ok (.sipush 1500, 3) := by decide +kernel
theorem dX6_init_204 : decode cX6_init 204 = .ok (.putfield 77, 3) := by decide +kernel
theorem dX6_init_207 : decode cX6_init 207 = .ok (.iconst 0, 1) := by decide +kernel
theorem dX6_init_208 : decode cX6_init 208 = .ok (.istore_n 1, 1) := by decide +kernel
theorem dX6_init_209 : decode cX6_init 209 = .ok (.iload_n 1, 1) := by decide +kernel
theorem dX6_init_210 : decode cX6_init 210 = .ok (.bipush 12, 2) := by decide +kernel
theorem dX6_init_212 : decode cX6_init 212 = .ok (.if_icmp .ge 16, 3) := by decide +kernel
theorem dX6_init_215 : decode cX6_init 215 = .ok (.aload_n 0, 1) := by decide +kernel
theorem dX6_init_216 : decode cX6_init 216 = .ok (.getfield 44, 3) := by decide +kernel
theorem dX6_init_219 : decode cX6_init 219 = .ok (.iload_n 1, 1) := by decide +kernel
theorem dX6_init_220 : decode cX6_init 220 = .ok (.iconst 3, 1) := by decide +kernel
theorem dX6_init_221 : decode cX6_init 221 = .ok (.iastore, 1) := by decide +kernel
theorem dX6_init_222 : decode cX6_init 222 = .ok (.iinc 1 1, 3) := by decide +kernel
theorem dX6_init_225 : decode cX6_init 225 = .ok (.goto (-16), 3) := by decide +kernel
theorem dX6_init_228 : decode cX6_init 228 = .ok (.iconst 0, 1) := by decide +kernel
theorem dX6_init_229 : decode cX6_init 229 = .ok (.istore_n 1, 1) := by decide +kernel
theorem dX6_init_230 : decode cX6_init 230 = .ok (.iload_n 1, 1) := by decide +kernel
theorem dX6_init_231 : decode cX6_init 231 = .ok (.bipush 6, 2) := by decide +kernel
theorem dX6_init_233 : decode cX6_init 233 = .ok (.if_icmp .ge 16, 3) := by decide +kernel
theorem dX6_init_236 : decode cX6_init 236 = .ok (.aload_n 0, 1) := by decide +kernel
theorem dX6_init_237 : decode cX6_init 237 = .ok (.getfield 13, 3) := by decide +kernel
theorem dX6_init_240 : decode cX6_init 240 = .ok (.iload_n 1, 1) := by decide +kernel
theorem dX6_init_241 : decode cX6_init 241 = .ok (.iconst (-1), 1) := by decide +kernel
theorem dX6_init_242 : decode cX6_init 242 = .ok (.iastore, 1) := by decide +kernel
theorem dX6_init_243 : decode cX6_init 243 = .ok (.iinc 1 1, 3) := by decide +kernel
theorem dX6_init_246 : decode cX6_init 246 = .ok (.goto (-16), 3) := by decide +kernel
theorem dX6_init_249 : decode cX6_init 249 = .ok (.return_, 1) := by decide +kernel
theorem dX6_thrown_0 : decode cX6_thrown 0 = .ok (.aload_n 0, 1) := by decide +kernel
theorem dX6_thrown_1 : decode cX6_thrown 1 = .ok (.getfield 81, 3) := by decide +kernel
theorem dX6_thrown_4 : decode cX6_thrown 4 = .ok (.ireturn, 1) := by decide +kernel
theorem dX6_in_0 : decode cX6_in 0 = .ok (.iload_n 0, 1) := by decide +kernel
theorem dX6_in_1 : decode cX6_in 1 = .ok (.iload_n 1, 1) := by decide +kernel
theorem dX6_in_2 : decode cX6_in 2 = .ok (.if_icmp .lt 12, 3) := by decide +kernel
theorem dX6_in_5 : decode cX6_in 5 = .ok (.iload_n 0, 1) := by decide +kernel
theorem dX6_in_6 : decode cX6_in 6 = .ok (.iload_n 2, 1) := by decide +kernel
theorem dX6_in_7 : decode cX6_in 7 = .ok (.if_icmp .gt 7, 3) := by decide +kernel
theorem dX6_in_10 : decode cX6_in 10 = .ok (.iconst 1, 1) := by decide +kernel
theorem dX6_in_11 : decode cX6_in 11 = .ok (.goto 4, 3) := by decide +kernel
theorem dX6_in_14 : decode cX6_in 14 = .ok (.iconst 0, 1) := by decide +kernel
theorem dX6_in_15 : decode cX6_in 15 = .ok (.ireturn, 1) := by decide +kernel
theorem dX6_isHouse_0 : decode cX6_isHouse 0 = .ok (.iload_n 0, 1) := by decide +kernel
theorem dX6_isHouse_1 : decode cX6_isHouse 1 = .ok (.iconst 0, 1) := by decide +kernel
theorem dX6_isHouse_2 : decode cX6_isHouse 2 = .ok (.iconst 3, 1) := by decide +kernel
theorem dX6_isHouse_3 : decode cX6_isHouse 3 = .ok (.invokestatic 84, 3) := by decide +kernel
theorem dX6_isHouse_6 : decode cX6_isHouse 6 = .ok (.ireturn, 1) := by decide +kernel
theorem dX6_isRoom_0 : decode cX6_isRoom 0 = .ok (.iload_n 0, 1) := by decide +kernel
theorem dX6_isRoom_1 : decode cX6_isRoom 1 = .ok (.iconst 0, 1) := by decide +kernel
theorem dX6_isRoom_2 : decode cX6_isRoom 2 = .ok (.bipush 11, 2) := by decide +kernel
theorem dX6_isRoom_4 : decode cX6_isRoom 4 = .ok (.invokestatic 84, 3) := by decide +kernel
theorem dX6_isRoom_7 : decode cX6_isRoom 7 = .ok (.ireturn, 1) := by decide +kernel
theorem dX6_isMember_0 : decode cX6_isMember 0 = .ok (.iload_n 0, 1) := by decide +kernel
theorem dX6_isMember_1 : decode cX6_isMember 1 = .ok (.iconst 0, 1) := by decide +kernel
theorem dX6_isMember_2 : decode cX6_isMember 2 = .ok (.iconst 5, 1) := by decide +kernel
theorem dX6_isMember_3 : decode cX6_isMember 3 = .ok (.invokestatic 84, 3) := by decide +kernel
theorem dX6_isMember_6 : decode cX6_isMember 6 = .ok (.ireturn, 1) := by decide +kernel
theorem dX6_isTicket_0 : decode cX6_isTicket 0 = .ok (.iload_n 1, 1) := by decide +kernel
theorem dX6_isTicket_1 : decode cX6_isTicket 1 = .ok (.iconst 0, 1) := by decide +kernel
theorem dX6_isTicket_2 : decode cX6_isTicket 2 = .ok (.aload_n 0, 1) := by decide +kernel
theorem dX6_isTicket_3 : decode cX6_isTicket 3 = .ok (.getfield 88, 3) := by decide +kernel
theorem dX6_isTicket_6 : decode cX6_isTicket 6 = .ok (.iconst 1, 1) := by decide +kernel
theorem dX6_isTicket_7 : decode cX6_isTicket 7 = .ok (.isub, 1) := by decide +kernel
theorem dX6_isTicket_8 : decode cX6_isTicket 8 = .ok (.invokestatic 84, 3) := by decide +kernel
theorem dX6_isTicket_11 : decode cX6_isTicket 11 = .ok (.ireturn, 1) := by decide +kernel
theorem dX6_isWork_0 : decode cX6_isWork 0 = .ok (.iload_n 1, 1) := by decide +kernel
theorem dX6_isWork_1 : decode cX6_isWork 1 = .ok (.iconst 0, 1) := by decide +kernel
theorem dX6_isWork_2 : decode cX6_isWork 2 = .ok (.aload_n 0, 1) := by decide +kernel
theorem dX6_isWork_3 : decode cX6_isWork 3 = .ok (.getfield 91, 3) := by decide +kernel
theorem dX6_isWork_6 : decode cX6_isWork 6 = .ok (.iconst 1, 1) := by decide +kernel
theorem dX6_isWork_7 : decode cX6_isWork 7 = .ok (.isub, 1) := by decide +kernel
theorem dX6_isWork_8 : decode cX6_isWork 8 = .ok (.invokestatic 84, 3) := by decide +kernel
theorem dX6_isWork_11 : decode cX6_isWork 11 = .ok (.ireturn, 1) := by decide +kernel
theorem dX6_isNow_0 : decode cX6_isNow 0 = .ok (.aload_n 0, 1) := by decide +kernel
theorem dX6_isNow_1 : decode cX6_isNow 1 = .ok (.getfield 25, 3) := by decide +kernel
theorem dX6_isNow_4 : decode cX6_isNow 4 = .ok (.iload_n 1, 1) := by decide +kernel
theorem dX6_isNow_5 : decode cX6_isNow 5 = .ok (.iaload, 1) := by decide +kernel
theorem dX6_isNow_6 : decode cX6_isNow 6 = .ok (.aload_n 0, 1) := by decide +kernel
theorem dX6_isNow_7 : decode cX6_isNow 7 = .ok (.getfield 94, 3) := by decide +kernel
theorem dX6_isNow_10 : decode cX6_isNow 10 = .ok (.if_icmp .ne 16, 3) := by decide +kernel
theorem dX6_isNow_13 : decode cX6_isNow 13 = .ok (.aload_n 0, 1) := by decide +kernel
theorem dX6_isNow_14 : decode cX6_isNow 14 = .ok (.getfield 31, 3) := by decide +kernel
theorem dX6_isNow_17 : decode cX6_isNow 17 = .ok (.iload_n 1, 1) := by decide +kernel
theorem dX6_isNow_18 : decode cX6_isNow 18 = .ok (.baload, 1) := by decide +kernel
theorem dX6_isNow_19 : decode cX6_isNow 19 = .ok (.ifCond .ne 7, 3) := by decide +kernel
theorem dX6_isNow_22 : decode cX6_isNow 22 = .ok (.iconst 1, 1) := by decide +kernel
theorem dX6_isNow_23 : decode cX6_isNow 23 = .ok (.goto 4, 3) := by decide +kernel
theorem dX6_isNow_26 : decode cX6_isNow 26 = .ok (.iconst 0, 1) := by decide +kernel
theorem dX6_isNow_27 : decode cX6_isNow 27 = .ok (.ireturn, 1) := by decide +kernel
theorem dX6_setPrice_0 : decode cX6_setPrice 0 = .ok (.aload_n 0, 1) := by decide +kernel
theorem dX6_setPrice_1 : decode cX6_setPrice 1 = .ok (.iload_n 1, 1) := by decide +kernel
theorem dX6_setPrice_2 : decode cX6_setPrice 2 = .ok (.iconst (-1), 1) := by decide +kernel
theorem dX6_setPrice_3 : decode cX6_setPrice 3 = .ok (.if_icmp .eq 14, 3) := by decide +kernel
theorem dX6_setPrice_6 : decode cX6_setPrice 6 = .ok (.iload_n 1, 1) := by decide +kernel
theorem dX6_setPrice_7 : decode cX6_setPrice 7 = .ok (.invokestatic 97, 3) := by decide +kernel
theorem dX6_setPrice_10 : decode cX6_setPrice 10 = .ok (.ifCond .ne 7, 3) := by decide +kernel
theorem dX6_setPrice_13 : decode cX6_setPrice 13 = .ok (.iconst 1, 1) := by decide +kernel
theorem dX6_setPrice_14 : decode cX6_setPrice 14 = .ok (.goto 19, 3) := by decide +kernel
theorem dX6_setPrice_17 : decode cX6_setPrice 17 = .ok (.iload_n 2, 1) := by decide +kernel
theorem dX6_setPrice_18 : decode cX6_setPrice 18 = .ok (.iconst 0, 1) := by decide +kernel
theorem dX6_setPrice_19 : decode cX6_setPrice 19 = .ok (.sipush 10000, 3) := by decide +kernel
theorem dX6_setPrice_22 : decode cX6_setPrice 22 = .ok (.invokestatic 84, 3) := by decide +kernel
theorem dX6_setPrice_25 : decode cX6_setPrice 25 = .ok (.ifCond .ne 7, 3) := by decide +kernel
theorem dX6_setPrice_28 : decode cX6_setPrice 28 = .ok (.iconst 2, 1) := by decide +kernel
theorem dX6_setPrice_29 : decode cX6_setPrice 29 = .ok (.goto 4, 3) := by decide +kernel
theorem dX6_setPrice_32 : decode cX6_setPrice 32 = .ok (.iconst 0, 1) := by decide +kernel
theorem dX6_setPrice_33 : decode cX6_setPrice 33 = .ok (.putfield 81, 3) := by decide +kernel
theorem dX6_setPrice_36 : decode cX6_setPrice 36 = .ok (.aload_n 0, 1) := by decide +kernel
theorem dX6_setPrice_37 : decode cX6_setPrice 37 = .ok (.getfield 81, 3) := by decide +kernel
theorem dX6_setPrice_40 : decode cX6_setPrice 40 = .ok (.ifCond .le 5, 3) := by decide +kernel
theorem dX6_setPrice_43 : decode cX6_setPrice 43 = .ok (.iconst 0, 1) := by decide +kernel
theorem dX6_setPrice_44 : decode cX6_setPrice 44 = .ok (.ireturn, 1) := by decide +kernel
theorem dX6_setPrice_45 : decode cX6_setPrice 45 = .ok (.iload_n 1, 1) := by decide +kernel
theorem dX6_setPrice_46 : decode cX6_setPrice 46 = .ok (.iconst (-1), 1) := by decide +kernel
theorem dX6_setPrice_47 : decode cX6_setPrice 47 = .ok (.if_icmp .ne 10, 3) := by decide +kernel
theorem dX6_setPrice_50 : decode cX6_setPrice 50 = .ok (.aload_n 0, 1) := by decide +kernel
theorem dX6_setPrice_51 : decode cX6_setPrice 51 = .ok (.getfield 77, 3) := by decide +kernel
theorem dX6_setPrice_54 : decode cX6_setPrice 54 = .ok (.goto 9, 3) := by decide +kernel
theorem dX6_setPrice_57 : decode cX6_setPrice 57 = .ok (.aload_n 0, 1) := by decide +kernel
theorem dX6_setPrice_58 : decode cX6_setPrice 58 = .ok (.getfield 7, 3) := by decide +kernel
theorem dX6_setPrice_61 : decode cX6_setPrice 61 = .ok (.iload_n 1, 1) := by decide +kernel
theorem dX6_setPrice_62 : decode cX6_setPrice 62 = .ok (.iaload, 1) := by decide +kernel
theorem dX6_setPrice_63 : decode cX6_setPrice 63 = .ok (.istore_n 3, 1) := by decide +kernel
theorem dX6_setPrice_64 : decode cX6_setPrice 64 = .ok (.iload_n 1, 1) := by decide +kernel
theorem dX6_setPrice_65 : decode cX6_setPrice 65 = .ok (.iconst (-1), 1) := by decide +kernel
theorem dX6_setPrice_66 : decode cX6_setPrice 66 = .ok (.if_icmp .ne 11, 3) := by decide +kernel
theorem dX6_setPrice_69 : decode cX6_setPrice 69 = .ok (.aload_n 0, 1) := by decide +kernel
theorem dX6_setPrice_70 : decode cX6_setPrice 70 = .ok (.iload_n 2, 1) := by decide +kernel
theorem dX6_setPrice_71 : decode cX6_setPrice 71 = .ok (.putfield 77, 3) := by decide +kernel
theorem dX6_setPrice_74 : decode cX6_setPrice 74 = .ok (.goto 10, 3) := by decide +kernel
theorem dX6_setPrice_77 : decode cX6_setPrice 77 = .ok (.aload_n 0, 1) := by decide +kernel
theorem dX6_setPrice_78 : decode cX6_setPrice 78 = .ok (.getfield 7, 3) := by decide +kernel
theorem dX6_setPrice_81 : decode cX6_setPrice 81 = .ok (.iload_n 1, 1) := by decide +kernel
theorem dX6_setPrice_82 : decode cX6_setPrice 82 = .ok (.iload_n 2, 1) := by decide +kernel
theorem dX6_setPrice_83 : decode cX6_setPrice 83 = .ok (.iastore, 1) := by decide +kernel
theorem dX6_setPrice_84 : decode cX6_setPrice 84 = .ok (.iload_n 3, 1) := by decide +kernel
theorem dX6_setPrice_85 : decode cX6_setPrice 85 = .ok (.ireturn, 1) := by decide +kernel
theorem dX6_make_0 : decode cX6_make 0 = .ok (.aload_n 0, 1) := by decide +kernel
theorem dX6_make_1 : decode cX6_make 1 = .ok (.getfield 16, 3) := by decide +kernel
theorem dX6_make_4 : decode cX6_make 4 = .ok (.aload_n 0, 1) := by decide +kernel
theorem dX6_make_5 : decode cX6_make 5 = .ok (.getfield 88, 3) := by decide +kernel
theorem dX6_make_8 : decode cX6_make 8 = .ok (.iload_n 1, 1) := by decide +kernel
theorem dX6_make_9 : decode cX6_make 9 = .ok (.iastore, 1) := by decide +kernel
theorem dX6_make_10 : decode cX6_make 10 = .ok (.aload_n 0, 1) := by decide +kernel
theorem dX6_make_11 : decode cX6_make 11 = .ok (.getfield 19, 3) := by decide +kernel
theorem dX6_make_14 : decode cX6_make 14 = .ok (.aload_n 0, 1) := by decide +kernel
theorem dX6_make_15 : decode cX6_make 15 = .ok (.getfield 88, 3) := by decide +kernel
theorem dX6_make_18 : decode cX6_make 18 = .ok (.iload_n 2, 1) := by decide +kernel
theorem dX6_make_19 : decode cX6_make 19 = .ok (.iastore, 1) := by decide +kernel
theorem dX6_make_20 : decode cX6_make 20 = .ok (.aload_n 0, 1) := by decide +kernel
theorem dX6_make_21 : decode cX6_make 21 = .ok (.getfield 22, 3) := by decide +kernel
theorem dX6_make_24 : decode cX6_make 24 = .ok (.aload_n 0, 1) := by decide +kernel
theorem dX6_make_25 : decode cX6_make 25 = .ok (.getfield 88, 3) := by decide +kernel
theorem dX6_make_28 : decode cX6_make 28 = .ok (.iload_n 3, 1) := by decide +kernel
theorem dX6_make_29 : decode cX6_make 29 = .ok (.iastore, 1) := by decide +kernel
theorem dX6_make_30 : decode cX6_make 30 = .ok (.aload_n 0, 1) := by decide +kernel
theorem dX6_make_31 : decode cX6_make 31 = .ok (.getfield 25, 3) := by decide +kernel
theorem dX6_make_34 : decode cX6_make 34 = .ok (.aload_n 0, 1) := by decide +kernel
theorem dX6_make_35 : decode cX6_make 35 = .ok (.getfield 88, 3) := by decide +kernel
theorem dX6_make_38 : decode cX6_make 38 = .ok (.aload_n 0, 1) := by decide +kernel
theorem dX6_make_39 : decode cX6_make 39 = .ok (.getfield 94, 3) := by decide +kernel
theorem dX6_make_42 : decode cX6_make 42 = .ok (.iastore, 1) := by decide +kernel
theorem dX6_make_43 : decode cX6_make 43 = .ok (.aload_n 0, 1) := by decide +kernel
theorem dX6_make_44 : decode cX6_make 44 = .ok (.getfield 28, 3) := by decide +kernel
theorem dX6_make_47 : decode cX6_make 47 = .ok (.aload_n 0, 1) := by decide +kernel
theorem dX6_make_48 : decode cX6_make 48 = .ok (.getfield 88, 3) := by decide +kernel
theorem dX6_make_51 : decode cX6_make 51 = .ok (.iload 4, 2) := by decide +kernel
theorem dX6_make_53 : decode cX6_make 53 = .ok (.iastore, 1) := by decide +kernel
theorem dX6_make_54 : decode cX6_make 54 = .ok (.aload_n 0, 1) := by decide +kernel
theorem dX6_make_55 : decode cX6_make 55 = .ok (.getfield 35, 3) := by decide +kernel
theorem dX6_make_58 : decode cX6_make 58 = .ok (.aload_n 0, 1) := by decide +kernel
theorem dX6_make_59 : decode cX6_make 59 = .ok (.getfield 88, 3) := by decide +kernel
theorem dX6_make_62 : decode cX6_make 62 = .ok (.iconst (-1), 1) := by decide +kernel
theorem dX6_make_63 : decode cX6_make 63 = .ok (.iastore, 1) := by decide +kernel
theorem dX6_make_64 : decode cX6_make 64 = .ok (.aload_n 0, 1) := by decide +kernel
theorem dX6_make_65 : decode cX6_make 65 = .ok (.dup, 1) := by decide +kernel
theorem dX6_make_66 : decode cX6_make 66 = .ok (.getfield 101, 3) := by decide +kernel
theorem dX6_make_69 : decode cX6_make 69 = .ok (.iload 4, 2) := by decide +kernel
theorem dX6_make_71 : decode cX6_make 71 = .ok (.iadd, 1) := by decide +kernel
theorem dX6_make_72 : decode cX6_make 72 = .ok (.putfield 101, 3) := by decide +kernel
theorem dX6_make_75 : decode cX6_make 75 = .ok (.aload_n 0, 1) := by decide +kernel
theorem dX6_make_76 : decode cX6_make 76 = .ok (.dup, 1) := by decide +kernel
theorem dX6_make_77 : decode cX6_make 77 = .ok (.getfield 88, 3) := by decide +kernel
theorem dX6_make_80 : decode cX6_make 80 = .ok (.iconst 1, 1) := by decide +kernel
theorem dX6_make_81 : decode cX6_make 81 = .ok (.iadd, 1) := by decide +kernel
theorem dX6_make_82 : decode cX6_make 82 = .ok (.putfield 88, 3) := by decide +kernel
theorem dX6_make_85 : decode cX6_make 85 = .ok (.aload_n 0, 1) := by decide +kernel
theorem dX6_make_86 : decode cX6_make 86 = .ok (.getfield 88, 3) := by decide +kernel
theorem dX6_make_89 : decode cX6_make 89 = .ok (.iconst 1, 1) := by decide +kernel
theorem dX6_make_90 : decode cX6_make 90 = .ok (.isub, 1) := by decide +kernel
theorem dX6_make_91 : decode cX6_make 91 = .ok (.ireturn, 1) := by decide +kernel
theorem dX6_buy_0 : decode cX6_buy 0 = .ok (.aload_n 0, 1) := by decide +kernel
theorem dX6_buy_1 : decode cX6_buy 1 = .ok (.iload_n 1, 1) := by decide +kernel
theorem dX6_buy_2 : decode cX6_buy 2 = .ok (.iconst (-1), 1) := by decide +kernel
theorem dX6_buy_3 : decode cX6_buy 3 = .ok (.if_icmp .eq 14, 3) := by decide +kernel
theorem dX6_buy_6 : decode cX6_buy 6 = .ok (.iload_n 1, 1) := by decide +kernel
theorem dX6_buy_7 : decode cX6_buy 7 = .ok (.invokestatic 97, 3) := by decide +kernel
theorem dX6_buy_10 : decode cX6_buy 10 = .ok (.ifCond .ne 7, 3) := by decide +kernel
theorem dX6_buy_13 : decode cX6_buy 13 = .ok (.iconst 1, 1) := by decide +kernel
theorem dX6_buy_14 : decode cX6_buy 14 = .ok (.goto 17, 3) := by decide +kernel
theorem dX6_buy_17 : decode cX6_buy 17 = .ok (.aload_n 0, 1) := by decide +kernel
theorem dX6_buy_18 : decode cX6_buy 18 = .ok (.getfield 88, 3) := by decide +kernel
theorem dX6_buy_21 : decode cX6_buy 21 = .ok (.bipush 80, 2) := by decide +kernel
theorem dX6_buy_23 : decode cX6_buy 23 = .ok (.if_icmp .ne 7, 3) := by decide +kernel
theorem dX6_buy_26 : decode cX6_buy 26 = .ok (.iconst 2, 1) := by decide +kernel
theorem dX6_buy_27 : decode cX6_buy 27 = .ok (.goto 4, 3) := by decide +kernel
theorem dX6_buy_30 : decode cX6_buy 30 = .ok (.iconst 0, 1) := by decide +kernel
theorem dX6_buy_31 : decode cX6_buy 31 = .ok (.putfield 81, 3) := by decide +kernel
theorem dX6_buy_34 : decode cX6_buy 34 = .ok (.aload_n 0, 1) := by decide +kernel
theorem dX6_buy_35 : decode cX6_buy 35 = .ok (.getfield 81, 3) := by decide +kernel
theorem dX6_buy_38 : decode cX6_buy 38 = .ok (.ifCond .le 5, 3) := by decide +kernel
theorem dX6_buy_41 : decode cX6_buy 41 = .ok (.iconst 0, 1) := by decide +kernel
theorem dX6_buy_42 : decode cX6_buy 42 = .ok (.ireturn, 1) := by decide +kernel
theorem dX6_buy_43 : decode cX6_buy 43 = .ok (.iload_n 1, 1) := by decide +kernel
theorem dX6_buy_44 : decode cX6_buy 44 = .ok (.iconst (-1), 1) := by decide +kernel
theorem dX6_buy_45 : decode cX6_buy 45 = .ok (.if_icmp .ne 17, 3) := by decide +kernel
theorem dX6_buy_48 : decode cX6_buy 48 = .ok (.aload_n 0, 1) := by decide +kernel
theorem dX6_buy_49 : decode cX6_buy 49 = .ok (.iconst 1, 1) := by decide +kernel
theorem dX6_buy_50 : decode cX6_buy 50 = .ok (.iconst (-1), 1) := by decide +kernel
theorem dX6_buy_51 : decode cX6_buy 51 = .ok (.iconst (-1), 1) := by decide +kernel
theorem dX6_buy_52 : decode cX6_buy 52 = .ok (.aload_n 0, 1) := by decide +kernel
theorem dX6_buy_53 : decode cX6_buy 53 = .ok (.getfield 77, 3) := by decide +kernel
theorem dX6_buy_56 : decode cX6_buy 56 = .ok (.invokevirtual 104, 3) := by decide +kernel
theorem dX6_buy_59 : decode cX6_buy 59 = .ok (.goto 16, 3) := by decide +kernel
theorem dX6_buy_62 : decode cX6_buy 62 = .ok (.aload_n 0, 1) := by decide +kernel
theorem dX6_buy_63 : decode cX6_buy 63 = .ok (.iconst 0, 1) := by decide +kernel
theorem dX6_buy_64 : decode cX6_buy 64 = .ok (.iload_n 1, 1) := by decide +kernel
theorem dX6_buy_65 : decode cX6_buy 65 = .ok (.iconst (-1), 1) := by decide +kernel
theorem dX6_buy_66 : decode cX6_buy 66 = .ok (.aload_n 0, 1) := by decide +kernel
theorem dX6_buy_67 : decode cX6_buy 67 = .ok (.getfield 7, 3) := by decide +kernel
theorem dX6_buy_70 : decode cX6_buy 70 = .ok (.iload_n 1, 1) := by decide +kernel
theorem dX6_buy_71 : decode cX6_buy 71 = .ok (.iaload, 1) := by decide +kernel
theorem dX6_buy_72 : decode cX6_buy 72 = .ok (.invokevirtual 104, 3) := by decide +kernel
theorem dX6_buy_75 : decode cX6_buy 75 = .ok (.ireturn, 1) := by decide +kernel
theorem dX6_isValid_0 : decode cX6_isValid 0 = .ok (.aload_n 0, 1) := by decide +kernel
theorem dX6_isValid_1 : decode cX6_isValid 1 = .ok (.getfield 13, 3) := by decide +kernel
theorem dX6_isValid_4 : decode cX6_isValid 4 = .ok (.iload_n 1, 1) := by decide +kernel
theorem dX6_isValid_5 : decode cX6_isValid 5 = .ok (.iaload, 1) := by decide +kernel
theorem dX6_isValid_6 : decode cX6_isValid 6 = .ok (.aload_n 0, 1) := by decide +kernel
theorem dX6_isValid_7 : decode cX6_isValid 7 = .ok (.getfield 94, 3) := by decide +kernel
theorem dX6_isValid_10 : decode cX6_isValid 10 = .ok (.if_icmp .lt 7, 3) := by decide +kernel
theorem dX6_isValid_13 : decode cX6_isValid 13 = .ok (.iconst 1, 1) := by decide +kernel
theorem dX6_isValid_14 : decode cX6_isValid 14 = .ok (.goto 4, 3) := by decide +kernel
theorem dX6_isValid_17 : decode cX6_isValid 17 = .ok (.iconst 0, 1) := by decide +kernel
theorem dX6_isValid_18 : decode cX6_isValid 18 = .ok (.ireturn, 1) := by decide +kernel
theorem dX6_has_0 : decode cX6_has 0 = .ok (.iconst 0, 1) := by decide +kernel
theorem dX6_has_1 : decode cX6_has 1 = .ok (.istore_n 3, 1) := by decide +kernel
theorem dX6_has_2 : decode cX6_has 2 = .ok (.iconst 0, 1) := by decide +kernel
theorem dX6_has_3 : decode cX6_has 3 = .ok (.istore 4, 2) := by decide +kernel
theorem dX6_has_5 : decode cX6_has 5 = .ok (.iload 4, 2) := by decide +kernel
theorem dX6_has_7 : decode cX6_has 7 = .ok (.aload_n 0, 1) := by decide +kernel
theorem dX6_has_8 : decode cX6_has 8 = .ok (.getfield 88, 3) := by decide +kernel
theorem dX6_has_11 : decode cX6_has 11 = .ok (.if_icmp .ge 48, 3) := by decide +kernel
theorem dX6_has_14 : decode cX6_has 14 = .ok (.iload_n 3, 1) := by decide +kernel
theorem dX6_has_15 : decode cX6_has 15 = .ok (.aload_n 0, 1) := by decide +kernel
theorem dX6_has_16 : decode cX6_has 16 = .ok (.iload 4, 2) := by decide +kernel
theorem dX6_has_18 : decode cX6_has 18 = .ok (.invokevirtual 108, 3) := by decide +kernel
theorem dX6_has_21 : decode cX6_has 21 = .ok (.ifCond .eq 29, 3) := by decide +kernel
theorem dX6_has_24 : decode cX6_has 24 = .ok (.aload_n 0, 1) := by decide +kernel
theorem dX6_has_25 : decode cX6_has 25 = .ok (.getfield 16, 3) := by decide +kernel
theorem dX6_has_28 : decode cX6_has 28 = .ok (.iload 4, 2) := by decide +kernel
theorem dX6_has_30 : decode cX6_has 30 = .ok (.iaload, 1) := by decide +kernel
theorem dX6_has_31 : decode cX6_has 31 = .ok (.iload_n 2, 1) := by decide +kernel
theorem dX6_has_32 : decode cX6_has 32 = .ok (.if_icmp .ne 18, 3) := by decide +kernel
theorem dX6_has_35 : decode cX6_has 35 = .ok (.aload_n 0, 1) := by decide +kernel
theorem dX6_has_36 : decode cX6_has 36 = .ok (.getfield 22, 3) := by decide +kernel
theorem dX6_has_39 : decode cX6_has 39 = .ok (.iload 4, 2) := by decide +kernel
theorem dX6_has_41 : decode cX6_has 41 = .ok (.iaload, 1) := by decide +kernel
theorem dX6_has_42 : decode cX6_has 42 = .ok (.iload_n 1, 1) := by decide +kernel
theorem dX6_has_43 : decode cX6_has 43 = .ok (.if_icmp .ne 7, 3) := by decide +kernel
theorem dX6_has_46 : decode cX6_has 46 = .ok (.iconst 1, 1) := by decide +kernel
theorem dX6_has_47 : decode cX6_has 47 = .ok (.goto 4, 3) := by decide +kernel
theorem dX6_has_50 : decode cX6_has 50 = .ok (.iconst 0, 1) := by decide +kernel
theorem dX6_has_51 : decode cX6_has 51 = .ok (.iadd, 1) := by decide +kernel
theorem dX6_has_52 : decode cX6_has 52 = .ok (.istore_n 3, 1) := by decide +kernel
theorem dX6_has_53 : decode cX6_has 53 = .ok (.iinc 4 1, 3) := by decide +kernel
theorem dX6_has_56 : decode cX6_has 56 = .ok (.goto (-51), 3) := by decide +kernel
theorem dX6_has_59 : decode cX6_has 59 = .ok (.iload_n 3, 1) := by decide +kernel
theorem dX6_has_60 : decode cX6_has 60 = .ok (.ireturn, 1) := by decide +kernel
theorem dX6_admit_0 : decode cX6_admit 0 = .ok (.aload_n 0, 1) := by decide +kernel
theorem dX6_admit_1 : decode cX6_admit 1 = .ok (.iload_n 1, 1) := by decide +kernel
theorem dX6_admit_2 : decode cX6_admit 2 = .ok (.invokestatic 111, 3) := by decide +kernel
theorem dX6_admit_5 : decode cX6_admit 5 = .ok (.ifCond .eq 7, 3) := by decide +kernel
theorem dX6_admit_8 : decode cX6_admit 8 = .ok (.iconst 0, 1) := by decide +kernel
theorem dX6_admit_9 : decode cX6_admit 9 = .ok (.goto 4, 3) := by decide +kernel
theorem dX6_admit_12 : decode cX6_admit 12 = .ok (.iconst 1, 1) := by decide +kernel
theorem dX6_admit_13 : decode cX6_admit 13 = .ok (.putfield 81, 3) := by decide +kernel
theorem dX6_admit_16 : decode cX6_admit 16 = .ok (.aload_n 0, 1) := by decide +kernel
theorem dX6_admit_17 : decode cX6_admit 17 = .ok (.getfield 81, 3) := by decide +kernel
theorem dX6_admit_20 : decode cX6_admit 20 = .ok (.ifCond .ne 79, 3) := by decide +kernel
theorem dX6_admit_23 : decode cX6_admit 23 = .ok (.iload_n 2, 1) := by decide +kernel
theorem dX6_admit_24 : decode cX6_admit 24 = .ok (.ifCond .eq 30, 3) := by decide +kernel
theorem dX6_admit_27 : decode cX6_admit 27 = .ok (.aload_n 0, 1) := by decide +kernel
theorem dX6_admit_28 : decode cX6_admit 28 = .ok (.iload_n 1, 1) := by decide +kernel
theorem dX6_admit_29 : decode cX6_admit 29 = .ok (.iconst 2, 1) := by decide +kernel
theorem dX6_admit_30 : decode cX6_admit 30 = .ok (.invokevirtual 114, 3) := by decide +kernel
theorem dX6_admit_33 : decode cX6_admit 33 = .ok (.ifCond .le 17, 3) := by decide +kernel
theorem dX6_admit_36 : decode cX6_admit 36 = .ok (.aload_n 0, 1) := by decide +kernel
theorem dX6_admit_37 : decode cX6_admit 37 = .ok (.iload_n 1, 1) := by decide +kernel
theorem dX6_admit_38 : decode cX6_admit 38 = .ok (.iconst 3, 1) := by decide +kernel
theorem dX6_admit_39 : decode cX6_admit 39 = .ok (.invokevirtual 114, 3) := by decide +kernel
theorem dX6_admit_42 : decode cX6_admit 42 = .ok (.iconst 2, 1) := by decide +kernel
theorem dX6_admit_43 : decode cX6_admit 43 = .ok (.if_icmp .ge 7, 3) := by decide +kernel
theorem dX6_admit_46 : decode cX6_admit 46 = .ok (.iconst 1, 1) := by decide +kernel
theorem dX6_admit_47 : decode cX6_admit 47 = .ok (.goto 21, 3) := by decide +kernel
theorem dX6_admit_50 : decode cX6_admit 50 = .ok (.iconst 0, 1) := by decide +kernel
theorem dX6_admit_51 : decode cX6_admit 51 = .ok (.goto 17, 3) := by decide +kernel
theorem dX6_admit_54 : decode cX6_admit 54 = .ok (.aload_n 0, 1) := by decide +kernel
theorem dX6_admit_55 : decode cX6_admit 55 = .ok (.iload_n 1, 1) := by decide +kernel
theorem dX6_admit_56 : decode cX6_admit 56 = .ok (.iconst 2, 1) := by decide +kernel
theorem dX6_admit_57 : decode cX6_admit 57 = .ok (.invokevirtual 114, 3) := by decide +kernel
theorem dX6_admit_60 : decode cX6_admit 60 = .ok (.ifCond .ne 7, 3) := by decide +kernel
theorem dX6_admit_63 : decode cX6_admit 63 = .ok (.iconst 1, 1) := by decide +kernel
theorem dX6_admit_64 : decode cX6_admit 64 = .ok (.goto 4, 3) := by decide +kernel
theorem dX6_admit_67 : decode cX6_admit 67 = .ok (.iconst 0, 1) := by decide +kernel
theorem dX6_admit_68 : decode cX6_admit 68 = .ok (.istore_n 3, 1) := by decide +kernel
theorem dX6_admit_69 : decode cX6_admit 69 = .ok (.aload_n 0, 1) := by decide +kernel
theorem dX6_admit_70 : decode cX6_admit 70 = .ok (.aload_n 0, 1) := by decide +kernel
theorem dX6_admit_71 : decode cX6_admit 71 = .ok (.iload_n 1, 1) := by decide +kernel
theorem dX6_admit_72 : decode cX6_admit 72 = .ok (.invokevirtual 118, 3) := by decide +kernel
theorem dX6_admit_75 : decode cX6_admit 75 = .ok (.ifCond .eq 16, 3) := by decide +kernel
theorem dX6_admit_78 : decode cX6_admit 78 = .ok (.iload_n 3, 1) := by decide +kernel
theorem dX6_admit_79 : decode cX6_admit 79 = .ok (.ifCond .eq 12, 3) := by decide +kernel
theorem dX6_admit_82 : decode cX6_admit 82 = .ok (.aload_n 0, 1) := by decide +kernel
theorem dX6_admit_83 : decode cX6_admit 83 = .ok (.getfield 88, 3) := by decide +kernel
theorem dX6_admit_86 : decode cX6_admit 86 = .ok (.bipush 80, 2) := by decide +kernel
theorem dX6_admit_88 : decode cX6_admit 88 = .ok (.if_icmp .ne 7, 3) := by decide +kernel
theorem dX6_admit_91 : decode cX6_admit 91 = .ok (.iconst 2, 1) := by decide +kernel
theorem dX6_admit_92 : decode cX6_admit 92 = .ok (.goto 4, 3) := by decide +kernel
theorem dX6_admit_95 : decode cX6_admit 95 = .ok (.iconst 0, 1) := by decide +kernel
theorem dX6_admit_96 : decode cX6_admit 96 = .ok (.putfield 81, 3) := by decide +kernel
theorem dX6_admit_99 : decode cX6_admit 99 = .ok (.aload_n 0, 1) := by decide +kernel
theorem dX6_admit_100 : decode cX6_admit 100 = .ok (.getfield 81, 3) := by decide +kernel
theorem dX6_admit_103 : decode cX6_admit 103 = .ok (.ifCond .le 5, 3) := by decide +kernel
theorem dX6_admit_106 : decode cX6_admit 106 = .ok (.iconst 0, 1) := by decide +kernel
theorem dX6_admit_107 : decode cX6_admit 107 = .ok (.ireturn, 1) := by decide +kernel
theorem dX6_admit_108 : decode cX6_admit 108 = .ok (.aload_n 0, 1) := by decide +kernel
theorem dX6_admit_109 : decode cX6_admit 109 = .ok (.iload_n 2, 1) := by decide +kernel
theorem dX6_admit_110 : decode cX6_admit 110 = .ok (.ifCond .eq 7, 3) := by decide +kernel
theorem dX6_admit_113 : decode cX6_admit 113 = .ok (.iconst 3, 1) := by decide +kernel
theorem dX6_admit_114 : decode cX6_admit 114 = .ok (.goto 4, 3) := by decide +kernel
theorem dX6_admit_117 : decode cX6_admit 117 = .ok (.iconst 2, 1) := by decide +kernel
theorem dX6_admit_118 : decode cX6_admit 118 = .ok (.iconst (-1), 1) := by decide +kernel
theorem dX6_admit_119 : decode cX6_admit 119 = .ok (.iload_n 1, 1) := by decide +kernel
theorem dX6_admit_120 : decode cX6_admit 120 = .ok (.iload_n 2, 1) := by decide +kernel
theorem dX6_admit_121 : decode cX6_admit 121 = .ok (.ifCond .eq 12, 3) := by decide +kernel
theorem dX6_admit_124 : decode cX6_admit 124 = .ok (.aload_n 0, 1) := by decide +kernel
theorem dX6_admit_125 : decode cX6_admit 125 = .ok (.getfield 77, 3) := by decide +kernel
theorem dX6_admit_128 : decode cX6_admit 128 = .ok (.iconst 2, 1) := by decide +kernel
theorem dX6_admit_129 : decode cX6_admit 129 = .ok (.idiv, 1) := by decide +kernel
theorem dX6_admit_130 : decode cX6_admit 130 = .ok (.goto 4, 3) := by decide +kernel
theorem dX6_admit_133 : decode cX6_admit 133 = .ok (.iconst 0, 1) := by decide +kernel
theorem dX6_admit_134 : decode cX6_admit 134 = .ok (.invokevirtual 104, 3) := by decide +kernel
theorem dX6_admit_137 : decode cX6_admit 137 = .ok (.ireturn, 1) := by decide +kernel
theorem dX6_isFor_0 : decode cX6_isFor 0 = .ok (.aload_n 0, 1) := by decide +kernel
theorem dX6_isFor_1 : decode cX6_isFor 1 = .ok (.getfield 16, 3) := by decide +kernel
theorem dX6_isFor_4 : decode cX6_isFor 4 = .ok (.iload_n 1, 1) := by decide +kernel
theorem dX6_isFor_5 : decode cX6_isFor 5 = .ok (.iaload, 1) := by decide +kernel
theorem dX6_isFor_6 : decode cX6_isFor 6 = .ok (.ifCond .ne 13, 3) := by decide +kernel
theorem dX6_isFor_9 : decode cX6_isFor 9 = .ok (.aload_n 0, 1) := by decide +kernel
theorem dX6_isFor_10 : decode cX6_isFor 10 = .ok (.getfield 19, 3) := by decide +kernel
theorem dX6_isFor_13 : decode cX6_isFor 13 = .ok (.iload_n 1, 1) := by decide +kernel
theorem dX6_isFor_14 : decode cX6_isFor 14 = .ok (.iaload, 1) := by decide +kernel
theorem dX6_isFor_15 : decode cX6_isFor 15 = .ok (.iload_n 2, 1) := by decide +kernel
theorem dX6_isFor_16 : decode cX6_isFor 16 = .ok (.if_icmp .ne 7, 3) := by decide +kernel
theorem dX6_isFor_19 : decode cX6_isFor 19 = .ok (.iconst 1, 1) := by decide +kernel
theorem dX6_isFor_20 : decode cX6_isFor 20 = .ok (.goto 4, 3) := by decide +kernel
theorem dX6_isFor_23 : decode cX6_isFor 23 = .ok (.iconst 0, 1) := by decide +kernel
theorem dX6_isFor_24 : decode cX6_isFor 24 = .ok (.ireturn, 1) := by decide +kernel
theorem dX6_giveBack_0 : decode cX6_giveBack 0 = .ok (.aload_n 0, 1) := by decide +kernel
theorem dX6_giveBack_1 : decode cX6_giveBack 1 = .ok (.aload_n 0, 1) := by decide +kernel
theorem dX6_giveBack_2 : decode cX6_giveBack 2 = .ok (.iload_n 1, 1) := by decide +kernel
theorem dX6_giveBack_3 : decode cX6_giveBack 3 = .ok (.invokevirtual 121, 3) := by decide +kernel
theorem dX6_giveBack_6 : decode cX6_giveBack 6 = .ok (.ifCond .ne 7, 3) := by decide +kernel
theorem dX6_giveBack_9 : decode cX6_giveBack 9 = .ok (.iconst 1, 1) := by decide +kernel
theorem dX6_giveBack_10 : decode cX6_giveBack 10 = .ok (.goto 35, 3) := by decide +kernel
theorem dX6_giveBack_13 : decode cX6_giveBack 13 = .ok (.aload_n 0, 1) := by decide +kernel
theorem dX6_giveBack_14 : decode cX6_giveBack 14 = .ok (.iload_n 1, 1) := by decide +kernel
theorem dX6_giveBack_15 : decode cX6_giveBack 15 = .ok (.invokevirtual 108, 3) := by decide +kernel
theorem dX6_giveBack_18 : decode cX6_giveBack 18 = .ok (.ifCond .eq 22, 3) := by decide +kernel
theorem dX6_giveBack_21 : decode cX6_giveBack 21 = .ok (.aload_n 0, 1) := by decide +kernel
theorem dX6_giveBack_22 : decode cX6_giveBack 22 = .ok (.getfield 41, 3) := by decide +kernel
theorem dX6_giveBack_25 : decode cX6_giveBack 25 = .ok (.iload_n 1, 1) := by decide +kernel
theorem dX6_giveBack_26 : decode cX6_giveBack 26 = .ok (.iaload, 1) := by decide +kernel
theorem dX6_giveBack_27 : decode cX6_giveBack 27 = .ok (.ifCond .ne 13, 3) := by decide +kernel
theorem dX6_giveBack_30 : decode cX6_giveBack 30 = .ok (.aload_n 0, 1) := by decide +kernel
theorem dX6_giveBack_31 : decode cX6_giveBack 31 = .ok (.getfield 35, 3) := by decide +kernel
theorem dX6_giveBack_34 : decode cX6_giveBack 34 = .ok (.iload_n 1, 1) := by decide +kernel
theorem dX6_giveBack_35 : decode cX6_giveBack 35 = .ok (.iaload, 1) := by decide +kernel
theorem dX6_giveBack_36 : decode cX6_giveBack 36 = .ok (.iconst (-1), 1) := by decide +kernel
theorem dX6_giveBack_37 : decode cX6_giveBack 37 = .ok (.if_icmp .eq 7, 3) := by decide +kernel
theorem dX6_giveBack_40 : decode cX6_giveBack 40 = .ok (.iconst 2, 1) := by decide +kernel
theorem dX6_giveBack_41 : decode cX6_giveBack 41 = .ok (.goto 4, 3) := by decide +kernel
theorem dX6_giveBack_44 : decode cX6_giveBack 44 = .ok (.iconst 0, 1) := by decide +kernel
theorem dX6_giveBack_45 : decode cX6_giveBack 45 = .ok (.putfield 81, 3) := by decide +kernel
theorem dX6_giveBack_48 : decode cX6_giveBack 48 = .ok (.iconst 0, 1) := by decide +kernel
theorem dX6_giveBack_49 : decode cX6_giveBack 49 = .ok (.istore_n 2, 1) := by decide +kernel
theorem dX6_giveBack_50 : decode cX6_giveBack 50 = .ok (.iload_n 2, 1) := by decide +kernel
theorem dX6_giveBack_51 : decode cX6_giveBack 51 = .ok (.bipush 12, 2) := by decide +kernel
theorem dX6_giveBack_53 : decode cX6_giveBack 53 = .ok (.if_icmp .ge 45, 3) := by decide +kernel
theorem dX6_giveBack_56 : decode cX6_giveBack 56 = .ok (.aload_n 0, 1) := by decide +kernel
theorem dX6_giveBack_57 : decode cX6_giveBack 57 = .ok (.getfield 81, 3) := by decide +kernel
theorem dX6_giveBack_60 : decode cX6_giveBack 60 = .ok (.ifCond .ne 38, 3) := by decide +kernel
theorem dX6_giveBack_63 : decode cX6_giveBack 63 = .ok (.aload_n 0, 1) := by decide +kernel
theorem dX6_giveBack_64 : decode cX6_giveBack 64 = .ok (.aload_n 0, 1) := by decide +kernel
theorem dX6_giveBack_65 : decode cX6_giveBack 65 = .ok (.iload_n 1, 1) := by decide +kernel
theorem dX6_giveBack_66 : decode cX6_giveBack 66 = .ok (.iload_n 2, 1) := by decide +kernel
theorem dX6_giveBack_67 : decode cX6_giveBack 67 = .ok (.iconst 3, 1) := by decide +kernel
theorem dX6_giveBack_68 : decode cX6_giveBack 68 = .ok (.idiv, 1) := by decide +kernel
theorem dX6_giveBack_69 : decode cX6_giveBack 69 = .ok (.invokevirtual 124, 3) := by decide +kernel
theorem dX6_giveBack_72 : decode cX6_giveBack 72 = .ok (.ifCond .eq 16, 3) := by decide +kernel
theorem dX6_giveBack_75 : decode cX6_giveBack 75 = .ok (.aload_n 0, 1) := by decide +kernel
theorem dX6_giveBack_76 : decode cX6_giveBack 76 = .ok (.getfield 47, 3) := by decide +kernel
theorem dX6_giveBack_79 : decode cX6_giveBack 79 = .ok (.iload_n 2, 1) := by decide +kernel
theorem dX6_giveBack_80 : decode cX6_giveBack 80 = .ok (.baload, 1) := by decide +kernel
theorem dX6_giveBack_81 : decode cX6_giveBack 81 = .ok (.ifCond .ne 7, 3) := by decide +kernel
theorem dX6_giveBack_84 : decode cX6_giveBack 84 = .ok (.iconst 2, 1) := by decide +kernel
theorem dX6_giveBack_85 : decode cX6_giveBack 85 = .ok (.goto 4, 3) := by decide +kernel
theorem dX6_giveBack_88 : decode cX6_giveBack 88 = .ok (.iconst 0, 1) := by decide +kernel
theorem dX6_giveBack_89 : decode cX6_giveBack 89 = .ok (.putfield 81, 3) := by decide +kernel
theorem dX6_giveBack_92 : decode cX6_giveBack 92 = .ok (.iinc 2 1, 3) := by decide +kernel
theorem dX6_giveBack_95 : decode cX6_giveBack 95 = .ok (.goto (-45), 3) := by decide +kernel
theorem dX6_giveBack_98 : decode cX6_giveBack 98 = .ok (.aload_n 0, 1) := by decide +kernel
theorem dX6_giveBack_99 : decode cX6_giveBack 99 = .ok (.getfield 81, 3) := by decide +kernel
theorem dX6_giveBack_102 : decode cX6_giveBack 102 = .ok (.ifCond .le 5, 3) := by decide +kernel
theorem dX6_giveBack_105 : decode cX6_giveBack 105 = .ok (.iconst 0, 1) := by decide +kernel
theorem dX6_giveBack_106 : decode cX6_giveBack 106 = .ok (.ireturn, 1) := by decide +kernel
theorem dX6_giveBack_107 : decode cX6_giveBack 107 = .ok (.aload_n 0, 1) := by decide +kernel
theorem dX6_giveBack_108 : decode cX6_giveBack 108 = .ok (.getfield 31, 3) := by decide +kernel
theorem dX6_giveBack_111 : decode cX6_giveBack 111 = .ok (.iload_n 1, 1) := by decide +kernel
theorem dX6_giveBack_112 : decode cX6_giveBack 112 = .ok (.iconst 1, 1) := by decide +kernel
theorem dX6_giveBack_113 : decode cX6_giveBack 113 = .ok (.bastore, 1) := by decide +kernel
theorem dX6_giveBack_114 : decode cX6_giveBack 114 = .ok (.aload_n 0, 1) := by decide +kernel
theorem dX6_giveBack_115 : decode cX6_giveBack 115 = .ok (.dup, 1) := by decide +kernel
theorem dX6_giveBack_116 : decode cX6_giveBack 116 = .ok (.getfield 101, 3) := by decide +kernel
theorem dX6_giveBack_119 : decode cX6_giveBack 119 = .ok (.aload_n 0, 1) := by decide +kernel
theorem dX6_giveBack_120 : decode cX6_giveBack 120 = .ok (.getfield 28, 3) := by decide +kernel
theorem dX6_giveBack_123 : decode cX6_giveBack 123 = .ok (.iload_n 1, 1) := by decide +kernel
theorem dX6_giveBack_124 : decode cX6_giveBack 124 = .ok (.iaload, 1) := by decide +kernel
theorem dX6_giveBack_125 : decode cX6_giveBack 125 = .ok (.isub, 1) := by decide +kernel
theorem dX6_giveBack_126 : decode cX6_giveBack 126 = .ok (.putfield 101, 3) := by decide +kernel
theorem dX6_giveBack_129 : decode cX6_giveBack 129 = .ok (.aload_n 0, 1) := by decide +kernel
theorem dX6_giveBack_130 : decode cX6_giveBack 130 = .ok (.getfield 28, 3) := by decide +kernel
theorem dX6_giveBack_133 : decode cX6_giveBack 133 = .ok (.iload_n 1, 1) := by decide +kernel
theorem dX6_giveBack_134 : decode cX6_giveBack 134 = .ok (.iaload, 1) := by decide +kernel
theorem dX6_giveBack_135 : decode cX6_giveBack 135 = .ok (.ireturn, 1) := by decide +kernel
theorem dX6_join_0 : decode cX6_join 0 = .ok (.aload_n 0, 1) := by decide +kernel
theorem dX6_join_1 : decode cX6_join 1 = .ok (.iload_n 1, 1) := by decide +kernel
theorem dX6_join_2 : decode cX6_join 2 = .ok (.invokestatic 111, 3) := by decide +kernel
theorem dX6_join_5 : decode cX6_join 5 = .ok (.ifCond .ne 7, 3) := by decide +kernel
theorem dX6_join_8 : decode cX6_join 8 = .ok (.iconst 1, 1) := by decide +kernel
theorem dX6_join_9 : decode cX6_join 9 = .ok (.goto 16, 3) := by decide +kernel
theorem dX6_join_12 : decode cX6_join 12 = .ok (.aload_n 0, 1) := by decide +kernel
theorem dX6_join_13 : decode cX6_join 13 = .ok (.iload_n 1, 1) := by decide +kernel
theorem dX6_join_14 : decode cX6_join 14 = .ok (.invokevirtual 118, 3) := by decide +kernel
theorem dX6_join_17 : decode cX6_join 17 = .ok (.ifCond .eq 7, 3) := by decide +kernel
theorem dX6_join_20 : decode cX6_join 20 = .ok (.iconst 2, 1) := by decide +kernel
theorem dX6_join_21 : decode cX6_join 21 = .ok (.goto 4, 3) := by decide +kernel
theorem dX6_join_24 : decode cX6_join 24 = .ok (.iconst 0, 1) := by decide +kernel
theorem dX6_join_25 : decode cX6_join 25 = .ok (.putfield 81, 3) := by decide +kernel
theorem dX6_join_28 : decode cX6_join 28 = .ok (.aload_n 0, 1) := by decide +kernel
theorem dX6_join_29 : decode cX6_join 29 = .ok (.getfield 81, 3) := by decide +kernel
theorem dX6_join_32 : decode cX6_join 32 = .ok (.ifCond .le 5, 3) := by decide +kernel
theorem dX6_join_35 : decode cX6_join 35 = .ok (.iconst 0, 1) := by decide +kernel
theorem dX6_join_36 : decode cX6_join 36 = .ok (.ireturn, 1) := by decide +kernel
theorem dX6_join_37 : decode cX6_join 37 = .ok (.aload_n 0, 1) := by decide +kernel
theorem dX6_join_38 : decode cX6_join 38 = .ok (.getfield 13, 3) := by decide +kernel
theorem dX6_join_41 : decode cX6_join 41 = .ok (.iload_n 1, 1) := by decide +kernel
theorem dX6_join_42 : decode cX6_join 42 = .ok (.aload_n 0, 1) := by decide +kernel
theorem dX6_join_43 : decode cX6_join 43 = .ok (.getfield 94, 3) := by decide +kernel
theorem dX6_join_46 : decode cX6_join 46 = .ok (.bipush 30, 2) := by decide +kernel
theorem dX6_join_48 : decode cX6_join 48 = .ok (.iadd, 1) := by decide +kernel
theorem dX6_join_49 : decode cX6_join 49 = .ok (.iconst 1, 1) := by decide +kernel
theorem dX6_join_50 : decode cX6_join 50 = .ok (.isub, 1) := by decide +kernel
theorem dX6_join_51 : decode cX6_join 51 = .ok (.iastore, 1) := by decide +kernel
theorem dX6_join_52 : decode cX6_join 52 = .ok (.aload_n 0, 1) := by decide +kernel
theorem dX6_join_53 : decode cX6_join 53 = .ok (.dup, 1) := by decide +kernel
theorem dX6_join_54 : decode cX6_join 54 = .ok (.getfield 101, 3) := by decide +kernel
theorem dX6_join_57 : decode cX6_join 57 = .ok (.sipush 6000, 3) := by decide +kernel
theorem dX6_join_60 : decode cX6_join 60 = .ok (.iadd, 1) := by decide +kernel
theorem dX6_join_61 : decode cX6_join 61 = .ok (.putfield 101, 3) := by decide +kernel
theorem dX6_join_64 : decode cX6_join 64 = .ok (.aload_n 0, 1) := by decide +kernel
theorem dX6_join_65 : decode cX6_join 65 = .ok (.getfield 13, 3) := by decide +kernel
theorem dX6_join_68 : decode cX6_join 68 = .ok (.iload_n 1, 1) := by decide +kernel
theorem dX6_join_69 : decode cX6_join 69 = .ok (.iaload, 1) := by decide +kernel
theorem dX6_join_70 : decode cX6_join 70 = .ok (.ireturn, 1) := by decide +kernel
theorem dX6_insideOf_0 : decode cX6_insideOf 0 = .ok (.iconst 0, 1) := by decide +kernel
theorem dX6_insideOf_1 : decode cX6_insideOf 1 = .ok (.istore_n 2, 1) := by decide +kernel
theorem dX6_insideOf_2 : decode cX6_insideOf 2 = .ok (.iconst 0, 1) := by decide +kernel
theorem dX6_insideOf_3 : decode cX6_insideOf 3 = .ok (.istore_n 3, 1) := by decide +kernel
theorem dX6_insideOf_4 : decode cX6_insideOf 4 = .ok (.iload_n 3, 1) := by decide +kernel
theorem dX6_insideOf_5 : decode cX6_insideOf 5 = .ok (.aload_n 0, 1) := by decide +kernel
theorem dX6_insideOf_6 : decode cX6_insideOf 6 = .ok (.getfield 88, 3) := by decide +kernel
theorem dX6_insideOf_9 : decode cX6_insideOf 9 = .ok (.if_icmp .ge 27, 3) := by decide +kernel
theorem dX6_insideOf_12 : decode cX6_insideOf 12 = .ok (.iload_n 2, 1) := by decide +kernel
theorem dX6_insideOf_13 : decode cX6_insideOf 13 = .ok (.aload_n 0, 1) := by decide +kernel
theorem dX6_insideOf_14 : decode cX6_insideOf 14 = .ok (.getfield 35, 3) := by decide +kernel
theorem dX6_insideOf_17 : decode cX6_insideOf 17 = .ok (.iload_n 3, 1) := by decide +kernel
theorem dX6_insideOf_18 : decode cX6_insideOf 18 = .ok (.iaload, 1) := by decide +kernel
theorem dX6_insideOf_19 : decode cX6_insideOf 19 = .ok (.iload_n 1, 1) := by decide +kernel
theorem dX6_insideOf_20 : decode cX6_insideOf 20 = .ok (.if_icmp .ne 7, 3) := by decide +kernel
theorem dX6_insideOf_23 : decode cX6_insideOf 23 = .ok (.iconst 1, 1) := by decide +kernel
theorem dX6_insideOf_24 : decode cX6_insideOf 24 = .ok (.goto 4, 3) := by decide +kernel
theorem dX6_insideOf_27 : decode cX6_insideOf 27 = .ok (.iconst 0, 1) := by decide +kernel
theorem dX6_insideOf_28 : decode cX6_insideOf 28 = .ok (.iadd, 1) := by decide +kernel
theorem dX6_insideOf_29 : decode cX6_insideOf 29 = .ok (.istore_n 2, 1) := by decide +kernel
theorem dX6_insideOf_30 : decode cX6_insideOf 30 = .ok (.iinc 3 1, 3) := by decide +kernel
theorem dX6_insideOf_33 : decode cX6_insideOf 33 = .ok (.goto (-29), 3) := by decide +kernel
theorem dX6_insideOf_36 : decode cX6_insideOf 36 = .ok (.iload_n 2, 1) := by decide +kernel
theorem dX6_insideOf_37 : decode cX6_insideOf 37 = .ok (.ireturn, 1) := by decide +kernel
theorem dX6_isAhead_0 : decode cX6_isAhead 0 = .ok (.aload_n 0, 1) := by decide +kernel
theorem dX6_isAhead_1 : decode cX6_isAhead 1 = .ok (.getfield 16, 3) := by decide +kernel
theorem dX6_isAhead_4 : decode cX6_isAhead 4 = .ok (.iload_n 1, 1) := by decide +kernel
theorem dX6_isAhead_5 : decode cX6_isAhead 5 = .ok (.iaload, 1) := by decide +kernel
theorem dX6_isAhead_6 : decode cX6_isAhead 6 = .ok (.iconst 2, 1) := by decide +kernel
theorem dX6_isAhead_7 : decode cX6_isAhead 7 = .ok (.if_icmp .ne 7, 3) := by decide +kernel
theorem dX6_isAhead_10 : decode cX6_isAhead 10 = .ok (.iconst 1, 1) := by decide +kernel
theorem dX6_isAhead_11 : decode cX6_isAhead 11 = .ok (.goto 4, 3) := by decide +kernel
theorem dX6_isAhead_14 : decode cX6_isAhead 14 = .ok (.iconst 0, 1) := by decide +kernel
theorem dX6_isAhead_15 : decode cX6_isAhead 15 = .ok (.istore_n 3, 1) := by decide +kernel
theorem dX6_isAhead_16 : decode cX6_isAhead 16 = .ok (.aload_n 0, 1) := by decide +kernel
theorem dX6_isAhead_17 : decode cX6_isAhead 17 = .ok (.getfield 16, 3) := by decide +kernel
theorem dX6_isAhead_20 : decode cX6_isAhead 20 = .ok (.iload_n 2, 1) := by decide +kernel
theorem dX6_isAhead_21 : decode cX6_isAhead 21 = .ok (.iaload, 1) := by decide +kernel
theorem dX6_isAhead_22 : decode cX6_isAhead 22 = .ok (.iconst 2, 1) := by decide +kernel
theorem dX6_isAhead_23 : decode cX6_isAhead 23 = .ok (.if_icmp .ne 7, 3) := by decide +kernel
theorem dX6_isAhead_26 : decode cX6_isAhead 26 = .ok (.iconst 1, 1) := by decide +kernel
theorem dX6_isAhead_27 : decode cX6_isAhead 27 = .ok (.goto 4, 3) := by decide +kernel
theorem dX6_isAhead_30 : decode cX6_isAhead 30 = .ok (.iconst 0, 1) := by decide +kernel
theorem dX6_isAhead_31 : decode cX6_isAhead 31 = .ok (.istore 4, 2) := by decide +kernel
theorem dX6_isAhead_33 : decode cX6_isAhead 33 = .ok (.iload_n 3, 1) := by decide +kernel
theorem dX6_isAhead_34 : decode cX6_isAhead 34 = .ok (.iload 4, 2) := by decide +kernel
theorem dX6_isAhead_36 : decode cX6_isAhead 36 = .ok (.if_icmp .eq 7, 3) := by decide +kernel
theorem dX6_isAhead_39 : decode cX6_isAhead 39 = .ok (.iload_n 3, 1) := by decide +kernel
theorem dX6_isAhead_40 : decode cX6_isAhead 40 = .ok (.goto 23, 3) := by decide +kernel
theorem dX6_isAhead_43 : decode cX6_isAhead 43 = .ok (.aload_n 0, 1) := by decide +kernel
theorem dX6_isAhead_44 : decode cX6_isAhead 44 = .ok (.getfield 38, 3) := by decide +kernel
theorem dX6_isAhead_47 : decode cX6_isAhead 47 = .ok (.iload_n 1, 1) := by decide +kernel
theorem dX6_isAhead_48 : decode cX6_isAhead 48 = .ok (.iaload, 1) := by decide +kernel
theorem dX6_isAhead_49 : decode cX6_isAhead 49 = .ok (.aload_n 0, 1) := by decide +kernel
theorem dX6_isAhead_50 : decode cX6_isAhead 50 = .ok (.getfield 38, 3) := by decide +kernel
theorem dX6_isAhead_53 : decode cX6_isAhead 53 = .ok (.iload_n 2, 1) := by decide +kernel
theorem dX6_isAhead_54 : decode cX6_isAhead 54 = .ok (.iaload, 1) := by decide +kernel
theorem dX6_isAhead_55 : decode cX6_isAhead 55 = .ok (.if_icmp .ge 7, 3) := by decide +kernel
theorem dX6_isAhead_58 : decode cX6_isAhead 58 = .ok (.iconst 1, 1) := by decide +kernel
theorem dX6_isAhead_59 : decode cX6_isAhead 59 = .ok (.goto 4, 3) := by decide +kernel
theorem dX6_isAhead_62 : decode cX6_isAhead 62 = .ok (.iconst 0, 1) := by decide +kernel
theorem dX6_isAhead_63 : decode cX6_isAhead 63 = .ok (.ireturn, 1) := by decide +kernel
theorem dX6_inQueue_0 : decode cX6_inQueue 0 = .ok (.iconst 0, 1) := by decide +kernel
theorem dX6_inQueue_1 : decode cX6_inQueue 1 = .ok (.istore_n 3, 1) := by decide +kernel
theorem dX6_inQueue_2 : decode cX6_inQueue 2 = .ok (.iload_n 3, 1) := by decide +kernel
theorem dX6_inQueue_3 : decode cX6_inQueue 3 = .ok (.aload_n 0, 1) := by decide +kernel
theorem dX6_inQueue_4 : decode cX6_inQueue 4 = .ok (.getfield 88, 3) := by decide +kernel
theorem dX6_inQueue_7 : decode cX6_inQueue 7 = .ok (.if_icmp .ge 91, 3) := by decide +kernel
theorem dX6_inQueue_10 : decode cX6_inQueue 10 = .ok (.aload_n 0, 1) := by decide +kernel
theorem dX6_inQueue_11 : decode cX6_inQueue 11 = .ok (.getfield 35, 3) := by decide +kernel
theorem dX6_inQueue_14 : decode cX6_inQueue 14 = .ok (.iload_n 3, 1) := by decide +kernel
theorem dX6_inQueue_15 : decode cX6_inQueue 15 = .ok (.iaload, 1) := by decide +kernel
theorem dX6_inQueue_16 : decode cX6_inQueue 16 = .ok (.bipush 100, 2) := by decide +kernel
theorem dX6_inQueue_18 : decode cX6_inQueue 18 = .ok (.iload_n 1, 1) := by decide +kernel
theorem dX6_inQueue_19 : decode cX6_inQueue 19 = .ok (.iadd, 1) := by decide +kernel
theorem dX6_inQueue_20 : decode cX6_inQueue 20 = .ok (.if_icmp .ne 72, 3) := by decide +kernel
theorem dX6_inQueue_23 : decode cX6_inQueue 23 = .ok (.iconst 0, 1) := by decide +kernel
theorem dX6_inQueue_24 : decode cX6_inQueue 24 = .ok (.istore 4, 2) := by decide +kernel
theorem dX6_inQueue_26 : decode cX6_inQueue 26 = .ok (.iconst 0, 1) := by decide +kernel
theorem dX6_inQueue_27 : decode cX6_inQueue 27 = .ok (.istore 5, 2) := by decide +kernel
theorem dX6_inQueue_29 : decode cX6_inQueue 29 = .ok (.iload 5, 2) := by decide +kernel
theorem dX6_inQueue_31 : decode cX6_inQueue 31 = .ok (.aload_n 0, 1) := by decide +kernel
theorem dX6_inQueue_32 : decode cX6_inQueue 32 = .ok (.getfield 88, 3) := by decide +kernel
theorem dX6_inQueue_35 : decode cX6_inQueue 35 = .ok (.if_icmp .ge 49, 3) := by decide +kernel
theorem dX6_inQueue_38 : decode cX6_inQueue 38 = .ok (.iload 4, 2) := by decide +kernel
theorem dX6_inQueue_40 : decode cX6_inQueue 40 = .ok (.aload_n 0, 1) := by decide +kernel
theorem dX6_inQueue_41 : decode cX6_inQueue 41 = .ok (.getfield 35, 3) := by decide +kernel
theorem dX6_inQueue_44 : decode cX6_inQueue 44 = .ok (.iload 5, 2) := by decide +kernel
theorem dX6_inQueue_46 : decode cX6_inQueue 46 = .ok (.iaload, 1) := by decide +kernel
theorem dX6_inQueue_47 : decode cX6_inQueue 47 = .ok (.bipush 100, 2) := by decide +kernel
theorem dX6_inQueue_49 : decode cX6_inQueue 49 = .ok (.iload_n 1, 1) := by decide +kernel
theorem dX6_inQueue_50 : decode cX6_inQueue 50 = .ok (.iadd, 1) := by decide +kernel
theorem dX6_inQueue_51 : decode cX6_inQueue 51 = .ok (.if_icmp .ne 23, 3) := by decide +kernel
theorem dX6_inQueue_54 : decode cX6_inQueue 54 = .ok (.iload 5, 2) := by decide +kernel
theorem dX6_inQueue_56 : decode cX6_inQueue 56 = .ok (.iload_n 3, 1) := by decide +kernel
theorem dX6_inQueue_57 : decode cX6_inQueue 57 = .ok (.if_icmp .eq 17, 3) := by decide +kernel
theorem dX6_inQueue_60 : decode cX6_inQueue 60 = .ok (.aload_n 0, 1) := by decide +kernel
theorem dX6_inQueue_61 : decode cX6_inQueue 61 = .ok (.iload 5, 2) := by decide +kernel
theorem dX6_inQueue_63 : decode cX6_inQueue 63 = .ok (.iload_n 3, 1) := by decide +kernel
theorem dX6_inQueue_64 : decode cX6_inQueue 64 = .ok (.invokevirtual 128, 3) := by decide +kernel
theorem dX6_inQueue_67 : decode cX6_inQueue 67 = .ok (.ifCond .eq 7, 3) := by decide +kernel
theorem dX6_inQueue_70 : decode cX6_inQueue 70 = .ok (.iconst 1, 1) := by decide +kernel
theorem dX6_inQueue_71 : decode cX6_inQueue 71 = .ok (.goto 4, 3) := by decide +kernel
theorem dX6_inQueue_74 : decode cX6_inQueue 74 = .ok (.iconst 0, 1) := by decide +kernel
theorem dX6_inQueue_75 : decode cX6_inQueue 75 = .ok (.iadd, 1) := by decide +kernel
theorem dX6_inQueue_76 : decode cX6_inQueue 76 = .ok (.istore 4, 2) := by decide +kernel
theorem dX6_inQueue_78 : decode cX6_inQueue 78 = .ok (.iinc 5 1, 3) := by decide +kernel
theorem dX6_inQueue_81 : decode cX6_inQueue 81 = .ok (.goto (-52), 3) := by decide +kernel
theorem dX6_inQueue_84 : decode cX6_inQueue 84 = .ok (.iload 4, 2) := by decide +kernel
theorem dX6_inQueue_86 : decode cX6_inQueue 86 = .ok (.iload_n 2, 1) := by decide +kernel
theorem dX6_inQueue_87 : decode cX6_inQueue 87 = .ok (.if_icmp .ne 5, 3) := by decide +kernel
theorem dX6_inQueue_90 : decode cX6_inQueue 90 = .ok (.iload_n 3, 1) := by decide +kernel
theorem dX6_inQueue_91 : decode cX6_inQueue 91 = .ok (.ireturn, 1) := by decide +kernel
theorem dX6_inQueue_92 : decode cX6_inQueue 92 = .ok (.iinc 3 1, 3) := by decide +kernel
theorem dX6_inQueue_95 : decode cX6_inQueue 95 = .ok (.goto (-93), 3) := by decide +kernel
theorem dX6_inQueue_98 : decode cX6_inQueue 98 = .ok (.iconst (-1), 1) := by decide +kernel
theorem dX6_inQueue_99 : decode cX6_inQueue 99 = .ok (.ireturn, 1) := by decide +kernel
theorem dX6_see_0 : decode cX6_see 0 = .ok (.aload_n 0, 1) := by decide +kernel
theorem dX6_see_1 : decode cX6_see 1 = .ok (.getfield 35, 3) := by decide +kernel
theorem dX6_see_4 : decode cX6_see 4 = .ok (.iload_n 1, 1) := by decide +kernel
theorem dX6_see_5 : decode cX6_see 5 = .ok (.iload_n 2, 1) := by decide +kernel
theorem dX6_see_6 : decode cX6_see 6 = .ok (.iastore, 1) := by decide +kernel
theorem dX6_see_7 : decode cX6_see 7 = .ok (.aload_n 0, 1) := by decide +kernel
theorem dX6_see_8 : decode cX6_see 8 = .ok (.getfield 41, 3) := by decide +kernel
theorem dX6_see_11 : decode cX6_see 11 = .ok (.iload_n 1, 1) := by decide +kernel
theorem dX6_see_12 : decode cX6_see 12 = .ok (.iaload, 1) := by decide +kernel
theorem dX6_see_13 : decode cX6_see 13 = .ok (.iload_n 2, 1) := by decide +kernel
theorem dX6_see_14 : decode cX6_see 14 = .ok (.ishr, 1) := by decide +kernel
theorem dX6_see_15 : decode cX6_see 15 = .ok (.iconst 1, 1) := by decide +kernel
theorem dX6_see_16 : decode cX6_see 16 = .ok (.iand, 1) := by decide +kernel
theorem dX6_see_17 : decode cX6_see 17 = .ok (.iconst 1, 1) := by decide +kernel
theorem dX6_see_18 : decode cX6_see 18 = .ok (.if_icmp .ne 4, 3) := by decide +kernel
theorem dX6_see_21 : decode cX6_see 21 = .ok (.return_, 1) := by decide +kernel
theorem dX6_see_22 : decode cX6_see 22 = .ok (.aload_n 0, 1) := by decide +kernel
theorem dX6_see_23 : decode cX6_see 23 = .ok (.getfield 41, 3) := by decide +kernel
theorem dX6_see_26 : decode cX6_see 26 = .ok (.iload_n 1, 1) := by decide +kernel
theorem dX6_see_27 : decode cX6_see 27 = .ok (.dup2, 1) := by decide +kernel
theorem dX6_see_28 : decode cX6_see 28 = .ok (.iaload, 1) := by decide +kernel
theorem dX6_see_29 : decode cX6_see 29 = .ok (.iconst 1, 1) := by decide +kernel
theorem dX6_see_30 : decode cX6_see 30 = .ok (.iload_n 2, 1) := by decide +kernel
theorem dX6_see_31 : decode cX6_see 31 = .ok (.ishl, 1) := by decide +kernel
theorem dX6_see_32 : decode cX6_see 32 = .ok (.ior, 1) := by decide +kernel
theorem dX6_see_33 : decode cX6_see 33 = .ok (.iastore, 1) := by decide +kernel
theorem dX6_see_34 : decode cX6_see 34 = .ok (.iconst 0, 1) := by decide +kernel
theorem dX6_see_35 : decode cX6_see 35 = .ok (.istore_n 3, 1) := by decide +kernel
theorem dX6_see_36 : decode cX6_see 36 = .ok (.iload_n 3, 1) := by decide +kernel
theorem dX6_see_37 : decode cX6_see 37 = .ok (.aload_n 0, 1) := by decide +kernel
theorem dX6_see_38 : decode cX6_see 38 = .ok (.getfield 91, 3) := by decide +kernel
theorem dX6_see_41 : decode cX6_see 41 = .ok (.if_icmp .ge 120, 3) := by decide +kernel
theorem dX6_see_44 : decode cX6_see 44 = .ok (.aload_n 0, 1) := by decide +kernel
theorem dX6_see_45 : decode cX6_see 45 = .ok (.getfield 53, 3) := by decide +kernel
theorem dX6_see_48 : decode cX6_see 48 = .ok (.iload_n 3, 1) := by decide +kernel
theorem dX6_see_49 : decode cX6_see 49 = .ok (.iaload, 1) := by decide +kernel
theorem dX6_see_50 : decode cX6_see 50 = .ok (.iload_n 2, 1) := by decide +kernel
theorem dX6_see_51 : decode cX6_see 51 = .ok (.if_icmp .ne 104, 3) := by decide +kernel
theorem dX6_see_54 : decode cX6_see 54 = .ok (.aload_n 0, 1) := by decide +kernel
theorem dX6_see_55 : decode cX6_see 55 = .ok (.getfield 68, 3) := by decide +kernel
theorem dX6_see_58 : decode cX6_see 58 = .ok (.iload_n 3, 1) := by decide +kernel
theorem dX6_see_59 : decode cX6_see 59 = .ok (.dup2, 1) := by decide +kernel
theorem dX6_see_60 : decode cX6_see 60 = .ok (.iaload, 1) := by decide +kernel
theorem dX6_see_61 : decode cX6_see 61 = .ok (.iconst 1, 1) := by decide +kernel
theorem dX6_see_62 : decode cX6_see 62 = .ok (.iadd, 1) := by decide +kernel
theorem dX6_see_63 : decode cX6_see 63 = .ok (.iastore, 1) := by decide +kernel
theorem dX6_see_64 : decode cX6_see 64 = .ok (.aload_n 0, 1) := by decide +kernel
theorem dX6_see_65 : decode cX6_see 65 = .ok (.getfield 71, 3) := by decide +kernel
theorem dX6_see_68 : decode cX6_see 68 = .ok (.iload_n 2, 1) := by decide +kernel
theorem dX6_see_69 : decode cX6_see 69 = .ok (.iconst 3, 1) := by decide +kernel
theorem dX6_see_70 : decode cX6_see 70 = .ok (.idiv, 1) := by decide +kernel
theorem dX6_see_71 : decode cX6_see 71 = .ok (.dup2, 1) := by decide +kernel
theorem dX6_see_72 : decode cX6_see 72 = .ok (.iaload, 1) := by decide +kernel
theorem dX6_see_73 : decode cX6_see 73 = .ok (.aload_n 0, 1) := by decide +kernel
theorem dX6_see_74 : decode cX6_see 74 = .ok (.getfield 56, 3) := by decide +kernel
theorem dX6_see_77 : decode cX6_see 77 = .ok (.iload_n 3, 1) := by decide +kernel
theorem dX6_see_78 : decode cX6_see 78 = .ok (.baload, 1) := by decide +kernel
theorem dX6_see_79 : decode cX6_see 79 = .ok (.ifCond .eq 12, 3) := by decide +kernel
theorem dX6_see_82 : decode cX6_see 82 = .ok (.aload_n 0, 1) := by decide +kernel
theorem dX6_see_83 : decode cX6_see 83 = .ok (.getfield 59, 3) := by decide +kernel
theorem dX6_see_86 : decode cX6_see 86 = .ok (.iload_n 3, 1) := by decide +kernel
theorem dX6_see_87 : decode cX6_see 87 = .ok (.iaload, 1) := by decide +kernel
theorem dX6_see_88 : decode cX6_see 88 = .ok (.goto 4, 3) := by decide +kernel
theorem dX6_see_91 : decode cX6_see 91 = .ok (.iconst 0, 1) := by decide +kernel
theorem dX6_see_92 : decode cX6_see 92 = .ok (.isub, 1) := by decide +kernel
theorem dX6_see_93 : decode cX6_see 93 = .ok (.iastore, 1) := by decide +kernel
theorem dX6_see_94 : decode cX6_see 94 = .ok (.aload_n 0, 1) := by decide +kernel
theorem dX6_see_95 : decode cX6_see 95 = .ok (.getfield 71, 3) := by decide +kernel
theorem dX6_see_98 : decode cX6_see 98 = .ok (.aload_n 0, 1) := by decide +kernel
theorem dX6_see_99 : decode cX6_see 99 = .ok (.getfield 50, 3) := by decide +kernel
theorem dX6_see_102 : decode cX6_see 102 = .ok (.iload_n 3, 1) := by decide +kernel
theorem dX6_see_103 : decode cX6_see 103 = .ok (.iaload, 1) := by decide +kernel
theorem dX6_see_104 : decode cX6_see 104 = .ok (.dup2, 1) := by decide +kernel
theorem dX6_see_105 : decode cX6_see 105 = .ok (.iaload, 1) := by decide +kernel
theorem dX6_see_106 : decode cX6_see 106 = .ok (.aload_n 0, 1) := by decide +kernel
theorem dX6_see_107 : decode cX6_see 107 = .ok (.getfield 56, 3) := by decide +kernel
theorem dX6_see_110 : decode cX6_see 110 = .ok (.iload_n 3, 1) := by decide +kernel
theorem dX6_see_111 : decode cX6_see 111 = .ok (.baload, 1) := by decide +kernel
theorem dX6_see_112 : decode cX6_see 112 = .ok (.ifCond .eq 12, 3) := by decide +kernel
theorem dX6_see_115 : decode cX6_see 115 = .ok (.aload_n 0, 1) := by decide +kernel
theorem dX6_see_116 : decode cX6_see 116 = .ok (.getfield 59, 3) := by decide +kernel
theorem dX6_see_119 : decode cX6_see 119 = .ok (.iload_n 3, 1) := by decide +kernel
theorem dX6_see_120 : decode cX6_see 120 = .ok (.iaload, 1) := by decide +kernel
theorem dX6_see_121 : decode cX6_see 121 = .ok (.goto 4, 3) := by decide +kernel
theorem dX6_see_124 : decode cX6_see 124 = .ok (.iconst 0, 1) := by decide +kernel
theorem dX6_see_125 : decode cX6_see 125 = .ok (.iadd, 1) := by decide +kernel
theorem dX6_see_126 : decode cX6_see 126 = .ok (.iastore, 1) := by decide +kernel
theorem dX6_see_127 : decode cX6_see 127 = .ok (.aload_n 0, 1) := by decide +kernel
theorem dX6_see_128 : decode cX6_see 128 = .ok (.getfield 62, 3) := by decide +kernel
theorem dX6_see_131 : decode cX6_see 131 = .ok (.iload_n 3, 1) := by decide +kernel
theorem dX6_see_132 : decode cX6_see 132 = .ok (.dup2, 1) := by decide +kernel
theorem dX6_see_133 : decode cX6_see 133 = .ok (.iaload, 1) := by decide +kernel
theorem dX6_see_134 : decode cX6_see 134 = .ok (.aload_n 0, 1) := by decide +kernel
theorem dX6_see_135 : decode cX6_see 135 = .ok (.getfield 56, 3) := by decide +kernel
theorem dX6_see_138 : decode cX6_see 138 = .ok (.iload_n 3, 1) := by decide +kernel
theorem dX6_see_139 : decode cX6_see 139 = .ok (.baload, 1) := by decide +kernel
theorem dX6_see_140 : decode cX6_see 140 = .ok (.ifCond .eq 12, 3) := by decide +kernel
theorem dX6_see_143 : decode cX6_see 143 = .ok (.aload_n 0, 1) := by decide +kernel
theorem dX6_see_144 : decode cX6_see 144 = .ok (.getfield 59, 3) := by decide +kernel
theorem dX6_see_147 : decode cX6_see 147 = .ok (.iload_n 3, 1) := by decide +kernel
theorem dX6_see_148 : decode cX6_see 148 = .ok (.iaload, 1) := by decide +kernel
theorem dX6_see_149 : decode cX6_see 149 = .ok (.goto 4, 3) := by decide +kernel
theorem dX6_see_152 : decode cX6_see 152 = .ok (.iconst 0, 1) := by decide +kernel
theorem dX6_see_153 : decode cX6_see 153 = .ok (.iadd, 1) := by decide +kernel
theorem dX6_see_154 : decode cX6_see 154 = .ok (.iastore, 1) := by decide +kernel
theorem dX6_see_155 : decode cX6_see 155 = .ok (.iinc 3 1, 3) := by decide +kernel
theorem dX6_see_158 : decode cX6_see 158 = .ok (.goto (-122), 3) := by decide +kernel
theorem dX6_see_161 : decode cX6_see 161 = .ok (.return_, 1) := by decide +kernel
theorem dX6_letIn_0 : decode cX6_letIn 0 = .ok (.aload_n 0, 1) := by decide +kernel
theorem dX6_letIn_1 : decode cX6_letIn 1 = .ok (.iload_n 1, 1) := by decide +kernel
theorem dX6_letIn_2 : decode cX6_letIn 2 = .ok (.iconst 0, 1) := by decide +kernel
theorem dX6_letIn_3 : decode cX6_letIn 3 = .ok (.invokevirtual 131, 3) := by decide +kernel
theorem dX6_letIn_6 : decode cX6_letIn 6 = .ok (.istore_n 2, 1) := by decide +kernel
theorem dX6_letIn_7 : decode cX6_letIn 7 = .ok (.iload_n 2, 1) := by decide +kernel
theorem dX6_letIn_8 : decode cX6_letIn 8 = .ok (.iconst (-1), 1) := by decide +kernel
theorem dX6_letIn_9 : decode cX6_letIn 9 = .ok (.if_icmp .eq 33, 3) := by decide +kernel
theorem dX6_letIn_12 : decode cX6_letIn 12 = .ok (.aload_n 0, 1) := by decide +kernel
theorem dX6_letIn_13 : decode cX6_letIn 13 = .ok (.iload_n 1, 1) := by decide +kernel
theorem dX6_letIn_14 : decode cX6_letIn 14 = .ok (.invokevirtual 134, 3) := by decide +kernel
theorem dX6_letIn_17 : decode cX6_letIn 17 = .ok (.aload_n 0, 1) := by decide +kernel
theorem dX6_letIn_18 : decode cX6_letIn 18 = .ok (.getfield 44, 3) := by decide +kernel
theorem dX6_letIn_21 : decode cX6_letIn 21 = .ok (.iload_n 1, 1) := by decide +kernel
theorem dX6_letIn_22 : decode cX6_letIn 22 = .ok (.iaload, 1) := by decide +kernel
theorem dX6_letIn_23 : decode cX6_letIn 23 = .ok (.if_icmp .ge 19, 3) := by decide +kernel
theorem dX6_letIn_26 : decode cX6_letIn 26 = .ok (.aload_n 0, 1) := by decide +kernel
theorem dX6_letIn_27 : decode cX6_letIn 27 = .ok (.iload_n 2, 1) := by decide +kernel
theorem dX6_letIn_28 : decode cX6_letIn 28 = .ok (.iload_n 1, 1) := by decide +kernel
theorem dX6_letIn_29 : decode cX6_letIn 29 = .ok (.invokevirtual 138, 3) := by decide +kernel
theorem dX6_letIn_32 : decode cX6_letIn 32 = .ok (.aload_n 0, 1) := by decide +kernel
theorem dX6_letIn_33 : decode cX6_letIn 33 = .ok (.iload_n 1, 1) := by decide +kernel
theorem dX6_letIn_34 : decode cX6_letIn 34 = .ok (.iconst 0, 1) := by decide +kernel
theorem dX6_letIn_35 : decode cX6_letIn 35 = .ok (.invokevirtual 131, 3) := by decide +kernel
theorem dX6_letIn_38 : decode cX6_letIn 38 = .ok (.istore_n 2, 1) := by decide +kernel
theorem dX6_letIn_39 : decode cX6_letIn 39 = .ok (.goto (-32), 3) := by decide +kernel
theorem dX6_letIn_42 : decode cX6_letIn 42 = .ok (.return_, 1) := by decide +kernel
theorem dX6_setCap_0 : decode cX6_setCap 0 = .ok (.aload_n 0, 1) := by decide +kernel
theorem dX6_setCap_1 : decode cX6_setCap 1 = .ok (.iload_n 1, 1) := by decide +kernel
theorem dX6_setCap_2 : decode cX6_setCap 2 = .ok (.invokestatic 142, 3) := by decide +kernel
theorem dX6_setCap_5 : decode cX6_setCap 5 = .ok (.ifCond .ne 7, 3) := by decide +kernel
theorem dX6_setCap_8 : decode cX6_setCap 8 = .ok (.iconst 1, 1) := by decide +kernel
theorem dX6_setCap_9 : decode cX6_setCap 9 = .ok (.goto 18, 3) := by decide +kernel
theorem dX6_setCap_12 : decode cX6_setCap 12 = .ok (.iload_n 2, 1) := by decide +kernel
theorem dX6_setCap_13 : decode cX6_setCap 13 = .ok (.iconst 0, 1) := by decide +kernel
theorem dX6_setCap_14 : decode cX6_setCap 14 = .ok (.bipush 20, 2) := by decide +kernel
theorem dX6_setCap_16 : decode cX6_setCap 16 = .ok (.invokestatic 84, 3) := by decide +kernel
theorem dX6_setCap_19 : decode cX6_setCap 19 = .ok (.ifCond .ne 7, 3) := by decide +kernel
theorem dX6_setCap_22 : decode cX6_setCap 22 = .ok (.iconst 2, 1) := by decide +kernel
theorem dX6_setCap_23 : decode cX6_setCap 23 = .ok (.goto 4, 3) := by decide +kernel
theorem dX6_setCap_26 : decode cX6_setCap 26 = .ok (.iconst 0, 1) := by decide +kernel
theorem dX6_setCap_27 : decode cX6_setCap 27 = .ok (.putfield 81, 3) := by decide +kernel
theorem dX6_setCap_30 : decode cX6_setCap 30 = .ok (.aload_n 0, 1) := by decide +kernel
theorem dX6_setCap_31 : decode cX6_setCap 31 = .ok (.getfield 81, 3) := by decide +kernel
theorem dX6_setCap_34 : decode cX6_setCap 34 = .ok (.ifCond .le 5, 3) := by decide +kernel
theorem dX6_setCap_37 : decode cX6_setCap 37 = .ok (.iconst 0, 1) := by decide +kernel
theorem dX6_setCap_38 : decode cX6_setCap 38 = .ok (.ireturn, 1) := by decide +kernel
theorem dX6_setCap_39 : decode cX6_setCap 39 = .ok (.aload_n 0, 1) := by decide +kernel
theorem dX6_setCap_40 : decode cX6_setCap 40 = .ok (.getfield 44, 3) := by decide +kernel
theorem dX6_setCap_43 : decode cX6_setCap 43 = .ok (.iload_n 1, 1) := by decide +kernel
theorem dX6_setCap_44 : decode cX6_setCap 44 = .ok (.iload_n 2, 1) := by decide +kernel
theorem dX6_setCap_45 : decode cX6_setCap 45 = .ok (.iastore, 1) := by decide +kernel
theorem dX6_setCap_46 : decode cX6_setCap 46 = .ok (.aload_n 0, 1) := by decide +kernel
theorem dX6_setCap_47 : decode cX6_setCap 47 = .ok (.iload_n 1, 1) := by decide +kernel
theorem dX6_setCap_48 : decode cX6_setCap 48 = .ok (.invokevirtual 145, 3) := by decide +kernel
theorem dX6_setCap_51 : decode cX6_setCap 51 = .ok (.aload_n 0, 1) := by decide +kernel
theorem dX6_setCap_52 : decode cX6_setCap 52 = .ok (.iload_n 1, 1) := by decide +kernel
theorem dX6_setCap_53 : decode cX6_setCap 53 = .ok (.invokevirtual 134, 3) := by decide +kernel
theorem dX6_setCap_56 : decode cX6_setCap 56 = .ok (.ireturn, 1) := by decide +kernel
theorem dX6_clear_0 : decode cX6_clear 0 = .ok (.iconst 0, 1) := by decide +kernel
theorem dX6_clear_1 : decode cX6_clear 1 = .ok (.istore_n 2, 1) := by decide +kernel
theorem dX6_clear_2 : decode cX6_clear 2 = .ok (.iconst 0, 1) := by decide +kernel
theorem dX6_clear_3 : decode cX6_clear 3 = .ok (.istore_n 3, 1) := by decide +kernel
theorem dX6_clear_4 : decode cX6_clear 4 = .ok (.iload_n 3, 1) := by decide +kernel
theorem dX6_clear_5 : decode cX6_clear 5 = .ok (.aload_n 0, 1) := by decide +kernel
theorem dX6_clear_6 : decode cX6_clear 6 = .ok (.getfield 88, 3) := by decide +kernel
theorem dX6_clear_9 : decode cX6_clear 9 = .ok (.if_icmp .ge 42, 3) := by decide +kernel
theorem dX6_clear_12 : decode cX6_clear 12 = .ok (.aload_n 0, 1) := by decide +kernel
theorem dX6_clear_13 : decode cX6_clear 13 = .ok (.getfield 35, 3) := by decide +kernel
theorem dX6_clear_16 : decode cX6_clear 16 = .ok (.iload_n 3, 1) := by decide +kernel
theorem dX6_clear_17 : decode cX6_clear 17 = .ok (.iaload, 1) := by decide +kernel
theorem dX6_clear_18 : decode cX6_clear 18 = .ok (.iload_n 1, 1) := by decide +kernel
theorem dX6_clear_19 : decode cX6_clear 19 = .ok (.if_icmp .eq 16, 3) := by decide +kernel
theorem dX6_clear_22 : decode cX6_clear 22 = .ok (.aload_n 0, 1) := by decide +kernel
theorem dX6_clear_23 : decode cX6_clear 23 = .ok (.getfield 35, 3) := by decide +kernel
theorem dX6_clear_26 : decode cX6_clear 26 = .ok (.iload_n 3, 1) := by decide +kernel
theorem dX6_clear_27 : decode cX6_clear 27 = .ok (.iaload, 1) := by decide +kernel
theorem dX6_clear_28 : decode cX6_clear 28 = .ok (.bipush 100, 2) := by decide +kernel
theorem dX6_clear_30 : decode cX6_clear 30 = .ok (.iload_n 1, 1) := by decide +kernel
theorem dX6_clear_31 : decode cX6_clear 31 = .ok (.iadd, 1) := by decide +kernel
theorem dX6_clear_32 : decode cX6_clear 32 = .ok (.if_icmp .ne 13, 3) := by decide +kernel
theorem dX6_clear_35 : decode cX6_clear 35 = .ok (.aload_n 0, 1) := by decide +kernel
theorem dX6_clear_36 : decode cX6_clear 36 = .ok (.getfield 35, 3) := by decide +kernel
theorem dX6_clear_39 : decode cX6_clear 39 = .ok (.iload_n 3, 1) := by decide +kernel
theorem dX6_clear_40 : decode cX6_clear 40 = .ok (.iconst (-1), 1) := by decide +kernel
theorem dX6_clear_41 : decode cX6_clear 41 = .ok (.iastore, 1) := by decide +kernel
theorem dX6_clear_42 : decode cX6_clear 42 = .ok (.iinc 2 1, 3) := by decide +kernel
theorem dX6_clear_45 : decode cX6_clear 45 = .ok (.iinc 3 1, 3) := by decide +kernel
theorem dX6_clear_48 : decode cX6_clear 48 = .ok (.goto (-44), 3) := by decide +kernel
theorem dX6_clear_51 : decode cX6_clear 51 = .ok (.iload_n 2, 1) := by decide +kernel
theorem dX6_clear_52 : decode cX6_clear 52 = .ok (.ireturn, 1) := by decide +kernel
theorem dX6_close_0 : decode cX6_close 0 = .ok (.aload_n 0, 1) := by decide +kernel
theorem dX6_close_1 : decode cX6_close 1 = .ok (.iload_n 1, 1) := by decide +kernel
theorem dX6_close_2 : decode cX6_close 2 = .ok (.invokestatic 142, 3) := by decide +kernel
theorem dX6_close_5 : decode cX6_close 5 = .ok (.ifCond .eq 7, 3) := by decide +kernel
theorem dX6_close_8 : decode cX6_close 8 = .ok (.iconst 0, 1) := by decide +kernel
theorem dX6_close_9 : decode cX6_close 9 = .ok (.goto 4, 3) := by decide +kernel
theorem dX6_close_12 : decode cX6_close 12 = .ok (.iconst 1, 1) := by decide +kernel
theorem dX6_close_13 : decode cX6_close 13 = .ok (.putfield 81, 3) := by decide +kernel
theorem dX6_close_16 : decode cX6_close 16 = .ok (.aload_n 0, 1) := by decide +kernel
theorem dX6_close_17 : decode cX6_close 17 = .ok (.getfield 81, 3) := by decide +kernel
theorem dX6_close_20 : decode cX6_close 20 = .ok (.ifCond .le 5, 3) := by decide +kernel
theorem dX6_close_23 : decode cX6_close 23 = .ok (.iconst 0, 1) := by decide +kernel
theorem dX6_close_24 : decode cX6_close 24 = .ok (.ireturn, 1) := by decide +kernel
theorem dX6_close_25 : decode cX6_close 25 = .ok (.aload_n 0, 1) := by decide +kernel
theorem dX6_close_26 : decode cX6_close 26 = .ok (.getfield 47, 3) := by decide +kernel
theorem dX6_close_29 : decode cX6_close 29 = .ok (.iload_n 1, 1) := by decide +kernel
theorem dX6_close_30 : decode cX6_close 30 = .ok (.iload_n 2, 1) := by decide +kernel
theorem dX6_close_31 : decode cX6_close 31 = .ok (.bastore, 1) := by decide +kernel
theorem dX6_close_32 : decode cX6_close 32 = .ok (.iload_n 2, 1) := by decide +kernel
theorem dX6_close_33 : decode cX6_close 33 = .ok (.ifCond .eq 11, 3) := by decide +kernel
theorem dX6_close_36 : decode cX6_close 36 = .ok (.aload_n 0, 1) := by decide +kernel
theorem dX6_close_37 : decode cX6_close 37 = .ok (.iload_n 1, 1) := by decide +kernel
theorem dX6_close_38 : decode cX6_close 38 = .ok (.invokevirtual 149, 3) := by decide +kernel
theorem dX6_close_41 : decode cX6_close 41 = .ok (.goto 4, 3) := by decide +kernel
theorem dX6_close_44 : decode cX6_close 44 = .ok (.iconst 0, 1) := by decide +kernel
theorem dX6_close_45 : decode cX6_close 45 = .ok (.ireturn, 1) := by decide +kernel
theorem dX6_enter_0 : decode cX6_enter 0 = .ok (.aload_n 0, 1) := by decide +kernel
theorem dX6_enter_1 : decode cX6_enter 1 = .ok (.aload_n 0, 1) := by decide +kernel
theorem dX6_enter_2 : decode cX6_enter 2 = .ok (.iload_n 1, 1) := by decide +kernel
theorem dX6_enter_3 : decode cX6_enter 3 = .ok (.invokevirtual 121, 3) := by decide +kernel
theorem dX6_enter_6 : decode cX6_enter 6 = .ok (.ifCond .eq 10, 3) := by decide +kernel
theorem dX6_enter_9 : decode cX6_enter 9 = .ok (.iload_n 2, 1) := by decide +kernel
theorem dX6_enter_10 : decode cX6_enter 10 = .ok (.invokestatic 142, 3) := by decide +kernel
theorem dX6_enter_13 : decode cX6_enter 13 = .ok (.ifCond .ne 7, 3) := by decide +kernel
theorem dX6_enter_16 : decode cX6_enter 16 = .ok (.iconst 1, 1) := by decide +kernel
theorem dX6_enter_17 : decode cX6_enter 17 = .ok (.goto 46, 3) := by decide +kernel
theorem dX6_enter_20 : decode cX6_enter 20 = .ok (.aload_n 0, 1) := by decide +kernel
theorem dX6_enter_21 : decode cX6_enter 21 = .ok (.iload_n 1, 1) := by decide +kernel
theorem dX6_enter_22 : decode cX6_enter 22 = .ok (.invokevirtual 108, 3) := by decide +kernel
theorem dX6_enter_25 : decode cX6_enter 25 = .ok (.ifCond .eq 33, 3) := by decide +kernel
theorem dX6_enter_28 : decode cX6_enter 28 = .ok (.aload_n 0, 1) := by decide +kernel
theorem dX6_enter_29 : decode cX6_enter 29 = .ok (.iload_n 1, 1) := by decide +kernel
theorem dX6_enter_30 : decode cX6_enter 30 = .ok (.iload_n 2, 1) := by decide +kernel
theorem dX6_enter_31 : decode cX6_enter 31 = .ok (.iconst 3, 1) := by decide +kernel
theorem dX6_enter_32 : decode cX6_enter 32 = .ok (.idiv, 1) := by decide +kernel
theorem dX6_enter_33 : decode cX6_enter 33 = .ok (.invokevirtual 124, 3) := by decide +kernel
theorem dX6_enter_36 : decode cX6_enter 36 = .ok (.ifCond .eq 22, 3) := by decide +kernel
theorem dX6_enter_39 : decode cX6_enter 39 = .ok (.aload_n 0, 1) := by decide +kernel
theorem dX6_enter_40 : decode cX6_enter 40 = .ok (.getfield 35, 3) := by decide +kernel
theorem dX6_enter_43 : decode cX6_enter 43 = .ok (.iload_n 1, 1) := by decide +kernel
theorem dX6_enter_44 : decode cX6_enter 44 = .ok (.iaload, 1) := by decide +kernel
theorem dX6_enter_45 : decode cX6_enter 45 = .ok (.iconst (-1), 1) := by decide +kernel
theorem dX6_enter_46 : decode cX6_enter 46 = .ok (.if_icmp .ne 12, 3) := by decide +kernel
theorem dX6_enter_49 : decode cX6_enter 49 = .ok (.aload_n 0, 1) := by decide +kernel
theorem dX6_enter_50 : decode cX6_enter 50 = .ok (.getfield 47, 3) := by decide +kernel
theorem dX6_enter_53 : decode cX6_enter 53 = .ok (.iload_n 2, 1) := by decide +kernel
theorem dX6_enter_54 : decode cX6_enter 54 = .ok (.baload, 1) := by decide +kernel
theorem dX6_enter_55 : decode cX6_enter 55 = .ok (.ifCond .eq 7, 3) := by decide +kernel
theorem dX6_enter_58 : decode cX6_enter 58 = .ok (.iconst 2, 1) := by decide +kernel
theorem dX6_enter_59 : decode cX6_enter 59 = .ok (.goto 4, 3) := by decide +kernel
theorem dX6_enter_62 : decode cX6_enter 62 = .ok (.iconst 0, 1) := by decide +kernel
theorem dX6_enter_63 : decode cX6_enter 63 = .ok (.putfield 81, 3) := by decide +kernel
theorem dX6_enter_66 : decode cX6_enter 66 = .ok (.aload_n 0, 1) := by decide +kernel
theorem dX6_enter_67 : decode cX6_enter 67 = .ok (.getfield 81, 3) := by decide +kernel
theorem dX6_enter_70 : decode cX6_enter 70 = .ok (.ifCond .le 5, 3) := by decide +kernel
theorem dX6_enter_73 : decode cX6_enter 73 = .ok (.iconst 0, 1) := by decide +kernel
theorem dX6_enter_74 : decode cX6_enter 74 = .ok (.ireturn, 1) := by decide +kernel
theorem dX6_enter_75 : decode cX6_enter 75 = .ok (.aload_n 0, 1) := by decide +kernel
theorem dX6_enter_76 : decode cX6_enter 76 = .ok (.iload_n 2, 1) := by decide +kernel
theorem dX6_enter_77 : decode cX6_enter 77 = .ok (.invokevirtual 134, 3) := by decide +kernel
theorem dX6_enter_80 : decode cX6_enter 80 = .ok (.aload_n 0, 1) := by decide +kernel
theorem dX6_enter_81 : decode cX6_enter 81 = .ok (.getfield 44, 3) := by decide +kernel
theorem dX6_enter_84 : decode cX6_enter 84 = .ok (.iload_n 2, 1) := by decide +kernel
theorem dX6_enter_85 : decode cX6_enter 85 = .ok (.iaload, 1) := by decide +kernel
theorem dX6_enter_86 : decode cX6_enter 86 = .ok (.if_icmp .ge 17, 3) := by decide +kernel
theorem dX6_enter_89 : decode cX6_enter 89 = .ok (.aload_n 0, 1) := by decide +kernel
theorem dX6_enter_90 : decode cX6_enter 90 = .ok (.iload_n 2, 1) := by decide +kernel
theorem dX6_enter_91 : decode cX6_enter 91 = .ok (.iconst 0, 1) := by decide +kernel
theorem dX6_enter_92 : decode cX6_enter 92 = .ok (.invokevirtual 131, 3) := by decide +kernel
theorem dX6_enter_95 : decode cX6_enter 95 = .ok (.iconst (-1), 1) := by decide +kernel
theorem dX6_enter_96 : decode cX6_enter 96 = .ok (.if_icmp .ne 7, 3) := by decide +kernel
theorem dX6_enter_99 : decode cX6_enter 99 = .ok (.iconst 1, 1) := by decide +kernel
theorem dX6_enter_100 : decode cX6_enter 100 = .ok (.goto 4, 3) := by decide +kernel
theorem dX6_enter_103 : decode cX6_enter 103 = .ok (.iconst 0, 1) := by decide +kernel
theorem dX6_enter_104 : decode cX6_enter 104 = .ok (.istore_n 3, 1) := by decide +kernel
theorem dX6_enter_105 : decode cX6_enter 105 = .ok (.iload_n 3, 1) := by decide +kernel
theorem dX6_enter_106 : decode cX6_enter 106 = .ok (.ifCond .eq 12, 3) := by decide +kernel
theorem dX6_enter_109 : decode cX6_enter 109 = .ok (.aload_n 0, 1) := by decide +kernel
theorem dX6_enter_110 : decode cX6_enter 110 = .ok (.iload_n 1, 1) := by decide +kernel
theorem dX6_enter_111 : decode cX6_enter 111 = .ok (.iload_n 2, 1) := by decide +kernel
theorem dX6_enter_112 : decode cX6_enter 112 = .ok (.invokevirtual 138, 3) := by decide +kernel
theorem dX6_enter_115 : decode cX6_enter 115 = .ok (.goto 33, 3) := by decide +kernel
theorem dX6_enter_118 : decode cX6_enter 118 = .ok (.aload_n 0, 1) := by decide +kernel
theorem dX6_enter_119 : decode cX6_enter 119 = .ok (.getfield 35, 3) := by decide +kernel
theorem dX6_enter_122 : decode cX6_enter 122 = .ok (.iload_n 1, 1) := by decide +kernel
theorem dX6_enter_123 : decode cX6_enter 123 = .ok (.bipush 100, 2) := by decide +kernel
theorem dX6_enter_125 : decode cX6_enter 125 = .ok (.iload_n 2, 1) := by decide +kernel
theorem dX6_enter_126 : decode cX6_enter 126 = .ok (.iadd, 1) := by decide +kernel
theorem dX6_enter_127 : decode cX6_enter 127 = .ok (.iastore, 1) := by decide +kernel
theorem dX6_enter_128 : decode cX6_enter 128 = .ok (.aload_n 0, 1) := by decide +kernel
theorem dX6_enter_129 : decode cX6_enter 129 = .ok (.getfield 38, 3) := by decide +kernel
theorem dX6_enter_132 : decode cX6_enter 132 = .ok (.iload_n 1, 1) := by decide +kernel
theorem dX6_enter_133 : decode cX6_enter 133 = .ok (.aload_n 0, 1) := by decide +kernel
theorem dX6_enter_134 : decode cX6_enter 134 = .ok (.getfield 152, 3) := by decide +kernel
theorem dX6_enter_137 : decode cX6_enter 137 = .ok (.iastore, 1) := by decide +kernel
theorem dX6_enter_138 : decode cX6_enter 138 = .ok (.aload_n 0, 1) := by decide +kernel
theorem dX6_enter_139 : decode cX6_enter 139 = .ok (.dup, 1) := by decide +kernel
theorem dX6_enter_140 : decode cX6_enter 140 = .ok (.getfield 152, 3) := by decide +kernel
theorem dX6_enter_143 : decode cX6_enter 143 = .ok (.iconst 1, 1) := by decide +kernel
theorem dX6_enter_144 : decode cX6_enter 144 = .ok (.iadd, 1) := by decide +kernel
theorem dX6_enter_145 : decode cX6_enter 145 = .ok (.putfield 152, 3) := by decide +kernel
theorem dX6_enter_148 : decode cX6_enter 148 = .ok (.iload_n 3, 1) := by decide +kernel
theorem dX6_enter_149 : decode cX6_enter 149 = .ok (.ireturn, 1) := by decide +kernel
theorem dX6_goOut_0 : decode cX6_goOut 0 = .ok (.aload_n 0, 1) := by decide +kernel
theorem dX6_goOut_1 : decode cX6_goOut 1 = .ok (.aload_n 0, 1) := by decide +kernel
theorem dX6_goOut_2 : decode cX6_goOut 2 = .ok (.iload_n 1, 1) := by decide +kernel
theorem dX6_goOut_3 : decode cX6_goOut 3 = .ok (.invokevirtual 121, 3) := by decide +kernel
theorem dX6_goOut_6 : decode cX6_goOut 6 = .ok (.ifCond .ne 7, 3) := by decide +kernel
theorem dX6_goOut_9 : decode cX6_goOut 9 = .ok (.iconst 1, 1) := by decide +kernel
theorem dX6_goOut_10 : decode cX6_goOut 10 = .ok (.goto 18, 3) := by decide +kernel
theorem dX6_goOut_13 : decode cX6_goOut 13 = .ok (.aload_n 0, 1) := by decide +kernel
theorem dX6_goOut_14 : decode cX6_goOut 14 = .ok (.getfield 35, 3) := by decide +kernel
theorem dX6_goOut_17 : decode cX6_goOut 17 = .ok (.iload_n 1, 1) := by decide +kernel
theorem dX6_goOut_18 : decode cX6_goOut 18 = .ok (.iaload, 1) := by decide +kernel
theorem dX6_goOut_19 : decode cX6_goOut 19 = .ok (.iconst (-1), 1) := by decide +kernel
theorem dX6_goOut_20 : decode cX6_goOut 20 = .ok (.if_icmp .ne 7, 3) := by decide +kernel
theorem dX6_goOut_23 : decode cX6_goOut 23 = .ok (.iconst 2, 1) := by decide +kernel
theorem dX6_goOut_24 : decode cX6_goOut 24 = .ok (.goto 4, 3) := by decide +kernel
theorem dX6_goOut_27 : decode cX6_goOut 27 = .ok (.iconst 0, 1) := by decide +kernel
theorem dX6_goOut_28 : decode cX6_goOut 28 = .ok (.putfield 81, 3) := by decide +kernel
theorem dX6_goOut_31 : decode cX6_goOut 31 = .ok (.aload_n 0, 1) := by decide +kernel
theorem dX6_goOut_32 : decode cX6_goOut 32 = .ok (.getfield 81, 3) := by decide +kernel
theorem dX6_goOut_35 : decode cX6_goOut 35 = .ok (.ifCond .le 5, 3) := by decide +kernel
theorem dX6_goOut_38 : decode cX6_goOut 38 = .ok (.iconst 0, 1) := by decide +kernel
theorem dX6_goOut_39 : decode cX6_goOut 39 = .ok (.ireturn, 1) := by decide +kernel
theorem dX6_goOut_40 : decode cX6_goOut 40 = .ok (.aload_n 0, 1) := by decide +kernel
theorem dX6_goOut_41 : decode cX6_goOut 41 = .ok (.getfield 35, 3) := by decide +kernel
theorem dX6_goOut_44 : decode cX6_goOut 44 = .ok (.iload_n 1, 1) := by decide +kernel
theorem dX6_goOut_45 : decode cX6_goOut 45 = .ok (.iaload, 1) := by decide +kernel
theorem dX6_goOut_46 : decode cX6_goOut 46 = .ok (.bipush 100, 2) := by decide +kernel
theorem dX6_goOut_48 : decode cX6_goOut 48 = .ok (.irem, 1) := by decide +kernel
theorem dX6_goOut_49 : decode cX6_goOut 49 = .ok (.istore_n 2, 1) := by decide +kernel
theorem dX6_goOut_50 : decode cX6_goOut 50 = .ok (.aload_n 0, 1) := by decide +kernel
theorem dX6_goOut_51 : decode cX6_goOut 51 = .ok (.getfield 35, 3) := by decide +kernel
theorem dX6_goOut_54 : decode cX6_goOut 54 = .ok (.iload_n 1, 1) := by decide +kernel
theorem dX6_goOut_55 : decode cX6_goOut 55 = .ok (.iconst (-1), 1) := by decide +kernel
theorem dX6_goOut_56 : decode cX6_goOut 56 = .ok (.iastore, 1) := by decide +kernel
theorem dX6_goOut_57 : decode cX6_goOut 57 = .ok (.aload_n 0, 1) := by decide +kernel
theorem dX6_goOut_58 : decode cX6_goOut 58 = .ok (.iload_n 2, 1) := by decide +kernel
theorem dX6_goOut_59 : decode cX6_goOut 59 = .ok (.invokevirtual 145, 3) := by decide +kernel
theorem dX6_goOut_62 : decode cX6_goOut 62 = .ok (.iload_n 2, 1) := by decide +kernel
theorem dX6_goOut_63 : decode cX6_goOut 63 = .ok (.ireturn, 1) := by decide +kernel
theorem dX6_addWork_0 : decode cX6_addWork 0 = .ok (.aload_n 0, 1) := by decide +kernel
theorem dX6_addWork_1 : decode cX6_addWork 1 = .ok (.iload_n 1, 1) := by decide +kernel
theorem dX6_addWork_2 : decode cX6_addWork 2 = .ok (.invokestatic 142, 3) := by decide +kernel
theorem dX6_addWork_5 : decode cX6_addWork 5 = .ok (.ifCond .ne 7, 3) := by decide +kernel
theorem dX6_addWork_8 : decode cX6_addWork 8 = .ok (.iconst 1, 1) := by decide +kernel
theorem dX6_addWork_9 : decode cX6_addWork 9 = .ok (.goto 17, 3) := by decide +kernel
theorem dX6_addWork_12 : decode cX6_addWork 12 = .ok (.aload_n 0, 1) := by decide +kernel
theorem dX6_addWork_13 : decode cX6_addWork 13 = .ok (.getfield 91, 3) := by decide +kernel
theorem dX6_addWork_16 : decode cX6_addWork 16 = .ok (.bipush 12, 2) := by decide +kernel
theorem dX6_addWork_18 : decode cX6_addWork 18 = .ok (.if_icmp .ne 7, 3) := by decide +kernel
theorem dX6_addWork_21 : decode cX6_addWork 21 = .ok (.iconst 2, 1) := by decide +kernel
theorem dX6_addWork_22 : decode cX6_addWork 22 = .ok (.goto 4, 3) := by decide +kernel
theorem dX6_addWork_25 : decode cX6_addWork 25 = .ok (.iconst 0, 1) := by decide +kernel
theorem dX6_addWork_26 : decode cX6_addWork 26 = .ok (.putfield 81, 3) := by decide +kernel
theorem dX6_addWork_29 : decode cX6_addWork 29 = .ok (.aload_n 0, 1) := by decide +kernel
theorem dX6_addWork_30 : decode cX6_addWork 30 = .ok (.getfield 81, 3) := by decide +kernel
theorem dX6_addWork_33 : decode cX6_addWork 33 = .ok (.ifCond .le 5, 3) := by decide +kernel
theorem dX6_addWork_36 : decode cX6_addWork 36 = .ok (.iconst 0, 1) := by decide +kernel
theorem dX6_addWork_37 : decode cX6_addWork 37 = .ok (.ireturn, 1) := by decide +kernel
theorem dX6_addWork_38 : decode cX6_addWork 38 = .ok (.aload_n 0, 1) := by decide +kernel
theorem dX6_addWork_39 : decode cX6_addWork 39 = .ok (.getfield 50, 3) := by decide +kernel
theorem dX6_addWork_42 : decode cX6_addWork 42 = .ok (.aload_n 0, 1) := by decide +kernel
theorem dX6_addWork_43 : decode cX6_addWork 43 = .ok (.getfield 91, 3) := by decide +kernel
theorem dX6_addWork_46 : decode cX6_addWork 46 = .ok (.iload_n 1, 1) := by decide +kernel
theorem dX6_addWork_47 : decode cX6_addWork 47 = .ok (.iconst 3, 1) := by decide +kernel
theorem dX6_addWork_48 : decode cX6_addWork 48 = .ok (.idiv, 1) := by decide +kernel
theorem dX6_addWork_49 : decode cX6_addWork 49 = .ok (.iastore, 1) := by decide +kernel
theorem dX6_addWork_50 : decode cX6_addWork 50 = .ok (.aload_n 0, 1) := by decide +kernel
theorem dX6_addWork_51 : decode cX6_addWork 51 = .ok (.getfield 53, 3) := by decide +kernel
theorem dX6_addWork_54 : decode cX6_addWork 54 = .ok (.aload_n 0, 1) := by decide +kernel
theorem dX6_addWork_55 : decode cX6_addWork 55 = .ok (.getfield 91, 3) := by decide +kernel
theorem dX6_addWork_58 : decode cX6_addWork 58 = .ok (.iload_n 1, 1) := by decide +kernel
theorem dX6_addWork_59 : decode cX6_addWork 59 = .ok (.iastore, 1) := by decide +kernel
theorem dX6_addWork_60 : decode cX6_addWork 60 = .ok (.aload_n 0, 1) := by decide +kernel
theorem dX6_addWork_61 : decode cX6_addWork 61 = .ok (.getfield 65, 3) := by decide +kernel
theorem dX6_addWork_64 : decode cX6_addWork 64 = .ok (.aload_n 0, 1) := by decide +kernel
theorem dX6_addWork_65 : decode cX6_addWork 65 = .ok (.getfield 91, 3) := by decide +kernel
theorem dX6_addWork_68 : decode cX6_addWork 68 = .ok (.bipush 20, 2) := by decide +kernel
theorem dX6_addWork_70 : decode cX6_addWork 70 = .ok (.iastore, 1) := by decide +kernel
theorem dX6_addWork_71 : decode cX6_addWork 71 = .ok (.aload_n 0, 1) := by decide +kernel
theorem dX6_addWork_72 : decode cX6_addWork 72 = .ok (.dup, 1) := by decide +kernel
theorem dX6_addWork_73 : decode cX6_addWork 73 = .ok (.getfield 91, 3) := by decide +kernel
theorem dX6_addWork_76 : decode cX6_addWork 76 = .ok (.iconst 1, 1) := by decide +kernel
theorem dX6_addWork_77 : decode cX6_addWork 77 = .ok (.iadd, 1) := by decide +kernel
theorem dX6_addWork_78 : decode cX6_addWork 78 = .ok (.putfield 91, 3) := by decide +kernel
theorem dX6_addWork_81 : decode cX6_addWork 81 = .ok (.aload_n 0, 1) := by decide +kernel
theorem dX6_addWork_82 : decode cX6_addWork 82 = .ok (.getfield 91, 3) := by decide +kernel
theorem dX6_addWork_85 : decode cX6_addWork 85 = .ok (.iconst 1, 1) := by decide +kernel
theorem dX6_addWork_86 : decode cX6_addWork 86 = .ok (.isub, 1) := by decide +kernel
theorem dX6_addWork_87 : decode cX6_addWork 87 = .ok (.ireturn, 1) := by decide +kernel
theorem dX6_areOne_0 : decode cX6_areOne 0 = .ok (.aload_n 0, 1) := by decide +kernel
theorem dX6_areOne_1 : decode cX6_areOne 1 = .ok (.iload_n 1, 1) := by decide +kernel
theorem dX6_areOne_2 : decode cX6_areOne 2 = .ok (.invokevirtual 155, 3) := by decide +kernel
theorem dX6_areOne_5 : decode cX6_areOne 5 = .ok (.ifCond .eq 14, 3) := by decide +kernel
theorem dX6_areOne_8 : decode cX6_areOne 8 = .ok (.iload_n 2, 1) := by decide +kernel
theorem dX6_areOne_9 : decode cX6_areOne 9 = .ok (.invokestatic 142, 3) := by decide +kernel
theorem dX6_areOne_12 : decode cX6_areOne 12 = .ok (.ifCond .eq 7, 3) := by decide +kernel
theorem dX6_areOne_15 : decode cX6_areOne 15 = .ok (.iconst 1, 1) := by decide +kernel
theorem dX6_areOne_16 : decode cX6_areOne 16 = .ok (.goto 4, 3) := by decide +kernel
theorem dX6_areOne_19 : decode cX6_areOne 19 = .ok (.iconst 0, 1) := by decide +kernel
theorem dX6_areOne_20 : decode cX6_areOne 20 = .ok (.ireturn, 1) := by decide +kernel
theorem dX6_hang_0 : decode cX6_hang 0 = .ok (.aload_n 0, 1) := by decide +kernel
theorem dX6_hang_1 : decode cX6_hang 1 = .ok (.aload_n 0, 1) := by decide +kernel
theorem dX6_hang_2 : decode cX6_hang 2 = .ok (.iload_n 1, 1) := by decide +kernel
theorem dX6_hang_3 : decode cX6_hang 3 = .ok (.iload_n 2, 1) := by decide +kernel
theorem dX6_hang_4 : decode cX6_hang 4 = .ok (.invokevirtual 158, 3) := by decide +kernel
theorem dX6_hang_7 : decode cX6_hang 7 = .ok (.ifCond .ne 7, 3) := by decide +kernel
theorem dX6_hang_10 : decode cX6_hang 10 = .ok (.iconst 1, 1) := by decide +kernel
theorem dX6_hang_11 : decode cX6_hang 11 = .ok (.goto 22, 3) := by decide +kernel
theorem dX6_hang_14 : decode cX6_hang 14 = .ok (.aload_n 0, 1) := by decide +kernel
theorem dX6_hang_15 : decode cX6_hang 15 = .ok (.getfield 53, 3) := by decide +kernel
theorem dX6_hang_18 : decode cX6_hang 18 = .ok (.iload_n 1, 1) := by decide +kernel
theorem dX6_hang_19 : decode cX6_hang 19 = .ok (.iaload, 1) := by decide +kernel
theorem dX6_hang_20 : decode cX6_hang 20 = .ok (.iconst 3, 1) := by decide +kernel
theorem dX6_hang_21 : decode cX6_hang 21 = .ok (.idiv, 1) := by decide +kernel
theorem dX6_hang_22 : decode cX6_hang 22 = .ok (.iload_n 2, 1) := by decide +kernel
theorem dX6_hang_23 : decode cX6_hang 23 = .ok (.iconst 3, 1) := by decide +kernel
theorem dX6_hang_24 : decode cX6_hang 24 = .ok (.idiv, 1) := by decide +kernel
theorem dX6_hang_25 : decode cX6_hang 25 = .ok (.if_icmp .eq 7, 3) := by decide +kernel
theorem dX6_hang_28 : decode cX6_hang 28 = .ok (.iconst 2, 1) := by decide +kernel
theorem dX6_hang_29 : decode cX6_hang 29 = .ok (.goto 4, 3) := by decide +kernel
theorem dX6_hang_32 : decode cX6_hang 32 = .ok (.iconst 0, 1) := by decide +kernel
theorem dX6_hang_33 : decode cX6_hang 33 = .ok (.putfield 81, 3) := by decide +kernel
theorem dX6_hang_36 : decode cX6_hang 36 = .ok (.aload_n 0, 1) := by decide +kernel
theorem dX6_hang_37 : decode cX6_hang 37 = .ok (.getfield 81, 3) := by decide +kernel
theorem dX6_hang_40 : decode cX6_hang 40 = .ok (.ifCond .le 5, 3) := by decide +kernel
theorem dX6_hang_43 : decode cX6_hang 43 = .ok (.iconst 0, 1) := by decide +kernel
theorem dX6_hang_44 : decode cX6_hang 44 = .ok (.ireturn, 1) := by decide +kernel
theorem dX6_hang_45 : decode cX6_hang 45 = .ok (.aload_n 0, 1) := by decide +kernel
theorem dX6_hang_46 : decode cX6_hang 46 = .ok (.getfield 53, 3) := by decide +kernel
theorem dX6_hang_49 : decode cX6_hang 49 = .ok (.iload_n 1, 1) := by decide +kernel
theorem dX6_hang_50 : decode cX6_hang 50 = .ok (.iaload, 1) := by decide +kernel
theorem dX6_hang_51 : decode cX6_hang 51 = .ok (.istore_n 3, 1) := by decide +kernel
theorem dX6_hang_52 : decode cX6_hang 52 = .ok (.aload_n 0, 1) := by decide +kernel
theorem dX6_hang_53 : decode cX6_hang 53 = .ok (.getfield 53, 3) := by decide +kernel
theorem dX6_hang_56 : decode cX6_hang 56 = .ok (.iload_n 1, 1) := by decide +kernel
theorem dX6_hang_57 : decode cX6_hang 57 = .ok (.iload_n 2, 1) := by decide +kernel
theorem dX6_hang_58 : decode cX6_hang 58 = .ok (.iastore, 1) := by decide +kernel
theorem dX6_hang_59 : decode cX6_hang 59 = .ok (.iload_n 3, 1) := by decide +kernel
theorem dX6_hang_60 : decode cX6_hang 60 = .ok (.ireturn, 1) := by decide +kernel
theorem dX6_lend_0 : decode cX6_lend 0 = .ok (.aload_n 0, 1) := by decide +kernel
theorem dX6_lend_1 : decode cX6_lend 1 = .ok (.aload_n 0, 1) := by decide +kernel
theorem dX6_lend_2 : decode cX6_lend 2 = .ok (.iload_n 1, 1) := by decide +kernel
theorem dX6_lend_3 : decode cX6_lend 3 = .ok (.iload_n 2, 1) := by decide +kernel
theorem dX6_lend_4 : decode cX6_lend 4 = .ok (.invokevirtual 158, 3) := by decide +kernel
theorem dX6_lend_7 : decode cX6_lend 7 = .ok (.ifCond .ne 7, 3) := by decide +kernel
theorem dX6_lend_10 : decode cX6_lend 10 = .ok (.iconst 1, 1) := by decide +kernel
theorem dX6_lend_11 : decode cX6_lend 11 = .ok (.goto 44, 3) := by decide +kernel
theorem dX6_lend_14 : decode cX6_lend 14 = .ok (.iload_n 3, 1) := by decide +kernel
theorem dX6_lend_15 : decode cX6_lend 15 = .ok (.iconst 0, 1) := by decide +kernel
theorem dX6_lend_16 : decode cX6_lend 16 = .ok (.sipush 1000, 3) := by decide +kernel
theorem dX6_lend_19 : decode cX6_lend 19 = .ok (.invokestatic 84, 3) := by decide +kernel
theorem dX6_lend_22 : decode cX6_lend 22 = .ok (.ifCond .ne 7, 3) := by decide +kernel
theorem dX6_lend_25 : decode cX6_lend 25 = .ok (.iconst 2, 1) := by decide +kernel
theorem dX6_lend_26 : decode cX6_lend 26 = .ok (.goto 29, 3) := by decide +kernel
theorem dX6_lend_29 : decode cX6_lend 29 = .ok (.aload_n 0, 1) := by decide +kernel
theorem dX6_lend_30 : decode cX6_lend 30 = .ok (.getfield 56, 3) := by decide +kernel
theorem dX6_lend_33 : decode cX6_lend 33 = .ok (.iload_n 1, 1) := by decide +kernel
theorem dX6_lend_34 : decode cX6_lend 34 = .ok (.baload, 1) := by decide +kernel
theorem dX6_lend_35 : decode cX6_lend 35 = .ok (.ifCond .ne 15, 3) := by decide +kernel
theorem dX6_lend_38 : decode cX6_lend 38 = .ok (.iload_n 2, 1) := by decide +kernel
theorem dX6_lend_39 : decode cX6_lend 39 = .ok (.iconst 3, 1) := by decide +kernel
theorem dX6_lend_40 : decode cX6_lend 40 = .ok (.idiv, 1) := by decide +kernel
theorem dX6_lend_41 : decode cX6_lend 41 = .ok (.aload_n 0, 1) := by decide +kernel
theorem dX6_lend_42 : decode cX6_lend 42 = .ok (.getfield 50, 3) := by decide +kernel
theorem dX6_lend_45 : decode cX6_lend 45 = .ok (.iload_n 1, 1) := by decide +kernel
theorem dX6_lend_46 : decode cX6_lend 46 = .ok (.iaload, 1) := by decide +kernel
theorem dX6_lend_47 : decode cX6_lend 47 = .ok (.if_icmp .ne 7, 3) := by decide +kernel
theorem dX6_lend_50 : decode cX6_lend 50 = .ok (.iconst 3, 1) := by decide +kernel
theorem dX6_lend_51 : decode cX6_lend 51 = .ok (.goto 4, 3) := by decide +kernel
theorem dX6_lend_54 : decode cX6_lend 54 = .ok (.iconst 0, 1) := by decide +kernel
theorem dX6_lend_55 : decode cX6_lend 55 = .ok (.putfield 81, 3) := by decide +kernel
theorem dX6_lend_58 : decode cX6_lend 58 = .ok (.aload_n 0, 1) := by decide +kernel
theorem dX6_lend_59 : decode cX6_lend 59 = .ok (.getfield 81, 3) := by decide +kernel
theorem dX6_lend_62 : decode cX6_lend 62 = .ok (.ifCond .le 5, 3) := by decide +kernel
theorem dX6_lend_65 : decode cX6_lend 65 = .ok (.iconst 0, 1) := by decide +kernel
theorem dX6_lend_66 : decode cX6_lend 66 = .ok (.ireturn, 1) := by decide +kernel
theorem dX6_lend_67 : decode cX6_lend 67 = .ok (.aload_n 0, 1) := by decide +kernel
theorem dX6_lend_68 : decode cX6_lend 68 = .ok (.getfield 56, 3) := by decide +kernel
theorem dX6_lend_71 : decode cX6_lend 71 = .ok (.iload_n 1, 1) := by decide +kernel
theorem dX6_lend_72 : decode cX6_lend 72 = .ok (.iconst 1, 1) := by decide +kernel
theorem dX6_lend_73 : decode cX6_lend 73 = .ok (.bastore, 1) := by decide +kernel
theorem dX6_lend_74 : decode cX6_lend 74 = .ok (.aload_n 0, 1) := by decide +kernel
theorem dX6_lend_75 : decode cX6_lend 75 = .ok (.getfield 53, 3) := by decide +kernel
theorem dX6_lend_78 : decode cX6_lend 78 = .ok (.iload_n 1, 1) := by decide +kernel
theorem dX6_lend_79 : decode cX6_lend 79 = .ok (.iload_n 2, 1) := by decide +kernel
theorem dX6_lend_80 : decode cX6_lend 80 = .ok (.iastore, 1) := by decide +kernel
theorem dX6_lend_81 : decode cX6_lend 81 = .ok (.aload_n 0, 1) := by decide +kernel
theorem dX6_lend_82 : decode cX6_lend 82 = .ok (.getfield 59, 3) := by decide +kernel
theorem dX6_lend_85 : decode cX6_lend 85 = .ok (.iload_n 1, 1) := by decide +kernel
theorem dX6_lend_86 : decode cX6_lend 86 = .ok (.iload_n 3, 1) := by decide +kernel
theorem dX6_lend_87 : decode cX6_lend 87 = .ok (.iastore, 1) := by decide +kernel
theorem dX6_lend_88 : decode cX6_lend 88 = .ok (.aload_n 0, 1) := by decide +kernel
theorem dX6_lend_89 : decode cX6_lend 89 = .ok (.getfield 62, 3) := by decide +kernel
theorem dX6_lend_92 : decode cX6_lend 92 = .ok (.iload_n 1, 1) := by decide +kernel
theorem dX6_lend_93 : decode cX6_lend 93 = .ok (.iconst 0, 1) := by decide +kernel
theorem dX6_lend_94 : decode cX6_lend 94 = .ok (.iastore, 1) := by decide +kernel
theorem dX6_lend_95 : decode cX6_lend 95 = .ok (.iload_n 2, 1) := by decide +kernel
theorem dX6_lend_96 : decode cX6_lend 96 = .ok (.iconst 3, 1) := by decide +kernel
theorem dX6_lend_97 : decode cX6_lend 97 = .ok (.idiv, 1) := by decide +kernel
theorem dX6_lend_98 : decode cX6_lend 98 = .ok (.ireturn, 1) := by decide +kernel
theorem dX6_bringHome_0 : decode cX6_bringHome 0 = .ok (.aload_n 0, 1) := by decide +kernel
theorem dX6_bringHome_1 : decode cX6_bringHome 1 = .ok (.aload_n 0, 1) := by decide +kernel
theorem dX6_bringHome_2 : decode cX6_bringHome 2 = .ok (.iload_n 1, 1) := by decide +kernel
theorem dX6_bringHome_3 : decode cX6_bringHome 3 = .ok (.iload_n 2, 1) := by decide +kernel
theorem dX6_bringHome_4 : decode cX6_bringHome 4 = .ok (.invokevirtual 158, 3) := by decide +kernel
theorem dX6_bringHome_7 : decode cX6_bringHome 7 = .ok (.ifCond .ne 7, 3) := by decide +kernel
theorem dX6_bringHome_10 : decode cX6_bringHome 10 = .ok (.iconst 1, 1) := by decide +kernel
theorem dX6_bringHome_11 : decode cX6_bringHome 11 = .ok (.goto 29, 3) := by decide +kernel
theorem dX6_bringHome_14 : decode cX6_bringHome 14 = .ok (.aload_n 0, 1) := by decide +kernel
theorem dX6_bringHome_15 : decode cX6_bringHome 15 = .ok (.getfield 56, 3) := by decide +kernel
theorem dX6_bringHome_18 : decode cX6_bringHome 18 = .ok (.iload_n 1, 1) := by decide +kernel
theorem dX6_bringHome_19 : decode cX6_bringHome 19 = .ok (.baload, 1) := by decide +kernel
theorem dX6_bringHome_20 : decode cX6_bringHome 20 = .ok (.ifCond .eq 15, 3) := by decide +kernel
theorem dX6_bringHome_23 : decode cX6_bringHome 23 = .ok (.iload_n 2, 1) := by decide +kernel
theorem dX6_bringHome_24 : decode cX6_bringHome 24 = .ok (.iconst 3, 1) := by decide +kernel
theorem dX6_bringHome_25 : decode cX6_bringHome 25 = .ok (.idiv, 1) := by decide +kernel
theorem dX6_bringHome_26 : decode cX6_bringHome 26 = .ok (.aload_n 0, 1) := by decide +kernel
theorem dX6_bringHome_27 : decode cX6_bringHome 27 = .ok (.getfield 50, 3) := by decide +kernel
theorem dX6_bringHome_30 : decode cX6_bringHome 30 = .ok (.iload_n 1, 1) := by decide +kernel
theorem dX6_bringHome_31 : decode cX6_bringHome 31 = .ok (.iaload, 1) := by decide +kernel
theorem dX6_bringHome_32 : decode cX6_bringHome 32 = .ok (.if_icmp .eq 7, 3) := by decide +kernel
theorem dX6_bringHome_35 : decode cX6_bringHome 35 = .ok (.iconst 2, 1) := by decide +kernel
theorem dX6_bringHome_36 : decode cX6_bringHome 36 = .ok (.goto 4, 3) := by decide +kernel
theorem dX6_bringHome_39 : decode cX6_bringHome 39 = .ok (.iconst 0, 1) := by decide +kernel
theorem dX6_bringHome_40 : decode cX6_bringHome 40 = .ok (.putfield 81, 3) := by decide +kernel
theorem dX6_bringHome_43 : decode cX6_bringHome 43 = .ok (.aload_n 0, 1) := by decide +kernel
theorem dX6_bringHome_44 : decode cX6_bringHome 44 = .ok (.getfield 81, 3) := by decide +kernel
theorem dX6_bringHome_47 : decode cX6_bringHome 47 = .ok (.ifCond .le 5, 3) := by decide +kernel
theorem dX6_bringHome_50 : decode cX6_bringHome 50 = .ok (.iconst 0, 1) := by decide +kernel
theorem dX6_bringHome_51 : decode cX6_bringHome 51 = .ok (.ireturn, 1) := by decide +kernel
theorem dX6_bringHome_52 : decode cX6_bringHome 52 = .ok (.aload_n 0, 1) := by decide +kernel
theorem dX6_bringHome_53 : decode cX6_bringHome 53 = .ok (.getfield 56, 3) := by decide +kernel
theorem dX6_bringHome_56 : decode cX6_bringHome 56 = .ok (.iload_n 1, 1) := by decide +kernel
theorem dX6_bringHome_57 : decode cX6_bringHome 57 = .ok (.iconst 0, 1) := by decide +kernel
theorem dX6_bringHome_58 : decode cX6_bringHome 58 = .ok (.bastore, 1) := by decide +kernel
theorem dX6_bringHome_59 : decode cX6_bringHome 59 = .ok (.aload_n 0, 1) := by decide +kernel
theorem dX6_bringHome_60 : decode cX6_bringHome 60 = .ok (.getfield 53, 3) := by decide +kernel
theorem dX6_bringHome_63 : decode cX6_bringHome 63 = .ok (.iload_n 1, 1) := by decide +kernel
theorem dX6_bringHome_64 : decode cX6_bringHome 64 = .ok (.iload_n 2, 1) := by decide +kernel
theorem dX6_bringHome_65 : decode cX6_bringHome 65 = .ok (.iastore, 1) := by decide +kernel
theorem dX6_bringHome_66 : decode cX6_bringHome 66 = .ok (.aload_n 0, 1) := by decide +kernel
theorem dX6_bringHome_67 : decode cX6_bringHome 67 = .ok (.getfield 62, 3) := by decide +kernel
theorem dX6_bringHome_70 : decode cX6_bringHome 70 = .ok (.iload_n 1, 1) := by decide +kernel
theorem dX6_bringHome_71 : decode cX6_bringHome 71 = .ok (.iaload, 1) := by decide +kernel
theorem dX6_bringHome_72 : decode cX6_bringHome 72 = .ok (.ireturn, 1) := by decide +kernel
theorem dX6_setShare_0 : decode cX6_setShare 0 = .ok (.aload_n 0, 1) := by decide +kernel
theorem dX6_setShare_1 : decode cX6_setShare 1 = .ok (.aload_n 0, 1) := by decide +kernel
theorem dX6_setShare_2 : decode cX6_setShare 2 = .ok (.iload_n 1, 1) := by decide +kernel
theorem dX6_setShare_3 : decode cX6_setShare 3 = .ok (.invokevirtual 155, 3) := by decide +kernel
theorem dX6_setShare_6 : decode cX6_setShare 6 = .ok (.ifCond .ne 7, 3) := by decide +kernel
theorem dX6_setShare_9 : decode cX6_setShare 9 = .ok (.iconst 1, 1) := by decide +kernel
theorem dX6_setShare_10 : decode cX6_setShare 10 = .ok (.goto 18, 3) := by decide +kernel
theorem dX6_setShare_13 : decode cX6_setShare 13 = .ok (.iload_n 2, 1) := by decide +kernel
theorem dX6_setShare_14 : decode cX6_setShare 14 = .ok (.iconst 0, 1) := by decide +kernel
theorem dX6_setShare_15 : decode cX6_setShare 15 = .ok (.bipush 100, 2) := by decide +kernel
theorem dX6_setShare_17 : decode cX6_setShare 17 = .ok (.invokestatic 84, 3) := by decide +kernel
theorem dX6_setShare_20 : decode cX6_setShare 20 = .ok (.ifCond .ne 7, 3) := by decide +kernel
theorem dX6_setShare_23 : decode cX6_setShare 23 = .ok (.iconst 2, 1) := by decide +kernel
theorem dX6_setShare_24 : decode cX6_setShare 24 = .ok (.goto 4, 3) := by decide +kernel
theorem dX6_setShare_27 : decode cX6_setShare 27 = .ok (.iconst 0, 1) := by decide +kernel
theorem dX6_setShare_28 : decode cX6_setShare 28 = .ok (.putfield 81, 3) := by decide +kernel
theorem dX6_setShare_31 : decode cX6_setShare 31 = .ok (.aload_n 0, 1) := by decide +kernel
theorem dX6_setShare_32 : decode cX6_setShare 32 = .ok (.getfield 81, 3) := by decide +kernel
theorem dX6_setShare_35 : decode cX6_setShare 35 = .ok (.ifCond .le 5, 3) := by decide +kernel
theorem dX6_setShare_38 : decode cX6_setShare 38 = .ok (.iconst 0, 1) := by decide +kernel
theorem dX6_setShare_39 : decode cX6_setShare 39 = .ok (.ireturn, 1) := by decide +kernel
theorem dX6_setShare_40 : decode cX6_setShare 40 = .ok (.aload_n 0, 1) := by decide +kernel
theorem dX6_setShare_41 : decode cX6_setShare 41 = .ok (.getfield 65, 3) := by decide +kernel
theorem dX6_setShare_44 : decode cX6_setShare 44 = .ok (.iload_n 1, 1) := by decide +kernel
theorem dX6_setShare_45 : decode cX6_setShare 45 = .ok (.iaload, 1) := by decide +kernel
theorem dX6_setShare_46 : decode cX6_setShare 46 = .ok (.istore_n 3, 1) := by decide +kernel
theorem dX6_setShare_47 : decode cX6_setShare 47 = .ok (.aload_n 0, 1) := by decide +kernel
theorem dX6_setShare_48 : decode cX6_setShare 48 = .ok (.getfield 65, 3) := by decide +kernel
theorem dX6_setShare_51 : decode cX6_setShare 51 = .ok (.iload_n 1, 1) := by decide +kernel
theorem dX6_setShare_52 : decode cX6_setShare 52 = .ok (.iload_n 2, 1) := by decide +kernel
theorem dX6_setShare_53 : decode cX6_setShare 53 = .ok (.iastore, 1) := by decide +kernel
theorem dX6_setShare_54 : decode cX6_setShare 54 = .ok (.iload_n 3, 1) := by decide +kernel
theorem dX6_setShare_55 : decode cX6_setShare 55 = .ok (.ireturn, 1) := by decide +kernel
theorem dX6_sell_0 : decode cX6_sell 0 = .ok (.aload_n 0, 1) := by decide +kernel
theorem dX6_sell_1 : decode cX6_sell 1 = .ok (.iload_n 1, 1) := by decide +kernel
theorem dX6_sell_2 : decode cX6_sell 2 = .ok (.invokestatic 97, 3) := by decide +kernel
theorem dX6_sell_5 : decode cX6_sell 5 = .ok (.ifCond .eq 11, 3) := by decide +kernel
theorem dX6_sell_8 : decode cX6_sell 8 = .ok (.aload_n 0, 1) := by decide +kernel
theorem dX6_sell_9 : decode cX6_sell 9 = .ok (.iload_n 2, 1) := by decide +kernel
theorem dX6_sell_10 : decode cX6_sell 10 = .ok (.invokevirtual 155, 3) := by decide +kernel
theorem dX6_sell_13 : decode cX6_sell 13 = .ok (.ifCond .ne 7, 3) := by decide +kernel
theorem dX6_sell_16 : decode cX6_sell 16 = .ok (.iconst 1, 1) := by decide +kernel
theorem dX6_sell_17 : decode cX6_sell 17 = .ok (.goto 18, 3) := by decide +kernel
theorem dX6_sell_20 : decode cX6_sell 20 = .ok (.iload_n 3, 1) := by decide +kernel
theorem dX6_sell_21 : decode cX6_sell 21 = .ok (.iconst 1, 1) := by decide +kernel
theorem dX6_sell_22 : decode cX6_sell 22 = .ok (.ldc 161, 2) := by decide +kernel
theorem dX6_sell_24 : decode cX6_sell 24 = .ok (.invokestatic 84, 3) := by decide +kernel
theorem dX6_sell_27 : decode cX6_sell 27 = .ok (.ifCond .ne 7, 3) := by decide +kernel
theorem dX6_sell_30 : decode cX6_sell 30 = .ok (.iconst 2, 1) := by decide +kernel
theorem dX6_sell_31 : decode cX6_sell 31 = .ok (.goto 4, 3) := by decide +kernel
theorem dX6_sell_34 : decode cX6_sell 34 = .ok (.iconst 0, 1) := by decide +kernel
theorem dX6_sell_35 : decode cX6_sell 35 = .ok (.putfield 81, 3) := by decide +kernel
theorem dX6_sell_38 : decode cX6_sell 38 = .ok (.aload_n 0, 1) := by decide +kernel
theorem dX6_sell_39 : decode cX6_sell 39 = .ok (.getfield 81, 3) := by decide +kernel
theorem dX6_sell_42 : decode cX6_sell 42 = .ok (.ifCond .le 5, 3) := by decide +kernel
theorem dX6_sell_45 : decode cX6_sell 45 = .ok (.iconst 0, 1) := by decide +kernel
theorem dX6_sell_46 : decode cX6_sell 46 = .ok (.ireturn, 1) := by decide +kernel
theorem dX6_sell_47 : decode cX6_sell 47 = .ok (.aload_n 0, 1) := by decide +kernel
theorem dX6_sell_48 : decode cX6_sell 48 = .ok (.getfield 50, 3) := by decide +kernel
theorem dX6_sell_51 : decode cX6_sell 51 = .ok (.iload_n 2, 1) := by decide +kernel
theorem dX6_sell_52 : decode cX6_sell 52 = .ok (.iaload, 1) := by decide +kernel
theorem dX6_sell_53 : decode cX6_sell 53 = .ok (.iload_n 1, 1) := by decide +kernel
theorem dX6_sell_54 : decode cX6_sell 54 = .ok (.if_icmp .ne 7, 3) := by decide +kernel
theorem dX6_sell_57 : decode cX6_sell 57 = .ok (.iconst 0, 1) := by decide +kernel
theorem dX6_sell_58 : decode cX6_sell 58 = .ok (.goto 14, 3) := by decide +kernel
theorem dX6_sell_61 : decode cX6_sell 61 = .ok (.iload_n 3, 1) := by decide +kernel
theorem dX6_sell_62 : decode cX6_sell 62 = .ok (.aload_n 0, 1) := by decide +kernel
theorem dX6_sell_63 : decode cX6_sell 63 = .ok (.getfield 65, 3) := by decide +kernel
theorem dX6_sell_66 : decode cX6_sell 66 = .ok (.iload_n 2, 1) := by decide +kernel
theorem dX6_sell_67 : decode cX6_sell 67 = .ok (.iaload, 1) := by decide +kernel
theorem dX6_sell_68 : decode cX6_sell 68 = .ok (.imul, 1) := by decide +kernel
theorem dX6_sell_69 : decode cX6_sell 69 = .ok (.bipush 100, 2) := by decide +kernel
theorem dX6_sell_71 : decode cX6_sell 71 = .ok (.idiv, 1) := by decide +kernel
theorem dX6_sell_72 : decode cX6_sell 72 = .ok (.istore 4, 2) := by decide +kernel
theorem dX6_sell_74 : decode cX6_sell 74 = .ok (.aload_n 0, 1) := by decide +kernel
theorem dX6_sell_75 : decode cX6_sell 75 = .ok (.getfield 71, 3) := by decide +kernel
theorem dX6_sell_78 : decode cX6_sell 78 = .ok (.aload_n 0, 1) := by decide +kernel
theorem dX6_sell_79 : decode cX6_sell 79 = .ok (.getfield 50, 3) := by decide +kernel
theorem dX6_sell_82 : decode cX6_sell 82 = .ok (.iload_n 2, 1) := by decide +kernel
theorem dX6_sell_83 : decode cX6_sell 83 = .ok (.iaload, 1) := by decide +kernel
theorem dX6_sell_84 : decode cX6_sell 84 = .ok (.dup2, 1) := by decide +kernel
theorem dX6_sell_85 : decode cX6_sell 85 = .ok (.iaload, 1) := by decide +kernel
theorem dX6_sell_86 : decode cX6_sell 86 = .ok (.iload 4, 2) := by decide +kernel
theorem dX6_sell_88 : decode cX6_sell 88 = .ok (.iadd, 1) := by decide +kernel
theorem dX6_sell_89 : decode cX6_sell 89 = .ok (.iastore, 1) := by decide +kernel
theorem dX6_sell_90 : decode cX6_sell 90 = .ok (.aload_n 0, 1) := by decide +kernel
theorem dX6_sell_91 : decode cX6_sell 91 = .ok (.getfield 71, 3) := by decide +kernel
theorem dX6_sell_94 : decode cX6_sell 94 = .ok (.iload_n 1, 1) := by decide +kernel
theorem dX6_sell_95 : decode cX6_sell 95 = .ok (.dup2, 1) := by decide +kernel
theorem dX6_sell_96 : decode cX6_sell 96 = .ok (.iaload, 1) := by decide +kernel
theorem dX6_sell_97 : decode cX6_sell 97 = .ok (.iload_n 3, 1) := by decide +kernel
theorem dX6_sell_98 : decode cX6_sell 98 = .ok (.iload 4, 2) := by decide +kernel
theorem dX6_sell_100 : decode cX6_sell 100 = .ok (.isub, 1) := by decide +kernel
theorem dX6_sell_101 : decode cX6_sell 101 = .ok (.iadd, 1) := by decide +kernel
theorem dX6_sell_102 : decode cX6_sell 102 = .ok (.iastore, 1) := by decide +kernel
theorem dX6_sell_103 : decode cX6_sell 103 = .ok (.aload_n 0, 1) := by decide +kernel
theorem dX6_sell_104 : decode cX6_sell 104 = .ok (.dup, 1) := by decide +kernel
theorem dX6_sell_105 : decode cX6_sell 105 = .ok (.getfield 101, 3) := by decide +kernel
theorem dX6_sell_108 : decode cX6_sell 108 = .ok (.iload_n 3, 1) := by decide +kernel
theorem dX6_sell_109 : decode cX6_sell 109 = .ok (.iadd, 1) := by decide +kernel
theorem dX6_sell_110 : decode cX6_sell 110 = .ok (.putfield 101, 3) := by decide +kernel
theorem dX6_sell_113 : decode cX6_sell 113 = .ok (.iload_n 3, 1) := by decide +kernel
theorem dX6_sell_114 : decode cX6_sell 114 = .ok (.iload 4, 2) := by decide +kernel
theorem dX6_sell_116 : decode cX6_sell 116 = .ok (.isub, 1) := by decide +kernel
theorem dX6_sell_117 : decode cX6_sell 117 = .ok (.ireturn, 1) := by decide +kernel
theorem dX6_give_0 : decode cX6_give 0 = .ok (.aload_n 0, 1) := by decide +kernel
theorem dX6_give_1 : decode cX6_give 1 = .ok (.iload_n 1, 1) := by decide +kernel
theorem dX6_give_2 : decode cX6_give 2 = .ok (.invokestatic 97, 3) := by decide +kernel
theorem dX6_give_5 : decode cX6_give 5 = .ok (.ifCond .eq 15, 3) := by decide +kernel
theorem dX6_give_8 : decode cX6_give 8 = .ok (.iload_n 3, 1) := by decide +kernel
theorem dX6_give_9 : decode cX6_give 9 = .ok (.iconst (-1), 1) := by decide +kernel
theorem dX6_give_10 : decode cX6_give 10 = .ok (.if_icmp .eq 14, 3) := by decide +kernel
theorem dX6_give_13 : decode cX6_give 13 = .ok (.iload_n 3, 1) := by decide +kernel
theorem dX6_give_14 : decode cX6_give 14 = .ok (.invokestatic 111, 3) := by decide +kernel
theorem dX6_give_17 : decode cX6_give 17 = .ok (.ifCond .ne 7, 3) := by decide +kernel
theorem dX6_give_20 : decode cX6_give 20 = .ok (.iconst 1, 1) := by decide +kernel
theorem dX6_give_21 : decode cX6_give 21 = .ok (.goto 18, 3) := by decide +kernel
theorem dX6_give_24 : decode cX6_give 24 = .ok (.iload_n 2, 1) := by decide +kernel
theorem dX6_give_25 : decode cX6_give 25 = .ok (.iconst 1, 1) := by decide +kernel
theorem dX6_give_26 : decode cX6_give 26 = .ok (.ldc 161, 2) := by decide +kernel
theorem dX6_give_28 : decode cX6_give 28 = .ok (.invokestatic 84, 3) := by decide +kernel
theorem dX6_give_31 : decode cX6_give 31 = .ok (.ifCond .ne 7, 3) := by decide +kernel
theorem dX6_give_34 : decode cX6_give 34 = .ok (.iconst 2, 1) := by decide +kernel
theorem dX6_give_35 : decode cX6_give 35 = .ok (.goto 4, 3) := by decide +kernel
theorem dX6_give_38 : decode cX6_give 38 = .ok (.iconst 0, 1) := by decide +kernel
theorem dX6_give_39 : decode cX6_give 39 = .ok (.putfield 81, 3) := by decide +kernel
theorem dX6_give_42 : decode cX6_give 42 = .ok (.aload_n 0, 1) := by decide +kernel
theorem dX6_give_43 : decode cX6_give 43 = .ok (.getfield 81, 3) := by decide +kernel
theorem dX6_give_46 : decode cX6_give 46 = .ok (.ifCond .le 5, 3) := by decide +kernel
theorem dX6_give_49 : decode cX6_give 49 = .ok (.iconst 0, 1) := by decide +kernel
theorem dX6_give_50 : decode cX6_give 50 = .ok (.ireturn, 1) := by decide +kernel
theorem dX6_give_51 : decode cX6_give 51 = .ok (.iload_n 3, 1) := by decide +kernel
theorem dX6_give_52 : decode cX6_give 52 = .ok (.iconst (-1), 1) := by decide +kernel
theorem dX6_give_53 : decode cX6_give 53 = .ok (.if_icmp .eq 17, 3) := by decide +kernel
theorem dX6_give_56 : decode cX6_give 56 = .ok (.aload_n 0, 1) := by decide +kernel
theorem dX6_give_57 : decode cX6_give 57 = .ok (.iload_n 3, 1) := by decide +kernel
theorem dX6_give_58 : decode cX6_give 58 = .ok (.invokevirtual 118, 3) := by decide +kernel
theorem dX6_give_61 : decode cX6_give 61 = .ok (.ifCond .eq 9, 3) := by decide +kernel
theorem dX6_give_64 : decode cX6_give 64 = .ok (.iload_n 2, 1) := by decide +kernel
theorem dX6_give_65 : decode cX6_give 65 = .ok (.iconst 4, 1) := by decide +kernel
theorem dX6_give_66 : decode cX6_give 66 = .ok (.idiv, 1) := by decide +kernel
theorem dX6_give_67 : decode cX6_give 67 = .ok (.goto 4, 3) := by decide +kernel
theorem dX6_give_70 : decode cX6_give 70 = .ok (.iconst 0, 1) := by decide +kernel
theorem dX6_give_71 : decode cX6_give 71 = .ok (.istore 4, 2) := by decide +kernel
theorem dX6_give_73 : decode cX6_give 73 = .ok (.aload_n 0, 1) := by decide +kernel
theorem dX6_give_74 : decode cX6_give 74 = .ok (.getfield 71, 3) := by decide +kernel
theorem dX6_give_77 : decode cX6_give 77 = .ok (.iload_n 1, 1) := by decide +kernel
theorem dX6_give_78 : decode cX6_give 78 = .ok (.dup2, 1) := by decide +kernel
theorem dX6_give_79 : decode cX6_give 79 = .ok (.iaload, 1) := by decide +kernel
theorem dX6_give_80 : decode cX6_give 80 = .ok (.iload_n 2, 1) := by decide +kernel
theorem dX6_give_81 : decode cX6_give 81 = .ok (.iload 4, 2) := by decide +kernel
theorem dX6_give_83 : decode cX6_give 83 = .ok (.iadd, 1) := by decide +kernel
theorem dX6_give_84 : decode cX6_give 84 = .ok (.iadd, 1) := by decide +kernel
theorem dX6_give_85 : decode cX6_give 85 = .ok (.iastore, 1) := by decide +kernel
theorem dX6_give_86 : decode cX6_give 86 = .ok (.aload_n 0, 1) := by decide +kernel
theorem dX6_give_87 : decode cX6_give 87 = .ok (.getfield 71, 3) := by decide +kernel
theorem dX6_give_90 : decode cX6_give 90 = .ok (.iconst 4, 1) := by decide +kernel
theorem dX6_give_91 : decode cX6_give 91 = .ok (.dup2, 1) := by decide +kernel
theorem dX6_give_92 : decode cX6_give 92 = .ok (.iaload, 1) := by decide +kernel
theorem dX6_give_93 : decode cX6_give 93 = .ok (.iload 4, 2) := by decide +kernel
theorem dX6_give_95 : decode cX6_give 95 = .ok (.isub, 1) := by decide +kernel
theorem dX6_give_96 : decode cX6_give 96 = .ok (.iastore, 1) := by decide +kernel
theorem dX6_give_97 : decode cX6_give 97 = .ok (.aload_n 0, 1) := by decide +kernel
theorem dX6_give_98 : decode cX6_give 98 = .ok (.dup, 1) := by decide +kernel
theorem dX6_give_99 : decode cX6_give 99 = .ok (.getfield 101, 3) := by decide +kernel
theorem dX6_give_102 : decode cX6_give 102 = .ok (.iload_n 2, 1) := by decide +kernel
theorem dX6_give_103 : decode cX6_give 103 = .ok (.iadd, 1) := by decide +kernel
theorem dX6_give_104 : decode cX6_give 104 = .ok (.putfield 101, 3) := by decide +kernel
theorem dX6_give_107 : decode cX6_give 107 = .ok (.iload_n 2, 1) := by decide +kernel
theorem dX6_give_108 : decode cX6_give 108 = .ok (.iload 4, 2) := by decide +kernel
theorem dX6_give_110 : decode cX6_give 110 = .ok (.iadd, 1) := by decide +kernel
theorem dX6_give_111 : decode cX6_give 111 = .ok (.ireturn, 1) := by decide +kernel
theorem dX6_bits_0 : decode cX6_bits 0 = .ok (.iconst 0, 1) := by decide +kernel
theorem dX6_bits_1 : decode cX6_bits 1 = .ok (.istore_n 1, 1) := by decide +kernel
theorem dX6_bits_2 : decode cX6_bits 2 = .ok (.iconst 0, 1) := by decide +kernel
theorem dX6_bits_3 : decode cX6_bits 3 = .ok (.istore_n 2, 1) := by decide +kernel
theorem dX6_bits_4 : decode cX6_bits 4 = .ok (.iload_n 2, 1) := by decide +kernel
theorem dX6_bits_5 : decode cX6_bits 5 = .ok (.bipush 12, 2) := by decide +kernel
theorem dX6_bits_7 : decode cX6_bits 7 = .ok (.if_icmp .ge 17, 3) := by decide +kernel
theorem dX6_bits_10 : decode cX6_bits 10 = .ok (.iload_n 1, 1) := by decide +kernel
theorem dX6_bits_11 : decode cX6_bits 11 = .ok (.iload_n 0, 1) := by decide +kernel
theorem dX6_bits_12 : decode cX6_bits 12 = .ok (.iload_n 2, 1) := by decide +kernel
theorem dX6_bits_13 : decode cX6_bits 13 = .ok (.ishr, 1) := by decide +kernel
theorem dX6_bits_14 : decode cX6_bits 14 = .ok (.iconst 1, 1) := by decide +kernel
theorem dX6_bits_15 : decode cX6_bits 15 = .ok (.iand, 1) := by decide +kernel
theorem dX6_bits_16 : decode cX6_bits 16 = .ok (.iadd, 1) := by decide +kernel
theorem dX6_bits_17 : decode cX6_bits 17 = .ok (.istore_n 1, 1) := by decide +kernel
theorem dX6_bits_18 : decode cX6_bits 18 = .ok (.iinc 2 1, 3) := by decide +kernel
theorem dX6_bits_21 : decode cX6_bits 21 = .ok (.goto (-17), 3) := by decide +kernel
theorem dX6_bits_24 : decode cX6_bits 24 = .ok (.iload_n 1, 1) := by decide +kernel
theorem dX6_bits_25 : decode cX6_bits 25 = .ok (.ireturn, 1) := by decide +kernel
theorem dX6_share_0 : decode cX6_share 0 = .ok (.iload_n 2, 1) := by decide +kernel
theorem dX6_share_1 : decode cX6_share 1 = .ok (.invokestatic 162, 3) := by decide +kernel
theorem dX6_share_4 : decode cX6_share 4 = .ok (.istore_n 3, 1) := by decide +kernel
theorem dX6_share_5 : decode cX6_share 5 = .ok (.iload_n 3, 1) := by decide +kernel
theorem dX6_share_6 : decode cX6_share 6 = .ok (.ifCond .ne 7, 3) := by decide +kernel
theorem dX6_share_9 : decode cX6_share 9 = .ok (.iconst 0, 1) := by decide +kernel
theorem dX6_share_10 : decode cX6_share 10 = .ok (.goto 6, 3) := by decide +kernel
theorem dX6_share_13 : decode cX6_share 13 = .ok (.iload_n 1, 1) := by decide +kernel
theorem dX6_share_14 : decode cX6_share 14 = .ok (.iload_n 3, 1) := by decide +kernel
theorem dX6_share_15 : decode cX6_share 15 = .ok (.idiv, 1) := by decide +kernel
theorem dX6_share_16 : decode cX6_share 16 = .ok (.istore 4, 2) := by decide +kernel
theorem dX6_share_18 : decode cX6_share 18 = .ok (.iconst 0, 1) := by decide +kernel
theorem dX6_share_19 : decode cX6_share 19 = .ok (.istore 5, 2) := by decide +kernel
theorem dX6_share_21 : decode cX6_share 21 = .ok (.iload 5, 2) := by decide +kernel
theorem dX6_share_23 : decode cX6_share 23 = .ok (.bipush 12, 2) := by decide +kernel
theorem dX6_share_25 : decode cX6_share 25 = .ok (.if_icmp .ge 37, 3) := by decide +kernel
theorem dX6_share_28 : decode cX6_share 28 = .ok (.aload_n 0, 1) := by decide +kernel
theorem dX6_share_29 : decode cX6_share 29 = .ok (.getfield 71, 3) := by decide +kernel
theorem dX6_share_32 : decode cX6_share 32 = .ok (.iload 5, 2) := by decide +kernel
theorem dX6_share_34 : decode cX6_share 34 = .ok (.iconst 3, 1) := by decide +kernel
theorem dX6_share_35 : decode cX6_share 35 = .ok (.idiv, 1) := by decide +kernel
theorem dX6_share_36 : decode cX6_share 36 = .ok (.dup2, 1) := by decide +kernel
theorem dX6_share_37 : decode cX6_share 37 = .ok (.iaload, 1) := by decide +kernel
theorem dX6_share_38 : decode cX6_share 38 = .ok (.iload_n 2, 1) := by decide +kernel
theorem dX6_share_39 : decode cX6_share 39 = .ok (.iload 5, 2) := by decide +kernel
theorem dX6_share_41 : decode cX6_share 41 = .ok (.ishr, 1) := by decide +kernel
theorem dX6_share_42 : decode cX6_share 42 = .ok (.iconst 1, 1) := by decide +kernel
theorem dX6_share_43 : decode cX6_share 43 = .ok (.iand, 1) := by decide +kernel
theorem dX6_share_44 : decode cX6_share 44 = .ok (.iconst 1, 1) := by decide +kernel
theorem dX6_share_45 : decode cX6_share 45 = .ok (.if_icmp .ne 8, 3) := by decide +kernel
theorem dX6_share_48 : decode cX6_share 48 = .ok (.iload 4, 2) := by decide +kernel
theorem dX6_share_50 : decode cX6_share 50 = .ok (.goto 4, 3) := by decide +kernel
theorem dX6_share_53 : decode cX6_share 53 = .ok (.iconst 0, 1) := by decide +kernel
theorem dX6_share_54 : decode cX6_share 54 = .ok (.iadd, 1) := by decide +kernel
theorem dX6_share_55 : decode cX6_share 55 = .ok (.iastore, 1) := by decide +kernel
theorem dX6_share_56 : decode cX6_share 56 = .ok (.iinc 5 1, 3) := by decide +kernel
theorem dX6_share_59 : decode cX6_share 59 = .ok (.goto (-38), 3) := by decide +kernel
theorem dX6_share_62 : decode cX6_share 62 = .ok (.aload_n 0, 1) := by decide +kernel
theorem dX6_share_63 : decode cX6_share 63 = .ok (.getfield 71, 3) := by decide +kernel
theorem dX6_share_66 : decode cX6_share 66 = .ok (.iconst 4, 1) := by decide +kernel
theorem dX6_share_67 : decode cX6_share 67 = .ok (.dup2, 1) := by decide +kernel
theorem dX6_share_68 : decode cX6_share 68 = .ok (.iaload, 1) := by decide +kernel
theorem dX6_share_69 : decode cX6_share 69 = .ok (.iload_n 1, 1) := by decide +kernel
theorem dX6_share_70 : decode cX6_share 70 = .ok (.iload 4, 2) := by decide +kernel
theorem dX6_share_72 : decode cX6_share 72 = .ok (.iload_n 3, 1) := by decide +kernel
theorem dX6_share_73 : decode cX6_share 73 = .ok (.imul, 1) := by decide +kernel
theorem dX6_share_74 : decode cX6_share 74 = .ok (.isub, 1) := by decide +kernel
theorem dX6_share_75 : decode cX6_share 75 = .ok (.iadd, 1) := by decide +kernel
theorem dX6_share_76 : decode cX6_share 76 = .ok (.iastore, 1) := by decide +kernel
theorem dX6_share_77 : decode cX6_share 77 = .ok (.return_, 1) := by decide +kernel
theorem dX6_endDay_0 : decode cX6_endDay 0 = .ok (.iconst 0, 1) := by decide +kernel
theorem dX6_endDay_1 : decode cX6_endDay 1 = .ok (.istore_n 1, 1) := by decide +kernel
theorem dX6_endDay_2 : decode cX6_endDay 2 = .ok (.iload_n 1, 1) := by decide +kernel
theorem dX6_endDay_3 : decode cX6_endDay 3 = .ok (.bipush 12, 2) := by decide +kernel
theorem dX6_endDay_5 : decode cX6_endDay 5 = .ok (.if_icmp .ge 15, 3) := by decide +kernel
theorem dX6_endDay_8 : decode cX6_endDay 8 = .ok (.aload_n 0, 1) := by decide +kernel
theorem dX6_endDay_9 : decode cX6_endDay 9 = .ok (.iload_n 1, 1) := by decide +kernel
theorem dX6_endDay_10 : decode cX6_endDay 10 = .ok (.invokevirtual 149, 3) := by decide +kernel
theorem dX6_endDay_13 : decode cX6_endDay 13 = .ok (.istore_n 2, 1) := by decide +kernel
theorem dX6_endDay_14 : decode cX6_endDay 14 = .ok (.iinc 1 1, 3) := by decide +kernel
theorem dX6_endDay_17 : decode cX6_endDay 17 = .ok (.goto (-15), 3) := by decide +kernel
theorem dX6_endDay_20 : decode cX6_endDay 20 = .ok (.iconst 0, 1) := by decide +kernel
theorem dX6_endDay_21 : decode cX6_endDay 21 = .ok (.istore_n 1, 1) := by decide +kernel
theorem dX6_endDay_22 : decode cX6_endDay 22 = .ok (.iload_n 1, 1) := by decide +kernel
theorem dX6_endDay_23 : decode cX6_endDay 23 = .ok (.aload_n 0, 1) := by decide +kernel
theorem dX6_endDay_24 : decode cX6_endDay 24 = .ok (.getfield 88, 3) := by decide +kernel
theorem dX6_endDay_27 : decode cX6_endDay 27 = .ok (.if_icmp .ge 33, 3) := by decide +kernel
theorem dX6_endDay_30 : decode cX6_endDay 30 = .ok (.aload_n 0, 1) := by decide +kernel
theorem dX6_endDay_31 : decode cX6_endDay 31 = .ok (.iload_n 1, 1) := by decide +kernel
theorem dX6_endDay_32 : decode cX6_endDay 32 = .ok (.invokevirtual 108, 3) := by decide +kernel
theorem dX6_endDay_35 : decode cX6_endDay 35 = .ok (.ifCond .eq 19, 3) := by decide +kernel
theorem dX6_endDay_38 : decode cX6_endDay 38 = .ok (.aload_n 0, 1) := by decide +kernel
theorem dX6_endDay_39 : decode cX6_endDay 39 = .ok (.aload_n 0, 1) := by decide +kernel
theorem dX6_endDay_40 : decode cX6_endDay 40 = .ok (.getfield 28, 3) := by decide +kernel
theorem dX6_endDay_43 : decode cX6_endDay 43 = .ok (.iload_n 1, 1) := by decide +kernel
theorem dX6_endDay_44 : decode cX6_endDay 44 = .ok (.iaload, 1) := by decide +kernel
theorem dX6_endDay_45 : decode cX6_endDay 45 = .ok (.aload_n 0, 1) := by decide +kernel
theorem dX6_endDay_46 : decode cX6_endDay 46 = .ok (.getfield 41, 3) := by decide +kernel
theorem dX6_endDay_49 : decode cX6_endDay 49 = .ok (.iload_n 1, 1) := by decide +kernel
theorem dX6_endDay_50 : decode cX6_endDay 50 = .ok (.iaload, 1) := by decide +kernel
theorem dX6_endDay_51 : decode cX6_endDay 51 = .ok (.invokevirtual 165, 3) := by decide +kernel
theorem dX6_endDay_54 : decode cX6_endDay 54 = .ok (.iinc 1 1, 3) := by decide +kernel
theorem dX6_endDay_57 : decode cX6_endDay 57 = .ok (.goto (-35), 3) := by decide +kernel
theorem dX6_endDay_60 : decode cX6_endDay 60 = .ok (.iconst 0, 1) := by decide +kernel
theorem dX6_endDay_61 : decode cX6_endDay 61 = .ok (.istore_n 1, 1) := by decide +kernel
theorem dX6_endDay_62 : decode cX6_endDay 62 = .ok (.iload_n 1, 1) := by decide +kernel
theorem dX6_endDay_63 : decode cX6_endDay 63 = .ok (.bipush 6, 2) := by decide +kernel
theorem dX6_endDay_65 : decode cX6_endDay 65 = .ok (.if_icmp .ge 84, 3) := by decide +kernel
theorem dX6_endDay_68 : decode cX6_endDay 68 = .ok (.iconst 0, 1) := by decide +kernel
theorem dX6_endDay_69 : decode cX6_endDay 69 = .ok (.istore_n 2, 1) := by decide +kernel
theorem dX6_endDay_70 : decode cX6_endDay 70 = .ok (.iconst 0, 1) := by decide +kernel
theorem dX6_endDay_71 : decode cX6_endDay 71 = .ok (.istore_n 3, 1) := by decide +kernel
theorem dX6_endDay_72 : decode cX6_endDay 72 = .ok (.iload_n 3, 1) := by decide +kernel
theorem dX6_endDay_73 : decode cX6_endDay 73 = .ok (.aload_n 0, 1) := by decide +kernel
theorem dX6_endDay_74 : decode cX6_endDay 74 = .ok (.getfield 88, 3) := by decide +kernel
theorem dX6_endDay_77 : decode cX6_endDay 77 = .ok (.if_icmp .ge 50, 3) := by decide +kernel
theorem dX6_endDay_80 : decode cX6_endDay 80 = .ok (.iload_n 2, 1) := by decide +kernel
theorem dX6_endDay_81 : decode cX6_endDay 81 = .ok (.aload_n 0, 1) := by decide +kernel
theorem dX6_endDay_82 : decode cX6_endDay 82 = .ok (.iload_n 3, 1) := by decide +kernel
theorem dX6_endDay_83 : decode cX6_endDay 83 = .ok (.invokevirtual 108, 3) := by decide +kernel
theorem dX6_endDay_86 : decode cX6_endDay 86 = .ok (.ifCond .eq 32, 3) := by decide +kernel
theorem dX6_endDay_89 : decode cX6_endDay 89 = .ok (.aload_n 0, 1) := by decide +kernel
theorem dX6_endDay_90 : decode cX6_endDay 90 = .ok (.getfield 16, 3) := by decide +kernel
theorem dX6_endDay_93 : decode cX6_endDay 93 = .ok (.iload_n 3, 1) := by decide +kernel
theorem dX6_endDay_94 : decode cX6_endDay 94 = .ok (.iaload, 1) := by decide +kernel
theorem dX6_endDay_95 : decode cX6_endDay 95 = .ok (.iconst 2, 1) := by decide +kernel
theorem dX6_endDay_96 : decode cX6_endDay 96 = .ok (.if_icmp .ne 22, 3) := by decide +kernel
theorem dX6_endDay_99 : decode cX6_endDay 99 = .ok (.aload_n 0, 1) := by decide +kernel
theorem dX6_endDay_100 : decode cX6_endDay 100 = .ok (.getfield 22, 3) := by decide +kernel
theorem dX6_endDay_103 : decode cX6_endDay 103 = .ok (.iload_n 3, 1) := by decide +kernel
theorem dX6_endDay_104 : decode cX6_endDay 104 = .ok (.iaload, 1) := by decide +kernel
theorem dX6_endDay_105 : decode cX6_endDay 105 = .ok (.iload_n 1, 1) := by decide +kernel
theorem dX6_endDay_106 : decode cX6_endDay 106 = .ok (.if_icmp .ne 12, 3) := by decide +kernel
theorem dX6_endDay_109 : decode cX6_endDay 109 = .ok (.aload_n 0, 1) := by decide +kernel
theorem dX6_endDay_110 : decode cX6_endDay 110 = .ok (.getfield 41, 3) := by decide +kernel
theorem dX6_endDay_113 : decode cX6_endDay 113 = .ok (.iload_n 3, 1) := by decide +kernel
theorem dX6_endDay_114 : decode cX6_endDay 114 = .ok (.iaload, 1) := by decide +kernel
theorem dX6_endDay_115 : decode cX6_endDay 115 = .ok (.goto 4, 3) := by decide +kernel
theorem dX6_endDay_118 : decode cX6_endDay 118 = .ok (.iconst 0, 1) := by decide +kernel
theorem dX6_endDay_119 : decode cX6_endDay 119 = .ok (.ior, 1) := by decide +kernel
theorem dX6_endDay_120 : decode cX6_endDay 120 = .ok (.istore_n 2, 1) := by decide +kernel
theorem dX6_endDay_121 : decode cX6_endDay 121 = .ok (.iinc 3 1, 3) := by decide +kernel
theorem dX6_endDay_124 : decode cX6_endDay 124 = .ok (.goto (-52), 3) := by decide +kernel
theorem dX6_endDay_127 : decode cX6_endDay 127 = .ok (.aload_n 0, 1) := by decide +kernel
theorem dX6_endDay_128 : decode cX6_endDay 128 = .ok (.iload_n 1, 1) := by decide +kernel
theorem dX6_endDay_129 : decode cX6_endDay 129 = .ok (.invokevirtual 118, 3) := by decide +kernel
theorem dX6_endDay_132 : decode cX6_endDay 132 = .ok (.ifCond .eq 11, 3) := by decide +kernel
theorem dX6_endDay_135 : decode cX6_endDay 135 = .ok (.aload_n 0, 1) := by decide +kernel
theorem dX6_endDay_136 : decode cX6_endDay 136 = .ok (.sipush 200, 3) := by decide +kernel
theorem dX6_endDay_139 : decode cX6_endDay 139 = .ok (.iload_n 2, 1) := by decide +kernel
theorem dX6_endDay_140 : decode cX6_endDay 140 = .ok (.invokevirtual 165, 3) := by decide +kernel
theorem dX6_endDay_143 : decode cX6_endDay 143 = .ok (.iinc 1 1, 3) := by decide +kernel
theorem dX6_endDay_146 : decode cX6_endDay 146 = .ok (.goto (-84), 3) := by decide +kernel
theorem dX6_endDay_149 : decode cX6_endDay 149 = .ok (.aload_n 0, 1) := by decide +kernel
theorem dX6_endDay_150 : decode cX6_endDay 150 = .ok (.dup, 1) := by decide +kernel
theorem dX6_endDay_151 : decode cX6_endDay 151 = .ok (.getfield 94, 3) := by decide +kernel
theorem dX6_endDay_154 : decode cX6_endDay 154 = .ok (.iconst 1, 1) := by decide +kernel
theorem dX6_endDay_155 : decode cX6_endDay 155 = .ok (.iadd, 1) := by decide +kernel
theorem dX6_endDay_156 : decode cX6_endDay 156 = .ok (.putfield 94, 3) := by decide +kernel
theorem dX6_endDay_159 : decode cX6_endDay 159 = .ok (.return_, 1) := by decide +kernel
theorem dX6_advance_0 : decode cX6_advance 0 = .ok (.aload_n 0, 1) := by decide +kernel
theorem dX6_advance_1 : decode cX6_advance 1 = .ok (.iload_n 1, 1) := by decide +kernel
theorem dX6_advance_2 : decode cX6_advance 2 = .ok (.iconst 1, 1) := by decide +kernel
theorem dX6_advance_3 : decode cX6_advance 3 = .ok (.bipush 60, 2) := by decide +kernel
theorem dX6_advance_5 : decode cX6_advance 5 = .ok (.invokestatic 84, 3) := by decide +kernel
theorem dX6_advance_8 : decode cX6_advance 8 = .ok (.ifCond .ne 7, 3) := by decide +kernel
theorem dX6_advance_11 : decode cX6_advance 11 = .ok (.iconst 1, 1) := by decide +kernel
theorem dX6_advance_12 : decode cX6_advance 12 = .ok (.goto 20, 3) := by decide +kernel
theorem dX6_advance_15 : decode cX6_advance 15 = .ok (.aload_n 0, 1) := by decide +kernel
theorem dX6_advance_16 : decode cX6_advance 16 = .ok (.getfield 94, 3) := by decide +kernel
theorem dX6_advance_19 : decode cX6_advance 19 = .ok (.iload_n 1, 1) := by decide +kernel
theorem dX6_advance_20 : decode cX6_advance 20 = .ok (.iadd, 1) := by decide +kernel
theorem dX6_advance_21 : decode cX6_advance 21 = .ok (.sipush 2000, 3) := by decide +kernel
theorem dX6_advance_24 : decode cX6_advance 24 = .ok (.if_icmp .le 7, 3) := by decide +kernel
theorem dX6_advance_27 : decode cX6_advance 27 = .ok (.iconst 2, 1) := by decide +kernel
theorem dX6_advance_28 : decode cX6_advance 28 = .ok (.goto 4, 3) := by decide +kernel
theorem dX6_advance_31 : decode cX6_advance 31 = .ok (.iconst 0, 1) := by decide +kernel
theorem dX6_advance_32 : decode cX6_advance 32 = .ok (.putfield 81, 3) := by decide +kernel
theorem dX6_advance_35 : decode cX6_advance 35 = .ok (.iconst 0, 1) := by decide +kernel
theorem dX6_advance_36 : decode cX6_advance 36 = .ok (.istore_n 2, 1) := by decide +kernel
theorem dX6_advance_37 : decode cX6_advance 37 = .ok (.iload_n 2, 1) := by decide +kernel
theorem dX6_advance_38 : decode cX6_advance 38 = .ok (.iload_n 1, 1) := by decide +kernel
theorem dX6_advance_39 : decode cX6_advance 39 = .ok (.if_icmp .ge 20, 3) := by decide +kernel
theorem dX6_advance_42 : decode cX6_advance 42 = .ok (.aload_n 0, 1) := by decide +kernel
theorem dX6_advance_43 : decode cX6_advance 43 = .ok (.getfield 81, 3) := by decide +kernel
theorem dX6_advance_46 : decode cX6_advance 46 = .ok (.ifCond .ne 13, 3) := by decide +kernel
theorem dX6_advance_49 : decode cX6_advance 49 = .ok (.aload_n 0, 1) := by decide +kernel
theorem dX6_advance_50 : decode cX6_advance 50 = .ok (.invokevirtual 168, 3) := by decide +kernel
theorem dX6_advance_53 : decode cX6_advance 53 = .ok (.iinc 2 1, 3) := by decide +kernel
theorem dX6_advance_56 : decode cX6_advance 56 = .ok (.goto (-19), 3) := by decide +kernel
theorem dX6_advance_59 : decode cX6_advance 59 = .ok (.aload_n 0, 1) := by decide +kernel
theorem dX6_advance_60 : decode cX6_advance 60 = .ok (.getfield 81, 3) := by decide +kernel
theorem dX6_advance_63 : decode cX6_advance 63 = .ok (.ifCond .ne 10, 3) := by decide +kernel
theorem dX6_advance_66 : decode cX6_advance 66 = .ok (.aload_n 0, 1) := by decide +kernel
theorem dX6_advance_67 : decode cX6_advance 67 = .ok (.getfield 94, 3) := by decide +kernel
theorem dX6_advance_70 : decode cX6_advance 70 = .ok (.goto 4, 3) := by decide +kernel
theorem dX6_advance_73 : decode cX6_advance 73 = .ok (.iconst 0, 1) := by decide +kernel
theorem dX6_advance_74 : decode cX6_advance 74 = .ok (.ireturn, 1) := by decide +kernel
theorem dX6_day_0 : decode cX6_day 0 = .ok (.aload_n 0, 1) := by decide +kernel
theorem dX6_day_1 : decode cX6_day 1 = .ok (.iconst 0, 1) := by decide +kernel
theorem dX6_day_2 : decode cX6_day 2 = .ok (.putfield 81, 3) := by decide +kernel
theorem dX6_day_5 : decode cX6_day 5 = .ok (.aload_n 0, 1) := by decide +kernel
theorem dX6_day_6 : decode cX6_day 6 = .ok (.getfield 94, 3) := by decide +kernel
theorem dX6_day_9 : decode cX6_day 9 = .ok (.ireturn, 1) := by decide +kernel
theorem dX6_tickets_0 : decode cX6_tickets 0 = .ok (.aload_n 0, 1) := by decide +kernel
theorem dX6_tickets_1 : decode cX6_tickets 1 = .ok (.iconst 0, 1) := by decide +kernel
theorem dX6_tickets_2 : decode cX6_tickets 2 = .ok (.putfield 81, 3) := by decide +kernel
theorem dX6_tickets_5 : decode cX6_tickets 5 = .ok (.aload_n 0, 1) := by decide +kernel
theorem dX6_tickets_6 : decode cX6_tickets 6 = .ok (.getfield 88, 3) := by decide +kernel
theorem dX6_tickets_9 : decode cX6_tickets 9 = .ok (.ireturn, 1) := by decide +kernel
theorem dX6_whereIs_0 : decode cX6_whereIs 0 = .ok (.aload_n 0, 1) := by decide +kernel
theorem dX6_whereIs_1 : decode cX6_whereIs 1 = .ok (.aload_n 0, 1) := by decide +kernel
theorem dX6_whereIs_2 : decode cX6_whereIs 2 = .ok (.iload_n 1, 1) := by decide +kernel
theorem dX6_whereIs_3 : decode cX6_whereIs 3 = .ok (.invokevirtual 121, 3) := by decide +kernel
theorem dX6_whereIs_6 : decode cX6_whereIs 6 = .ok (.ifCond .eq 7, 3) := by decide +kernel
theorem dX6_whereIs_9 : decode cX6_whereIs 9 = .ok (.iconst 0, 1) := by decide +kernel
theorem dX6_whereIs_10 : decode cX6_whereIs 10 = .ok (.goto 4, 3) := by decide +kernel
theorem dX6_whereIs_13 : decode cX6_whereIs 13 = .ok (.iconst 1, 1) := by decide +kernel
theorem dX6_whereIs_14 : decode cX6_whereIs 14 = .ok (.putfield 81, 3) := by decide +kernel
theorem dX6_whereIs_17 : decode cX6_whereIs 17 = .ok (.aload_n 0, 1) := by decide +kernel
theorem dX6_whereIs_18 : decode cX6_whereIs 18 = .ok (.getfield 81, 3) := by decide +kernel
theorem dX6_whereIs_21 : decode cX6_whereIs 21 = .ok (.ifCond .ne 12, 3) := by decide +kernel
theorem dX6_whereIs_24 : decode cX6_whereIs 24 = .ok (.aload_n 0, 1) := by decide +kernel
theorem dX6_whereIs_25 : decode cX6_whereIs 25 = .ok (.getfield 35, 3) := by decide +kernel
theorem dX6_whereIs_28 : decode cX6_whereIs 28 = .ok (.iload_n 1, 1) := by decide +kernel
theorem dX6_whereIs_29 : decode cX6_whereIs 29 = .ok (.iaload, 1) := by decide +kernel
theorem dX6_whereIs_30 : decode cX6_whereIs 30 = .ok (.goto 4, 3) := by decide +kernel
theorem dX6_whereIs_33 : decode cX6_whereIs 33 = .ok (.iconst 0, 1) := by decide +kernel
theorem dX6_whereIs_34 : decode cX6_whereIs 34 = .ok (.ireturn, 1) := by decide +kernel
theorem dX6_seen_0 : decode cX6_seen 0 = .ok (.aload_n 0, 1) := by decide +kernel
theorem dX6_seen_1 : decode cX6_seen 1 = .ok (.aload_n 0, 1) := by decide +kernel
theorem dX6_seen_2 : decode cX6_seen 2 = .ok (.iload_n 1, 1) := by decide +kernel
theorem dX6_seen_3 : decode cX6_seen 3 = .ok (.invokevirtual 121, 3) := by decide +kernel
theorem dX6_seen_6 : decode cX6_seen 6 = .ok (.ifCond .eq 7, 3) := by decide +kernel
theorem dX6_seen_9 : decode cX6_seen 9 = .ok (.iconst 0, 1) := by decide +kernel
theorem dX6_seen_10 : decode cX6_seen 10 = .ok (.goto 4, 3) := by decide +kernel
theorem dX6_seen_13 : decode cX6_seen 13 = .ok (.iconst 1, 1) := by decide +kernel
theorem dX6_seen_14 : decode cX6_seen 14 = .ok (.putfield 81, 3) := by decide +kernel
theorem dX6_seen_17 : decode cX6_seen 17 = .ok (.aload_n 0, 1) := by decide +kernel
theorem dX6_seen_18 : decode cX6_seen 18 = .ok (.getfield 81, 3) := by decide +kernel
theorem dX6_seen_21 : decode cX6_seen 21 = .ok (.ifCond .ne 12, 3) := by decide +kernel
theorem dX6_seen_24 : decode cX6_seen 24 = .ok (.aload_n 0, 1) := by decide +kernel
theorem dX6_seen_25 : decode cX6_seen 25 = .ok (.getfield 41, 3) := by decide +kernel
theorem dX6_seen_28 : decode cX6_seen 28 = .ok (.iload_n 1, 1) := by decide +kernel
theorem dX6_seen_29 : decode cX6_seen 29 = .ok (.iaload, 1) := by decide +kernel
theorem dX6_seen_30 : decode cX6_seen 30 = .ok (.goto 4, 3) := by decide +kernel
theorem dX6_seen_33 : decode cX6_seen 33 = .ok (.iconst 0, 1) := by decide +kernel
theorem dX6_seen_34 : decode cX6_seen 34 = .ok (.ireturn, 1) := by decide +kernel
theorem dX6_inside_0 : decode cX6_inside 0 = .ok (.aload_n 0, 1) := by decide +kernel
theorem dX6_inside_1 : decode cX6_inside 1 = .ok (.iload_n 1, 1) := by decide +kernel
theorem dX6_inside_2 : decode cX6_inside 2 = .ok (.invokestatic 142, 3) := by decide +kernel
theorem dX6_inside_5 : decode cX6_inside 5 = .ok (.ifCond .eq 7, 3) := by decide +kernel
theorem dX6_inside_8 : decode cX6_inside 8 = .ok (.iconst 0, 1) := by decide +kernel
theorem dX6_inside_9 : decode cX6_inside 9 = .ok (.goto 4, 3) := by decide +kernel
theorem dX6_inside_12 : decode cX6_inside 12 = .ok (.iconst 1, 1) := by decide +kernel
theorem dX6_inside_13 : decode cX6_inside 13 = .ok (.putfield 81, 3) := by decide +kernel
theorem dX6_inside_16 : decode cX6_inside 16 = .ok (.aload_n 0, 1) := by decide +kernel
theorem dX6_inside_17 : decode cX6_inside 17 = .ok (.getfield 81, 3) := by decide +kernel
theorem dX6_inside_20 : decode cX6_inside 20 = .ok (.ifCond .ne 11, 3) := by decide +kernel
theorem dX6_inside_23 : decode cX6_inside 23 = .ok (.aload_n 0, 1) := by decide +kernel
theorem dX6_inside_24 : decode cX6_inside 24 = .ok (.iload_n 1, 1) := by decide +kernel
theorem dX6_inside_25 : decode cX6_inside 25 = .ok (.invokevirtual 134, 3) := by decide +kernel
theorem dX6_inside_28 : decode cX6_inside 28 = .ok (.goto 4, 3) := by decide +kernel
theorem dX6_inside_31 : decode cX6_inside 31 = .ok (.iconst 0, 1) := by decide +kernel
theorem dX6_inside_32 : decode cX6_inside 32 = .ok (.ireturn, 1) := by decide +kernel
theorem dX6_queued_0 : decode cX6_queued 0 = .ok (.aload_n 0, 1) := by decide +kernel
theorem dX6_queued_1 : decode cX6_queued 1 = .ok (.iload_n 1, 1) := by decide +kernel
theorem dX6_queued_2 : decode cX6_queued 2 = .ok (.invokestatic 142, 3) := by decide +kernel
theorem dX6_queued_5 : decode cX6_queued 5 = .ok (.ifCond .eq 11, 3) := by decide +kernel
theorem dX6_queued_8 : decode cX6_queued 8 = .ok (.iload_n 2, 1) := by decide +kernel
theorem dX6_queued_9 : decode cX6_queued 9 = .ok (.ifCond .lt 7, 3) := by decide +kernel
theorem dX6_queued_12 : decode cX6_queued 12 = .ok (.iconst 0, 1) := by decide +kernel
theorem dX6_queued_13 : decode cX6_queued 13 = .ok (.goto 4, 3) := by decide +kernel
theorem dX6_queued_16 : decode cX6_queued 16 = .ok (.iconst 1, 1) := by decide +kernel
theorem dX6_queued_17 : decode cX6_queued 17 = .ok (.putfield 81, 3) := by decide +kernel
theorem dX6_queued_20 : decode cX6_queued 20 = .ok (.aload_n 0, 1) := by decide +kernel
theorem dX6_queued_21 : decode cX6_queued 21 = .ok (.getfield 81, 3) := by decide +kernel
theorem dX6_queued_24 : decode cX6_queued 24 = .ok (.ifCond .ne 12, 3) := by decide +kernel
theorem dX6_queued_27 : decode cX6_queued 27 = .ok (.aload_n 0, 1) := by decide +kernel
theorem dX6_queued_28 : decode cX6_queued 28 = .ok (.iload_n 1, 1) := by decide +kernel
theorem dX6_queued_29 : decode cX6_queued 29 = .ok (.iload_n 2, 1) := by decide +kernel
theorem dX6_queued_30 : decode cX6_queued 30 = .ok (.invokevirtual 131, 3) := by decide +kernel
theorem dX6_queued_33 : decode cX6_queued 33 = .ok (.goto 4, 3) := by decide +kernel
theorem dX6_queued_36 : decode cX6_queued 36 = .ok (.iconst 0, 1) := by decide +kernel
theorem dX6_queued_37 : decode cX6_queued 37 = .ok (.ireturn, 1) := by decide +kernel
theorem dX6_views_0 : decode cX6_views 0 = .ok (.aload_n 0, 1) := by decide +kernel
theorem dX6_views_1 : decode cX6_views 1 = .ok (.aload_n 0, 1) := by decide +kernel
theorem dX6_views_2 : decode cX6_views 2 = .ok (.iload_n 1, 1) := by decide +kernel
theorem dX6_views_3 : decode cX6_views 3 = .ok (.invokevirtual 155, 3) := by decide +kernel
theorem dX6_views_6 : decode cX6_views 6 = .ok (.ifCond .eq 7, 3) := by decide +kernel
theorem dX6_views_9 : decode cX6_views 9 = .ok (.iconst 0, 1) := by decide +kernel
theorem dX6_views_10 : decode cX6_views 10 = .ok (.goto 4, 3) := by decide +kernel
theorem dX6_views_13 : decode cX6_views 13 = .ok (.iconst 1, 1) := by decide +kernel
theorem dX6_views_14 : decode cX6_views 14 = .ok (.putfield 81, 3) := by decide +kernel
theorem dX6_views_17 : decode cX6_views 17 = .ok (.aload_n 0, 1) := by decide +kernel
theorem dX6_views_18 : decode cX6_views 18 = .ok (.getfield 81, 3) := by decide +kernel
theorem dX6_views_21 : decode cX6_views 21 = .ok (.ifCond .ne 12, 3) := by decide +kernel
theorem dX6_views_24 : decode cX6_views 24 = .ok (.aload_n 0, 1) := by decide +kernel
theorem dX6_views_25 : decode cX6_views 25 = .ok (.getfield 68, 3) := by decide +kernel
theorem dX6_views_28 : decode cX6_views 28 = .ok (.iload_n 1, 1) := by decide +kernel
theorem dX6_views_29 : decode cX6_views 29 = .ok (.iaload, 1) := by decide +kernel
theorem dX6_views_30 : decode cX6_views 30 = .ok (.goto 4, 3) := by decide +kernel
theorem dX6_views_33 : decode cX6_views 33 = .ok (.iconst 0, 1) := by decide +kernel
theorem dX6_views_34 : decode cX6_views 34 = .ok (.ireturn, 1) := by decide +kernel
theorem dX6_put_0 : decode cX6_put 0 = .ok (.aload_n 0, 1) := by decide +kernel
theorem dX6_put_1 : decode cX6_put 1 = .ok (.getfield 74, 3) := by decide +kernel
theorem dX6_put_4 : decode cX6_put 4 = .ok (.aload_n 0, 1) := by decide +kernel
theorem dX6_put_5 : decode cX6_put 5 = .ok (.getfield 171, 3) := by decide +kernel
theorem dX6_put_8 : decode cX6_put 8 = .ok (.iload_n 1, 1) := by decide +kernel
theorem dX6_put_9 : decode cX6_put 9 = .ok (.iastore, 1) := by decide +kernel
theorem dX6_put_10 : decode cX6_put 10 = .ok (.aload_n 0, 1) := by decide +kernel
theorem dX6_put_11 : decode cX6_put 11 = .ok (.dup, 1) := by decide +kernel
theorem dX6_put_12 : decode cX6_put 12 = .ok (.getfield 171, 3) := by decide +kernel
theorem dX6_put_15 : decode cX6_put 15 = .ok (.iconst 1, 1) := by decide +kernel
theorem dX6_put_16 : decode cX6_put 16 = .ok (.iadd, 1) := by decide +kernel
theorem dX6_put_17 : decode cX6_put 17 = .ok (.putfield 171, 3) := by decide +kernel
theorem dX6_put_20 : decode cX6_put 20 = .ok (.return_, 1) := by decide +kernel
theorem dX6_putNumber_0 : decode cX6_putNumber 0 = .ok (.sipush 1000, 3) := by decide +kernel
theorem dX6_putNumber_3 : decode cX6_putNumber 3 = .ok (.istore_n 2, 1) := by decide +kernel
theorem dX6_putNumber_4 : decode cX6_putNumber 4 = .ok (.iload_n 2, 1) := by decide +kernel
theorem dX6_putNumber_5 : decode cX6_putNumber 5 = .ok (.ifCond .le 34, 3) := by decide +kernel
theorem dX6_putNumber_8 : decode cX6_putNumber 8 = .ok (.iload_n 1, 1) := by decide +kernel
theorem dX6_putNumber_9 : decode cX6_putNumber 9 = .ok (.iload_n 2, 1) := by decide +kernel
theorem dX6_putNumber_10 : decode cX6_putNumber 10 = .ok (.if_icmp .ge 8, 3) := by decide +kernel
theorem dX6_putNumber_13 : decode cX6_putNumber 13 = .ok (.iload_n 2, 1) := by decide +kernel
theorem dX6_putNumber_14 : decode cX6_putNumber 14 = .ok (.iconst 1, 1) := by decide +kernel
theorem dX6_putNumber_15 : decode cX6_putNumber 15 = .ok (.if_icmp .ne 16, 3) := by decide +kernel
theorem dX6_putNumber_18 : decode cX6_putNumber 18 = .ok (.aload_n 0, 1) := by decide +kernel
theorem dX6_putNumber_19 : decode cX6_putNumber 19 = .ok (.bipush 48, 2) := by decide +kernel
theorem dX6_putNumber_21 : decode cX6_putNumber 21 = .ok (.iload_n 1, 1) := by decide +kernel
theorem dX6_putNumber_22 : decode cX6_putNumber 22 = .ok (.iload_n 2, 1) := by decide +kernel
theorem dX6_putNumber_23 : decode cX6_putNumber 23 = .ok (.idiv, 1) := by decide +kernel
theorem dX6_putNumber_24 : decode cX6_putNumber 24 = .ok (.bipush 10, 2) := by decide +kernel
theorem dX6_putNumber_26 : decode cX6_putNumber 26 = .ok (.irem, 1) := by decide +kernel
theorem dX6_putNumber_27 : decode cX6_putNumber 27 = .ok (.iadd, 1) := by decide +kernel
theorem dX6_putNumber_28 : decode cX6_putNumber 28 = .ok (.invokevirtual 174, 3) := by decide +kernel
theorem dX6_putNumber_31 : decode cX6_putNumber 31 = .ok (.iload_n 2, 1) := by decide +kernel
theorem dX6_putNumber_32 : decode cX6_putNumber 32 = .ok (.bipush 10, 2) := by decide +kernel
theorem dX6_putNumber_34 : decode cX6_putNumber 34 = .ok (.idiv, 1) := by decide +kernel
theorem dX6_putNumber_35 : decode cX6_putNumber 35 = .ok (.istore_n 2, 1) := by decide +kernel
theorem dX6_putNumber_36 : decode cX6_putNumber 36 = .ok (.goto (-32), 3) := by decide +kernel
theorem dX6_putNumber_39 : decode cX6_putNumber 39 = .ok (.return_, 1) := by decide +kernel
theorem dX6_titleAt_0 : decode cX6_titleAt 0 = .ok (.aload_n 0, 1) := by decide +kernel
theorem dX6_titleAt_1 : decode cX6_titleAt 1 = .ok (.aload_n 0, 1) := by decide +kernel
theorem dX6_titleAt_2 : decode cX6_titleAt 2 = .ok (.iload_n 1, 1) := by decide +kernel
theorem dX6_titleAt_3 : decode cX6_titleAt 3 = .ok (.invokevirtual 155, 3) := by decide +kernel
theorem dX6_titleAt_6 : decode cX6_titleAt 6 = .ok (.ifCond .eq 11, 3) := by decide +kernel
theorem dX6_titleAt_9 : decode cX6_titleAt 9 = .ok (.iload_n 2, 1) := by decide +kernel
theorem dX6_titleAt_10 : decode cX6_titleAt 10 = .ok (.ifCond .lt 7, 3) := by decide +kernel
theorem dX6_titleAt_13 : decode cX6_titleAt 13 = .ok (.iconst 0, 1) := by decide +kernel
theorem dX6_titleAt_14 : decode cX6_titleAt 14 = .ok (.goto 4, 3) := by decide +kernel
theorem dX6_titleAt_17 : decode cX6_titleAt 17 = .ok (.iconst 1, 1) := by decide +kernel
theorem dX6_titleAt_18 : decode cX6_titleAt 18 = .ok (.putfield 81, 3) := by decide +kernel
theorem dX6_titleAt_21 : decode cX6_titleAt 21 = .ok (.aload_n 0, 1) := by decide +kernel
theorem dX6_titleAt_22 : decode cX6_titleAt 22 = .ok (.getfield 81, 3) := by decide +kernel
theorem dX6_titleAt_25 : decode cX6_titleAt 25 = .ok (.ifCond .le 5, 3) := by decide +kernel
theorem dX6_titleAt_28 : decode cX6_titleAt 28 = .ok (.iconst 0, 1) := by decide +kernel
theorem dX6_titleAt_29 : decode cX6_titleAt 29 = .ok (.ireturn, 1) := by decide +kernel
theorem dX6_titleAt_30 : decode cX6_titleAt 30 = .ok (.aload_n 0, 1) := by decide +kernel
theorem dX6_titleAt_31 : decode cX6_titleAt 31 = .ok (.iconst 0, 1) := by decide +kernel
theorem dX6_titleAt_32 : decode cX6_titleAt 32 = .ok (.putfield 171, 3) := by decide +kernel
theorem dX6_titleAt_35 : decode cX6_titleAt 35 = .ok (.aload_n 0, 1) := by decide +kernel
theorem dX6_titleAt_36 : decode cX6_titleAt 36 = .ok (.bipush 65, 2) := by decide +kernel
theorem dX6_titleAt_38 : decode cX6_titleAt 38 = .ok (.aload_n 0, 1) := by decide +kernel
theorem dX6_titleAt_39 : decode cX6_titleAt 39 = .ok (.getfield 50, 3) := by decide +kernel
theorem dX6_titleAt_42 : decode cX6_titleAt 42 = .ok (.iload_n 1, 1) := by decide +kernel
theorem dX6_titleAt_43 : decode cX6_titleAt 43 = .ok (.iaload, 1) := by decide +kernel
theorem dX6_titleAt_44 : decode cX6_titleAt 44 = .ok (.iadd, 1) := by decide +kernel
theorem dX6_titleAt_45 : decode cX6_titleAt 45 = .ok (.invokevirtual 174, 3) := by decide +kernel
theorem dX6_titleAt_48 : decode cX6_titleAt 48 = .ok (.aload_n 0, 1) := by decide +kernel
theorem dX6_titleAt_49 : decode cX6_titleAt 49 = .ok (.iload_n 1, 1) := by decide +kernel
theorem dX6_titleAt_50 : decode cX6_titleAt 50 = .ok (.invokevirtual 177, 3) := by decide +kernel
theorem dX6_titleAt_53 : decode cX6_titleAt 53 = .ok (.aload_n 0, 1) := by decide +kernel
theorem dX6_titleAt_54 : decode cX6_titleAt 54 = .ok (.bipush 64, 2) := by decide +kernel
theorem dX6_titleAt_56 : decode cX6_titleAt 56 = .ok (.invokevirtual 174, 3) := by decide +kernel
theorem dX6_titleAt_59 : decode cX6_titleAt 59 = .ok (.aload_n 0, 1) := by decide +kernel
theorem dX6_titleAt_60 : decode cX6_titleAt 60 = .ok (.aload_n 0, 1) := by decide +kernel
theorem dX6_titleAt_61 : decode cX6_titleAt 61 = .ok (.getfield 53, 3) := by decide +kernel
theorem dX6_titleAt_64 : decode cX6_titleAt 64 = .ok (.iload_n 1, 1) := by decide +kernel
theorem dX6_titleAt_65 : decode cX6_titleAt 65 = .ok (.iaload, 1) := by decide +kernel
theorem dX6_titleAt_66 : decode cX6_titleAt 66 = .ok (.invokevirtual 177, 3) := by decide +kernel
theorem dX6_titleAt_69 : decode cX6_titleAt 69 = .ok (.aload_n 0, 1) := by decide +kernel
theorem dX6_titleAt_70 : decode cX6_titleAt 70 = .ok (.getfield 56, 3) := by decide +kernel
theorem dX6_titleAt_73 : decode cX6_titleAt 73 = .ok (.iload_n 1, 1) := by decide +kernel
theorem dX6_titleAt_74 : decode cX6_titleAt 74 = .ok (.baload, 1) := by decide +kernel
theorem dX6_titleAt_75 : decode cX6_titleAt 75 = .ok (.ifCond .eq 19, 3) := by decide +kernel
theorem dX6_titleAt_78 : decode cX6_titleAt 78 = .ok (.aload_n 0, 1) := by decide +kernel
theorem dX6_titleAt_79 : decode cX6_titleAt 79 = .ok (.bipush 36, 2) := by decide +kernel
theorem dX6_titleAt_81 : decode cX6_titleAt 81 = .ok (.invokevirtual 174, 3) := by decide +kernel
theorem dX6_titleAt_84 : decode cX6_titleAt 84 = .ok (.aload_n 0, 1) := by decide +kernel
theorem dX6_titleAt_85 : decode cX6_titleAt 85 = .ok (.aload_n 0, 1) := by decide +kernel
theorem dX6_titleAt_86 : decode cX6_titleAt 86 = .ok (.getfield 59, 3) := by decide +kernel
theorem dX6_titleAt_89 : decode cX6_titleAt 89 = .ok (.iload_n 1, 1) := by decide +kernel
theorem dX6_titleAt_90 : decode cX6_titleAt 90 = .ok (.iaload, 1) := by decide +kernel
theorem dX6_titleAt_91 : decode cX6_titleAt 91 = .ok (.invokevirtual 177, 3) := by decide +kernel
theorem dX6_titleAt_94 : decode cX6_titleAt 94 = .ok (.iload_n 2, 1) := by decide +kernel
theorem dX6_titleAt_95 : decode cX6_titleAt 95 = .ok (.aload_n 0, 1) := by decide +kernel
theorem dX6_titleAt_96 : decode cX6_titleAt 96 = .ok (.getfield 171, 3) := by decide +kernel
theorem dX6_titleAt_99 : decode cX6_titleAt 99 = .ok (.if_icmp .ge 12, 3) := by decide +kernel
theorem dX6_titleAt_102 : decode cX6_titleAt 102 = .ok (.aload_n 0, 1) := by decide +kernel
theorem dX6_titleAt_103 : decode cX6_titleAt 103 = .ok (.getfield 74, 3) := by decide +kernel
theorem dX6_titleAt_106 : decode cX6_titleAt 106 = .ok (.iload_n 2, 1) := by decide +kernel
theorem dX6_titleAt_107 : decode cX6_titleAt 107 = .ok (.iaload, 1) := by decide +kernel
theorem dX6_titleAt_108 : decode cX6_titleAt 108 = .ok (.goto 4, 3) := by decide +kernel
theorem dX6_titleAt_111 : decode cX6_titleAt 111 = .ok (.iconst (-1), 1) := by decide +kernel
theorem dX6_titleAt_112 : decode cX6_titleAt 112 = .ok (.ireturn, 1) := by decide +kernel
theorem dX6_money_0 : decode cX6_money 0 = .ok (.aload_n 0, 1) := by decide +kernel
theorem dX6_money_1 : decode cX6_money 1 = .ok (.iload_n 1, 1) := by decide +kernel
theorem dX6_money_2 : decode cX6_money 2 = .ok (.iconst (-1), 1) := by decide +kernel
theorem dX6_money_3 : decode cX6_money 3 = .ok (.if_icmp .eq 10, 3) := by decide +kernel
theorem dX6_money_6 : decode cX6_money 6 = .ok (.iload_n 1, 1) := by decide +kernel
theorem dX6_money_7 : decode cX6_money 7 = .ok (.invokestatic 97, 3) := by decide +kernel
theorem dX6_money_10 : decode cX6_money 10 = .ok (.ifCond .eq 7, 3) := by decide +kernel
theorem dX6_money_13 : decode cX6_money 13 = .ok (.iconst 0, 1) := by decide +kernel
theorem dX6_money_14 : decode cX6_money 14 = .ok (.goto 4, 3) := by decide +kernel
theorem dX6_money_17 : decode cX6_money 17 = .ok (.iconst 1, 1) := by decide +kernel
theorem dX6_money_18 : decode cX6_money 18 = .ok (.putfield 81, 3) := by decide +kernel
theorem dX6_money_21 : decode cX6_money 21 = .ok (.aload_n 0, 1) := by decide +kernel
theorem dX6_money_22 : decode cX6_money 22 = .ok (.getfield 81, 3) := by decide +kernel
theorem dX6_money_25 : decode cX6_money 25 = .ok (.ifCond .le 7, 3) := by decide +kernel
theorem dX6_money_28 : decode cX6_money 28 = .ok (.iconst 0, 1) := by decide +kernel
theorem dX6_money_29 : decode cX6_money 29 = .ok (.goto 18, 3) := by decide +kernel
theorem dX6_money_32 : decode cX6_money 32 = .ok (.aload_n 0, 1) := by decide +kernel
theorem dX6_money_33 : decode cX6_money 33 = .ok (.getfield 71, 3) := by decide +kernel
theorem dX6_money_36 : decode cX6_money 36 = .ok (.iload_n 1, 1) := by decide +kernel
theorem dX6_money_37 : decode cX6_money 37 = .ok (.iconst (-1), 1) := by decide +kernel
theorem dX6_money_38 : decode cX6_money 38 = .ok (.if_icmp .ne 7, 3) := by decide +kernel
theorem dX6_money_41 : decode cX6_money 41 = .ok (.iconst 4, 1) := by decide +kernel
theorem dX6_money_42 : decode cX6_money 42 = .ok (.goto 4, 3) := by decide +kernel
theorem dX6_money_45 : decode cX6_money 45 = .ok (.iload_n 1, 1) := by decide +kernel
theorem dX6_money_46 : decode cX6_money 46 = .ok (.iaload, 1) := by decide +kernel
theorem dX6_money_47 : decode cX6_money 47 = .ok (.ireturn, 1) := by decide +kernel
theorem dX6_moneyBySeen_0 : decode cX6_moneyBySeen 0 = .ok (.aload_n 0, 1) := by decide +kernel
theorem dX6_moneyBySeen_1 : decode cX6_moneyBySeen 1 = .ok (.iload_n 1, 1) := by decide +kernel
theorem dX6_moneyBySeen_2 : decode cX6_moneyBySeen 2 = .ok (.invokevirtual 180, 3) := by decide +kernel
theorem dX6_moneyBySeen_5 : decode cX6_moneyBySeen 5 = .ok (.ireturn, 1) := by decide +kernel
theorem dX6_held_0 : decode cX6_held 0 = .ok (.aload_n 0, 1) := by decide +kernel
theorem dX6_held_1 : decode cX6_held 1 = .ok (.iconst 0, 1) := by decide +kernel
theorem dX6_held_2 : decode cX6_held 2 = .ok (.putfield 81, 3) := by decide +kernel
theorem dX6_held_5 : decode cX6_held 5 = .ok (.iconst 0, 1) := by decide +kernel
theorem dX6_held_6 : decode cX6_held 6 = .ok (.istore_n 1, 1) := by decide +kernel
theorem dX6_held_7 : decode cX6_held 7 = .ok (.iconst 0, 1) := by decide +kernel
theorem dX6_held_8 : decode cX6_held 8 = .ok (.istore_n 2, 1) := by decide +kernel
theorem dX6_held_9 : decode cX6_held 9 = .ok (.iload_n 2, 1) := by decide +kernel
theorem dX6_held_10 : decode cX6_held 10 = .ok (.aload_n 0, 1) := by decide +kernel
theorem dX6_held_11 : decode cX6_held 11 = .ok (.getfield 88, 3) := by decide +kernel
theorem dX6_held_14 : decode cX6_held 14 = .ok (.if_icmp .ge 30, 3) := by decide +kernel
theorem dX6_held_17 : decode cX6_held 17 = .ok (.iload_n 1, 1) := by decide +kernel
theorem dX6_held_18 : decode cX6_held 18 = .ok (.aload_n 0, 1) := by decide +kernel
theorem dX6_held_19 : decode cX6_held 19 = .ok (.iload_n 2, 1) := by decide +kernel
theorem dX6_held_20 : decode cX6_held 20 = .ok (.invokevirtual 108, 3) := by decide +kernel
theorem dX6_held_23 : decode cX6_held 23 = .ok (.ifCond .eq 12, 3) := by decide +kernel
theorem dX6_held_26 : decode cX6_held 26 = .ok (.aload_n 0, 1) := by decide +kernel
theorem dX6_held_27 : decode cX6_held 27 = .ok (.getfield 28, 3) := by decide +kernel
theorem dX6_held_30 : decode cX6_held 30 = .ok (.iload_n 2, 1) := by decide +kernel
theorem dX6_held_31 : decode cX6_held 31 = .ok (.iaload, 1) := by decide +kernel
theorem dX6_held_32 : decode cX6_held 32 = .ok (.goto 4, 3) := by decide +kernel
theorem dX6_held_35 : decode cX6_held 35 = .ok (.iconst 0, 1) := by decide +kernel
theorem dX6_held_36 : decode cX6_held 36 = .ok (.iadd, 1) := by decide +kernel
theorem dX6_held_37 : decode cX6_held 37 = .ok (.istore_n 1, 1) := by decide +kernel
theorem dX6_held_38 : decode cX6_held 38 = .ok (.iinc 2 1, 3) := by decide +kernel
theorem dX6_held_41 : decode cX6_held 41 = .ok (.goto (-32), 3) := by decide +kernel
theorem dX6_held_44 : decode cX6_held 44 = .ok (.iconst 0, 1) := by decide +kernel
theorem dX6_held_45 : decode cX6_held 45 = .ok (.istore_n 2, 1) := by decide +kernel
theorem dX6_held_46 : decode cX6_held 46 = .ok (.iload_n 2, 1) := by decide +kernel
theorem dX6_held_47 : decode cX6_held 47 = .ok (.bipush 6, 2) := by decide +kernel
theorem dX6_held_49 : decode cX6_held 49 = .ok (.if_icmp .ge 41, 3) := by decide +kernel
theorem dX6_held_52 : decode cX6_held 52 = .ok (.iload_n 1, 1) := by decide +kernel
theorem dX6_held_53 : decode cX6_held 53 = .ok (.aload_n 0, 1) := by decide +kernel
theorem dX6_held_54 : decode cX6_held 54 = .ok (.iload_n 2, 1) := by decide +kernel
theorem dX6_held_55 : decode cX6_held 55 = .ok (.invokevirtual 118, 3) := by decide +kernel
theorem dX6_held_58 : decode cX6_held 58 = .ok (.ifCond .eq 23, 3) := by decide +kernel
theorem dX6_held_61 : decode cX6_held 61 = .ok (.sipush 200, 3) := by decide +kernel
theorem dX6_held_64 : decode cX6_held 64 = .ok (.aload_n 0, 1) := by decide +kernel
theorem dX6_held_65 : decode cX6_held 65 = .ok (.getfield 13, 3) := by decide +kernel
theorem dX6_held_68 : decode cX6_held 68 = .ok (.iload_n 2, 1) := by decide +kernel
theorem dX6_held_69 : decode cX6_held 69 = .ok (.iaload, 1) := by decide +kernel
theorem dX6_held_70 : decode cX6_held 70 = .ok (.aload_n 0, 1) := by decide +kernel
theorem dX6_held_71 : decode cX6_held 71 = .ok (.getfield 94, 3) := by decide +kernel
theorem dX6_held_74 : decode cX6_held 74 = .ok (.isub, 1) := by decide +kernel
theorem dX6_held_75 : decode cX6_held 75 = .ok (.iconst 1, 1) := by decide +kernel
theorem dX6_held_76 : decode cX6_held 76 = .ok (.iadd, 1) := by decide +kernel
theorem dX6_held_77 : decode cX6_held 77 = .ok (.imul, 1) := by decide +kernel
theorem dX6_held_78 : decode cX6_held 78 = .ok (.goto 4, 3) := by decide +kernel
theorem dX6_held_81 : decode cX6_held 81 = .ok (.iconst 0, 1) := by decide +kernel
theorem dX6_held_82 : decode cX6_held 82 = .ok (.iadd, 1) := by decide +kernel
theorem dX6_held_83 : decode cX6_held 83 = .ok (.istore_n 1, 1) := by decide +kernel
theorem dX6_held_84 : decode cX6_held 84 = .ok (.iinc 2 1, 3) := by decide +kernel
theorem dX6_held_87 : decode cX6_held 87 = .ok (.goto (-41), 3) := by decide +kernel
theorem dX6_held_90 : decode cX6_held 90 = .ok (.iload_n 1, 1) := by decide +kernel
theorem dX6_held_91 : decode cX6_held 91 = .ok (.ireturn, 1) := by decide +kernel
theorem dX6_takings_0 : decode cX6_takings 0 = .ok (.aload_n 0, 1) := by decide +kernel
theorem dX6_takings_1 : decode cX6_takings 1 = .ok (.iconst 0, 1) := by decide +kernel
theorem dX6_takings_2 : decode cX6_takings 2 = .ok (.putfield 81, 3) := by decide +kernel
theorem dX6_takings_5 : decode cX6_takings 5 = .ok (.aload_n 0, 1) := by decide +kernel
theorem dX6_takings_6 : decode cX6_takings 6 = .ok (.getfield 101, 3) := by decide +kernel
theorem dX6_takings_9 : decode cX6_takings 9 = .ok (.ireturn, 1) := by decide +kernel
end
section
theorem dL_setPrice_0 : decode cL_setPrice 0 = .ok (.aload_n 3, 1) := by decide +kernel
theorem dL_setPrice_1 : decode cL_setPrice 1 = .ok (.iconst 0, 1) := by decide +kernel
theorem dL_setPrice_2 : decode cL_setPrice 2 = .ok (.aload_n 0, 1) := by decide +kernel
theorem dL_setPrice_3 : decode cL_setPrice 3 = .ok (.iload_n 1, 1) := by decide +kernel
theorem dL_setPrice_4 : decode cL_setPrice 4 = .ok (.iload_n 2, 1) := by decide +kernel
theorem dL_setPrice_5 : decode cL_setPrice 5 = .ok (.invokevirtual 7, 3) := by decide +kernel
theorem dL_setPrice_8 : decode cL_setPrice 8 = .ok (.i2l, 1) := by decide +kernel
theorem dL_setPrice_9 : decode cL_setPrice 9 = .ok (.lastore, 1) := by decide +kernel
theorem dL_setPrice_10 : decode cL_setPrice 10 = .ok (.goto 11, 3) := by decide +kernel
theorem dL_setPrice_13 : decode cL_setPrice 13 = .ok (.astore 4, 2) := by decide +kernel
theorem dL_setPrice_15 : decode cL_setPrice 15 = .ok (.iconst 1, 1) := by decide +kernel
theorem dL_setPrice_16 : decode cL_setPrice 16 = .ok (.ireturn, 1) := by decide +kernel
theorem dL_setPrice_17 : decode cL_setPrice 17 = .ok (.astore 4, 2) := by decide +kernel
theorem dL_setPrice_19 : decode cL_setPrice 19 = .ok (.iconst 2, 1) := by decide +kernel
theorem dL_setPrice_20 : decode cL_setPrice 20 = .ok (.ireturn, 1) := by decide +kernel
theorem dL_setPrice_21 : decode cL_setPrice 21 = .ok (.iconst 0, 1) := by decide +kernel
theorem dL_setPrice_22 : decode cL_setPrice 22 = .ok (.ireturn, 1) := by decide +kernel
theorem dL_buy_0 : decode cL_buy 0 = .ok (.aload_n 2, 1) := by decide +kernel
theorem dL_buy_1 : decode cL_buy 1 = .ok (.iconst 0, 1) := by decide +kernel
theorem dL_buy_2 : decode cL_buy 2 = .ok (.aload_n 0, 1) := by decide +kernel
theorem dL_buy_3 : decode cL_buy 3 = .ok (.iload_n 1, 1) := by decide +kernel
theorem dL_buy_4 : decode cL_buy 4 = .ok (.invokevirtual 17, 3) := by decide +kernel
theorem dL_buy_7 : decode cL_buy 7 = .ok (.i2l, 1) := by decide +kernel
theorem dL_buy_8 : decode cL_buy 8 = .ok (.lastore, 1) := by decide +kernel
theorem dL_buy_9 : decode cL_buy 9 = .ok (.goto 9, 3) := by decide +kernel
theorem dL_buy_12 : decode cL_buy 12 = .ok (.astore_n 3, 1) := by decide +kernel
theorem dL_buy_13 : decode cL_buy 13 = .ok (.iconst 1, 1) := by decide +kernel
theorem dL_buy_14 : decode cL_buy 14 = .ok (.ireturn, 1) := by decide +kernel
theorem dL_buy_15 : decode cL_buy 15 = .ok (.astore_n 3, 1) := by decide +kernel
theorem dL_buy_16 : decode cL_buy 16 = .ok (.iconst 2, 1) := by decide +kernel
theorem dL_buy_17 : decode cL_buy 17 = .ok (.ireturn, 1) := by decide +kernel
theorem dL_buy_18 : decode cL_buy 18 = .ok (.iconst 0, 1) := by decide +kernel
theorem dL_buy_19 : decode cL_buy 19 = .ok (.ireturn, 1) := by decide +kernel
theorem dL_admit_0 : decode cL_admit 0 = .ok (.aload_n 3, 1) := by decide +kernel
theorem dL_admit_1 : decode cL_admit 1 = .ok (.iconst 0, 1) := by decide +kernel
theorem dL_admit_2 : decode cL_admit 2 = .ok (.aload_n 0, 1) := by decide +kernel
theorem dL_admit_3 : decode cL_admit 3 = .ok (.iload_n 1, 1) := by decide +kernel
theorem dL_admit_4 : decode cL_admit 4 = .ok (.iload_n 2, 1) := by decide +kernel
theorem dL_admit_5 : decode cL_admit 5 = .ok (.invokevirtual 23, 3) := by decide +kernel
theorem dL_admit_8 : decode cL_admit 8 = .ok (.i2l, 1) := by decide +kernel
theorem dL_admit_9 : decode cL_admit 9 = .ok (.lastore, 1) := by decide +kernel
theorem dL_admit_10 : decode cL_admit 10 = .ok (.goto 11, 3) := by decide +kernel
theorem dL_admit_13 : decode cL_admit 13 = .ok (.astore 4, 2) := by decide +kernel
theorem dL_admit_15 : decode cL_admit 15 = .ok (.iconst 1, 1) := by decide +kernel
theorem dL_admit_16 : decode cL_admit 16 = .ok (.ireturn, 1) := by decide +kernel
theorem dL_admit_17 : decode cL_admit 17 = .ok (.astore 4, 2) := by decide +kernel
theorem dL_admit_19 : decode cL_admit 19 = .ok (.iconst 2, 1) := by decide +kernel
theorem dL_admit_20 : decode cL_admit 20 = .ok (.ireturn, 1) := by decide +kernel
theorem dL_admit_21 : decode cL_admit 21 = .ok (.iconst 0, 1) := by decide +kernel
theorem dL_admit_22 : decode cL_admit 22 = .ok (.ireturn, 1) := by decide +kernel
theorem dL_giveBack_0 : decode cL_giveBack 0 = .ok (.aload_n 2, 1) := by decide +kernel
theorem dL_giveBack_1 : decode cL_giveBack 1 = .ok (.iconst 0, 1) := by decide +kernel
theorem dL_giveBack_2 : decode cL_giveBack 2 = .ok (.aload_n 0, 1) := by decide +kernel
theorem dL_giveBack_3 : decode cL_giveBack 3 = .ok (.iload_n 1, 1) := by decide +kernel
theorem dL_giveBack_4 : decode cL_giveBack 4 = .ok (.invokevirtual 27, 3) := by decide +kernel
theorem dL_giveBack_7 : decode cL_giveBack 7 = .ok (.i2l, 1) := by decide +kernel
theorem dL_giveBack_8 : decode cL_giveBack 8 = .ok (.lastore, 1) := by decide +kernel
theorem dL_giveBack_9 : decode cL_giveBack 9 = .ok (.goto 9, 3) := by decide +kernel
theorem dL_giveBack_12 : decode cL_giveBack 12 = .ok (.astore_n 3, 1) := by decide +kernel
theorem dL_giveBack_13 : decode cL_giveBack 13 = .ok (.iconst 1, 1) := by decide +kernel
theorem dL_giveBack_14 : decode cL_giveBack 14 = .ok (.ireturn, 1) := by decide +kernel
theorem dL_giveBack_15 : decode cL_giveBack 15 = .ok (.astore_n 3, 1) := by decide +kernel
theorem dL_giveBack_16 : decode cL_giveBack 16 = .ok (.iconst 2, 1) := by decide +kernel
theorem dL_giveBack_17 : decode cL_giveBack 17 = .ok (.ireturn, 1) := by decide +kernel
theorem dL_giveBack_18 : decode cL_giveBack 18 = .ok (.iconst 0, 1) := by decide +kernel
theorem dL_giveBack_19 : decode cL_giveBack 19 = .ok (.ireturn, 1) := by decide +kernel
theorem dL_join_0 : decode cL_join 0 = .ok (.aload_n 2, 1) := by decide +kernel
theorem dL_join_1 : decode cL_join 1 = .ok (.iconst 0, 1) := by decide +kernel
theorem dL_join_2 : decode cL_join 2 = .ok (.aload_n 0, 1) := by decide +kernel
theorem dL_join_3 : decode cL_join 3 = .ok (.iload_n 1, 1) := by decide +kernel
theorem dL_join_4 : decode cL_join 4 = .ok (.invokevirtual 30, 3) := by decide +kernel
theorem dL_join_7 : decode cL_join 7 = .ok (.i2l, 1) := by decide +kernel
theorem dL_join_8 : decode cL_join 8 = .ok (.lastore, 1) := by decide +kernel
theorem dL_join_9 : decode cL_join 9 = .ok (.goto 9, 3) := by decide +kernel
theorem dL_join_12 : decode cL_join 12 = .ok (.astore_n 3, 1) := by decide +kernel
theorem dL_join_13 : decode cL_join 13 = .ok (.iconst 1, 1) := by decide +kernel
theorem dL_join_14 : decode cL_join 14 = .ok (.ireturn, 1) := by decide +kernel
theorem dL_join_15 : decode cL_join 15 = .ok (.astore_n 3, 1) := by decide +kernel
theorem dL_join_16 : decode cL_join 16 = .ok (.iconst 2, 1) := by decide +kernel
theorem dL_join_17 : decode cL_join 17 = .ok (.ireturn, 1) := by decide +kernel
theorem dL_join_18 : decode cL_join 18 = .ok (.iconst 0, 1) := by decide +kernel
theorem dL_join_19 : decode cL_join 19 = .ok (.ireturn, 1) := by decide +kernel
theorem dL_setCap_0 : decode cL_setCap 0 = .ok (.aload_n 3, 1) := by decide +kernel
theorem dL_setCap_1 : decode cL_setCap 1 = .ok (.iconst 0, 1) := by decide +kernel
theorem dL_setCap_2 : decode cL_setCap 2 = .ok (.aload_n 0, 1) := by decide +kernel
theorem dL_setCap_3 : decode cL_setCap 3 = .ok (.iload_n 1, 1) := by decide +kernel
theorem dL_setCap_4 : decode cL_setCap 4 = .ok (.iload_n 2, 1) := by decide +kernel
theorem dL_setCap_5 : decode cL_setCap 5 = .ok (.invokevirtual 33, 3) := by decide +kernel
theorem dL_setCap_8 : decode cL_setCap 8 = .ok (.i2l, 1) := by decide +kernel
theorem dL_setCap_9 : decode cL_setCap 9 = .ok (.lastore, 1) := by decide +kernel
theorem dL_setCap_10 : decode cL_setCap 10 = .ok (.goto 11, 3) := by decide +kernel
theorem dL_setCap_13 : decode cL_setCap 13 = .ok (.astore 4, 2) := by decide +kernel
theorem dL_setCap_15 : decode cL_setCap 15 = .ok (.iconst 1, 1) := by decide +kernel
theorem dL_setCap_16 : decode cL_setCap 16 = .ok (.ireturn, 1) := by decide +kernel
theorem dL_setCap_17 : decode cL_setCap 17 = .ok (.astore 4, 2) := by decide +kernel
theorem dL_setCap_19 : decode cL_setCap 19 = .ok (.iconst 2, 1) := by decide +kernel
theorem dL_setCap_20 : decode cL_setCap 20 = .ok (.ireturn, 1) := by decide +kernel
theorem dL_setCap_21 : decode cL_setCap 21 = .ok (.iconst 0, 1) := by decide +kernel
theorem dL_setCap_22 : decode cL_setCap 22 = .ok (.ireturn, 1) := by decide +kernel
theorem dL_close_0 : decode cL_close 0 = .ok (.aload_n 3, 1) := by decide +kernel
theorem dL_close_1 : decode cL_close 1 = .ok (.iconst 0, 1) := by decide +kernel
theorem dL_close_2 : decode cL_close 2 = .ok (.aload_n 0, 1) := by decide +kernel
theorem dL_close_3 : decode cL_close 3 = .ok (.iload_n 1, 1) := by decide +kernel
theorem dL_close_4 : decode cL_close 4 = .ok (.iload_n 2, 1) := by decide +kernel
theorem dL_close_5 : decode cL_close 5 = .ok (.invokevirtual 36, 3) := by decide +kernel
theorem dL_close_8 : decode cL_close 8 = .ok (.i2l, 1) := by decide +kernel
theorem dL_close_9 : decode cL_close 9 = .ok (.lastore, 1) := by decide +kernel
theorem dL_close_10 : decode cL_close 10 = .ok (.goto 7, 3) := by decide +kernel
theorem dL_close_13 : decode cL_close 13 = .ok (.astore 4, 2) := by decide +kernel
theorem dL_close_15 : decode cL_close 15 = .ok (.iconst 1, 1) := by decide +kernel
theorem dL_close_16 : decode cL_close 16 = .ok (.ireturn, 1) := by decide +kernel
theorem dL_close_17 : decode cL_close 17 = .ok (.iconst 0, 1) := by decide +kernel
theorem dL_close_18 : decode cL_close 18 = .ok (.ireturn, 1) := by decide +kernel
theorem dL_enter_0 : decode cL_enter 0 = .ok (.aload_n 3, 1) := by decide +kernel
theorem dL_enter_1 : decode cL_enter 1 = .ok (.iconst 0, 1) := by decide +kernel
theorem dL_enter_2 : decode cL_enter 2 = .ok (.aload_n 0, 1) := by decide +kernel
theorem dL_enter_3 : decode cL_enter 3 = .ok (.iload_n 1, 1) := by decide +kernel
theorem dL_enter_4 : decode cL_enter 4 = .ok (.iload_n 2, 1) := by decide +kernel
theorem dL_enter_5 : decode cL_enter 5 = .ok (.invokevirtual 39, 3) := by decide +kernel
theorem dL_enter_8 : decode cL_enter 8 = .ok (.ifCond .eq 7, 3) := by decide +kernel
theorem dL_enter_11 : decode cL_enter 11 = .ok (.lconst 1, 1) := by decide +kernel
theorem dL_enter_12 : decode cL_enter 12 = .ok (.goto 4, 3) := by decide +kernel
theorem dL_enter_15 : decode cL_enter 15 = .ok (.lconst 0, 1) := by decide +kernel
theorem dL_enter_16 : decode cL_enter 16 = .ok (.lastore, 1) := by decide +kernel
theorem dL_enter_17 : decode cL_enter 17 = .ok (.goto 11, 3) := by decide +kernel
theorem dL_enter_20 : decode cL_enter 20 = .ok (.astore 4, 2) := by decide +kernel
theorem dL_enter_22 : decode cL_enter 22 = .ok (.iconst 1, 1) := by decide +kernel
theorem dL_enter_23 : decode cL_enter 23 = .ok (.ireturn, 1) := by decide +kernel
theorem dL_enter_24 : decode cL_enter 24 = .ok (.astore 4, 2) := by decide +kernel
theorem dL_enter_26 : decode cL_enter 26 = .ok (.iconst 2, 1) := by decide +kernel
theorem dL_enter_27 : decode cL_enter 27 = .ok (.ireturn, 1) := by decide +kernel
theorem dL_enter_28 : decode cL_enter 28 = .ok (.iconst 0, 1) := by decide +kernel
theorem dL_enter_29 : decode cL_enter 29 = .ok (.ireturn, 1) := by decide +kernel
theorem dL_goOut_0 : decode cL_goOut 0 = .ok (.aload_n 2, 1) := by decide +kernel
theorem dL_goOut_1 : decode cL_goOut 1 = .ok (.iconst 0, 1) := by decide +kernel
theorem dL_goOut_2 : decode cL_goOut 2 = .ok (.aload_n 0, 1) := by decide +kernel
theorem dL_goOut_3 : decode cL_goOut 3 = .ok (.iload_n 1, 1) := by decide +kernel
theorem dL_goOut_4 : decode cL_goOut 4 = .ok (.invokevirtual 43, 3) := by decide +kernel
theorem dL_goOut_7 : decode cL_goOut 7 = .ok (.i2l, 1) := by decide +kernel
theorem dL_goOut_8 : decode cL_goOut 8 = .ok (.lastore, 1) := by decide +kernel
theorem dL_goOut_9 : decode cL_goOut 9 = .ok (.goto 9, 3) := by decide +kernel
theorem dL_goOut_12 : decode cL_goOut 12 = .ok (.astore_n 3, 1) := by decide +kernel
theorem dL_goOut_13 : decode cL_goOut 13 = .ok (.iconst 1, 1) := by decide +kernel
theorem dL_goOut_14 : decode cL_goOut 14 = .ok (.ireturn, 1) := by decide +kernel
theorem dL_goOut_15 : decode cL_goOut 15 = .ok (.astore_n 3, 1) := by decide +kernel
theorem dL_goOut_16 : decode cL_goOut 16 = .ok (.iconst 2, 1) := by decide +kernel
theorem dL_goOut_17 : decode cL_goOut 17 = .ok (.ireturn, 1) := by decide +kernel
theorem dL_goOut_18 : decode cL_goOut 18 = .ok (.iconst 0, 1) := by decide +kernel
theorem dL_goOut_19 : decode cL_goOut 19 = .ok (.ireturn, 1) := by decide +kernel
theorem dL_addWork_0 : decode cL_addWork 0 = .ok (.aload_n 2, 1) := by decide +kernel
theorem dL_addWork_1 : decode cL_addWork 1 = .ok (.iconst 0, 1) := by decide +kernel
theorem dL_addWork_2 : decode cL_addWork 2 = .ok (.aload_n 0, 1) := by decide +kernel
theorem dL_addWork_3 : decode cL_addWork 3 = .ok (.iload_n 1, 1) := by decide +kernel
theorem dL_addWork_4 : decode cL_addWork 4 = .ok (.invokevirtual 46, 3) := by decide +kernel
theorem dL_addWork_7 : decode cL_addWork 7 = .ok (.i2l, 1) := by decide +kernel
theorem dL_addWork_8 : decode cL_addWork 8 = .ok (.lastore, 1) := by decide +kernel
theorem dL_addWork_9 : decode cL_addWork 9 = .ok (.goto 9, 3) := by decide +kernel
theorem dL_addWork_12 : decode cL_addWork 12 = .ok (.astore_n 3, 1) := by decide +kernel
theorem dL_addWork_13 : decode cL_addWork 13 = .ok (.iconst 1, 1) := by decide +kernel
theorem dL_addWork_14 : decode cL_addWork 14 = .ok (.ireturn, 1) := by decide +kernel
theorem dL_addWork_15 : decode cL_addWork 15 = .ok (.astore_n 3, 1) := by decide +kernel
theorem dL_addWork_16 : decode cL_addWork 16 = .ok (.iconst 2, 1) := by decide +kernel
theorem dL_addWork_17 : decode cL_addWork 17 = .ok (.ireturn, 1) := by decide +kernel
theorem dL_addWork_18 : decode cL_addWork 18 = .ok (.iconst 0, 1) := by decide +kernel
theorem dL_addWork_19 : decode cL_addWork 19 = .ok (.ireturn, 1) := by decide +kernel
theorem dL_hang_0 : decode cL_hang 0 = .ok (.aload_n 3, 1) := by decide +kernel
theorem dL_hang_1 : decode cL_hang 1 = .ok (.iconst 0, 1) := by decide +kernel
theorem dL_hang_2 : decode cL_hang 2 = .ok (.aload_n 0, 1) := by decide +kernel
theorem dL_hang_3 : decode cL_hang 3 = .ok (.iload_n 1, 1) := by decide +kernel
theorem dL_hang_4 : decode cL_hang 4 = .ok (.iload_n 2, 1) := by decide +kernel
theorem dL_hang_5 : decode cL_hang 5 = .ok (.invokevirtual 49, 3) := by decide +kernel
theorem dL_hang_8 : decode cL_hang 8 = .ok (.i2l, 1) := by decide +kernel
theorem dL_hang_9 : decode cL_hang 9 = .ok (.lastore, 1) := by decide +kernel
theorem dL_hang_10 : decode cL_hang 10 = .ok (.goto 11, 3) := by decide +kernel
theorem dL_hang_13 : decode cL_hang 13 = .ok (.astore 4, 2) := by decide +kernel
theorem dL_hang_15 : decode cL_hang 15 = .ok (.iconst 1, 1) := by decide +kernel
theorem dL_hang_16 : decode cL_hang 16 = .ok (.ireturn, 1) := by decide +kernel
theorem dL_hang_17 : decode cL_hang 17 = .ok (.astore 4, 2) := by decide +kernel
theorem dL_hang_19 : decode cL_hang 19 = .ok (.iconst 2, 1) := by decide +kernel
theorem dL_hang_20 : decode cL_hang 20 = .ok (.ireturn, 1) := by decide +kernel
theorem dL_hang_21 : decode cL_hang 21 = .ok (.iconst 0, 1) := by decide +kernel
theorem dL_hang_22 : decode cL_hang 22 = .ok (.ireturn, 1) := by decide +kernel
theorem dL_lend_0 : decode cL_lend 0 = .ok (.aload 4, 2) := by decide +kernel
theorem dL_lend_2 : decode cL_lend 2 = .ok (.iconst 0, 1) := by decide +kernel
theorem dL_lend_3 : decode cL_lend 3 = .ok (.aload_n 0, 1) := by decide +kernel
theorem dL_lend_4 : decode cL_lend 4 = .ok (.iload_n 1, 1) := by decide +kernel
theorem dL_lend_5 : decode cL_lend 5 = .ok (.iload_n 2, 1) := by decide +kernel
theorem dL_lend_6 : decode cL_lend 6 = .ok (.iload_n 3, 1) := by decide +kernel
theorem dL_lend_7 : decode cL_lend 7 = .ok (.invokevirtual 52, 3) := by decide +kernel
theorem dL_lend_10 : decode cL_lend 10 = .ok (.i2l, 1) := by decide +kernel
theorem dL_lend_11 : decode cL_lend 11 = .ok (.lastore, 1) := by decide +kernel
theorem dL_lend_12 : decode cL_lend 12 = .ok (.goto 15, 3) := by decide +kernel
theorem dL_lend_15 : decode cL_lend 15 = .ok (.astore 5, 2) := by decide +kernel
theorem dL_lend_17 : decode cL_lend 17 = .ok (.iconst 1, 1) := by decide +kernel
theorem dL_lend_18 : decode cL_lend 18 = .ok (.ireturn, 1) := by decide +kernel
theorem dL_lend_19 : decode cL_lend 19 = .ok (.astore 5, 2) := by decide +kernel
theorem dL_lend_21 : decode cL_lend 21 = .ok (.iconst 2, 1) := by decide +kernel
theorem dL_lend_22 : decode cL_lend 22 = .ok (.ireturn, 1) := by decide +kernel
theorem dL_lend_23 : decode cL_lend 23 = .ok (.astore 5, 2) := by decide +kernel
theorem dL_lend_25 : decode cL_lend 25 = .ok (.iconst 3, 1) := by decide +kernel
theorem dL_lend_26 : decode cL_lend 26 = .ok (.ireturn, 1) := by decide +kernel
theorem dL_lend_27 : decode cL_lend 27 = .ok (.iconst 0, 1) := by decide +kernel
theorem dL_lend_28 : decode cL_lend 28 = .ok (.ireturn, 1) := by decide +kernel
theorem dL_bringHome_0 : decode cL_bringHome 0 = .ok (.aload_n 3, 1) := by decide +kernel
theorem dL_bringHome_1 : decode cL_bringHome 1 = .ok (.iconst 0, 1) := by decide +kernel
theorem dL_bringHome_2 : decode cL_bringHome 2 = .ok (.aload_n 0, 1) := by decide +kernel
theorem dL_bringHome_3 : decode cL_bringHome 3 = .ok (.iload_n 1, 1) := by decide +kernel
theorem dL_bringHome_4 : decode cL_bringHome 4 = .ok (.iload_n 2, 1) := by decide +kernel
theorem dL_bringHome_5 : decode cL_bringHome 5 = .ok (.invokevirtual 56, 3) := by decide +kernel
theorem dL_bringHome_8 : decode cL_bringHome 8 = .ok (.i2l, 1) := by decide +kernel
theorem dL_bringHome_9 : decode cL_bringHome 9 = .ok (.lastore, 1) := by decide +kernel
theorem dL_bringHome_10 : decode cL_bringHome 10 = .ok (.goto 11, 3) := by decide +kernel
theorem dL_bringHome_13 : decode cL_bringHome 13 = .ok (.astore 4, 2) := by decide +kernel
theorem dL_bringHome_15 : decode cL_bringHome 15 = .ok (.iconst 1, 1) := by decide +kernel
theorem dL_bringHome_16 : decode cL_bringHome 16 = .ok (.ireturn, 1) := by decide +kernel
theorem dL_bringHome_17 : decode cL_bringHome 17 = .ok (.astore 4, 2) := by decide +kernel
theorem dL_bringHome_19 : decode cL_bringHome 19 = .ok (.iconst 2, 1) := by decide +kernel
theorem dL_bringHome_20 : decode cL_bringHome 20 = .ok (.ireturn, 1) := by decide +kernel
theorem dL_bringHome_21 : decode cL_bringHome 21 = .ok (.iconst 0, 1) := by decide +kernel
theorem dL_bringHome_22 : decode cL_bringHome 22 = .ok (.ireturn, 1) := by decide +kernel
theorem dL_setShare_0 : decode cL_setShare 0 = .ok (.aload_n 3, 1) := by decide +kernel
theorem dL_setShare_1 : decode cL_setShare 1 = .ok (.iconst 0, 1) := by decide +kernel
theorem dL_setShare_2 : decode cL_setShare 2 = .ok (.aload_n 0, 1) := by decide +kernel
theorem dL_setShare_3 : decode cL_setShare 3 = .ok (.iload_n 1, 1) := by decide +kernel
theorem dL_setShare_4 : decode cL_setShare 4 = .ok (.iload_n 2, 1) := by decide +kernel
theorem dL_setShare_5 : decode cL_setShare 5 = .ok (.invokevirtual 59, 3) := by decide +kernel
theorem dL_setShare_8 : decode cL_setShare 8 = .ok (.i2l, 1) := by decide +kernel
theorem dL_setShare_9 : decode cL_setShare 9 = .ok (.lastore, 1) := by decide +kernel
theorem dL_setShare_10 : decode cL_setShare 10 = .ok (.goto 11, 3) := by decide +kernel
theorem dL_setShare_13 : decode cL_setShare 13 = .ok (.astore 4, 2) := by decide +kernel
theorem dL_setShare_15 : decode cL_setShare 15 = .ok (.iconst 1, 1) := by decide +kernel
theorem dL_setShare_16 : decode cL_setShare 16 = .ok (.ireturn, 1) := by decide +kernel
theorem dL_setShare_17 : decode cL_setShare 17 = .ok (.astore 4, 2) := by decide +kernel
theorem dL_setShare_19 : decode cL_setShare 19 = .ok (.iconst 2, 1) := by decide +kernel
theorem dL_setShare_20 : decode cL_setShare 20 = .ok (.ireturn, 1) := by decide +kernel
theorem dL_setShare_21 : decode cL_setShare 21 = .ok (.iconst 0, 1) := by decide +kernel
theorem dL_setShare_22 : decode cL_setShare 22 = .ok (.ireturn, 1) := by decide +kernel
theorem dL_sell_0 : decode cL_sell 0 = .ok (.aload 4, 2) := by decide +kernel
theorem dL_sell_2 : decode cL_sell 2 = .ok (.iconst 0, 1) := by decide +kernel
theorem dL_sell_3 : decode cL_sell 3 = .ok (.aload_n 0, 1) := by decide +kernel
theorem dL_sell_4 : decode cL_sell 4 = .ok (.iload_n 1, 1) := by decide +kernel
theorem dL_sell_5 : decode cL_sell 5 = .ok (.iload_n 2, 1) := by decide +kernel
theorem dL_sell_6 : decode cL_sell 6 = .ok (.iload_n 3, 1) := by decide +kernel
theorem dL_sell_7 : decode cL_sell 7 = .ok (.invokevirtual 62, 3) := by decide +kernel
theorem dL_sell_10 : decode cL_sell 10 = .ok (.i2l, 1) := by decide +kernel
theorem dL_sell_11 : decode cL_sell 11 = .ok (.lastore, 1) := by decide +kernel
theorem dL_sell_12 : decode cL_sell 12 = .ok (.goto 11, 3) := by decide +kernel
theorem dL_sell_15 : decode cL_sell 15 = .ok (.astore 5, 2) := by decide +kernel
theorem dL_sell_17 : decode cL_sell 17 = .ok (.iconst 1, 1) := by decide +kernel
theorem dL_sell_18 : decode cL_sell 18 = .ok (.ireturn, 1) := by decide +kernel
theorem dL_sell_19 : decode cL_sell 19 = .ok (.astore 5, 2) := by decide +kernel
theorem dL_sell_21 : decode cL_sell 21 = .ok (.iconst 2, 1) := by decide +kernel
theorem dL_sell_22 : decode cL_sell 22 = .ok (.ireturn, 1) := by decide +kernel
theorem dL_sell_23 : decode cL_sell 23 = .ok (.iconst 0, 1) := by decide +kernel
theorem dL_sell_24 : decode cL_sell 24 = .ok (.ireturn, 1) := by decide +kernel
theorem dL_give_0 : decode cL_give 0 = .ok (.aload 4, 2) := by decide +kernel
theorem dL_give_2 : decode cL_give 2 = .ok (.iconst 0, 1) := by decide +kernel
theorem dL_give_3 : decode cL_give 3 = .ok (.aload_n 0, 1) := by decide +kernel
theorem dL_give_4 : decode cL_give 4 = .ok (.iload_n 1, 1) := by decide +kernel
theorem dL_give_5 : decode cL_give 5 = .ok (.iload_n 2, 1) := by decide +kernel
theorem dL_give_6 : decode cL_give 6 = .ok (.iload_n 3, 1) := by decide +kernel
theorem dL_give_7 : decode cL_give 7 = .ok (.invokevirtual 65, 3) := by decide +kernel
theorem dL_give_10 : decode cL_give 10 = .ok (.i2l, 1) := by decide +kernel
theorem dL_give_11 : decode cL_give 11 = .ok (.lastore, 1) := by decide +kernel
theorem dL_give_12 : decode cL_give 12 = .ok (.goto 11, 3) := by decide +kernel
theorem dL_give_15 : decode cL_give 15 = .ok (.astore 5, 2) := by decide +kernel
theorem dL_give_17 : decode cL_give 17 = .ok (.iconst 1, 1) := by decide +kernel
theorem dL_give_18 : decode cL_give 18 = .ok (.ireturn, 1) := by decide +kernel
theorem dL_give_19 : decode cL_give 19 = .ok (.astore 5, 2) := by decide +kernel
theorem dL_give_21 : decode cL_give 21 = .ok (.iconst 2, 1) := by decide +kernel
theorem dL_give_22 : decode cL_give 22 = .ok (.ireturn, 1) := by decide +kernel
theorem dL_give_23 : decode cL_give 23 = .ok (.iconst 0, 1) := by decide +kernel
theorem dL_give_24 : decode cL_give 24 = .ok (.ireturn, 1) := by decide +kernel
theorem dL_advance_0 : decode cL_advance 0 = .ok (.aload_n 2, 1) := by decide +kernel
theorem dL_advance_1 : decode cL_advance 1 = .ok (.iconst 0, 1) := by decide +kernel
theorem dL_advance_2 : decode cL_advance 2 = .ok (.aload_n 0, 1) := by decide +kernel
theorem dL_advance_3 : decode cL_advance 3 = .ok (.iload_n 1, 1) := by decide +kernel
theorem dL_advance_4 : decode cL_advance 4 = .ok (.invokevirtual 68, 3) := by decide +kernel
theorem dL_advance_7 : decode cL_advance 7 = .ok (.i2l, 1) := by decide +kernel
theorem dL_advance_8 : decode cL_advance 8 = .ok (.lastore, 1) := by decide +kernel
theorem dL_advance_9 : decode cL_advance 9 = .ok (.goto 9, 3) := by decide +kernel
theorem dL_advance_12 : decode cL_advance 12 = .ok (.astore_n 3, 1) := by decide +kernel
theorem dL_advance_13 : decode cL_advance 13 = .ok (.iconst 1, 1) := by decide +kernel
theorem dL_advance_14 : decode cL_advance 14 = .ok (.ireturn, 1) := by decide +kernel
theorem dL_advance_15 : decode cL_advance 15 = .ok (.astore_n 3, 1) := by decide +kernel
theorem dL_advance_16 : decode cL_advance 16 = .ok (.iconst 2, 1) := by decide +kernel
theorem dL_advance_17 : decode cL_advance 17 = .ok (.ireturn, 1) := by decide +kernel
theorem dL_advance_18 : decode cL_advance 18 = .ok (.iconst 0, 1) := by decide +kernel
theorem dL_advance_19 : decode cL_advance 19 = .ok (.ireturn, 1) := by decide +kernel
theorem dL_whereIs_0 : decode cL_whereIs 0 = .ok (.aload_n 2, 1) := by decide +kernel
theorem dL_whereIs_1 : decode cL_whereIs 1 = .ok (.iconst 0, 1) := by decide +kernel
theorem dL_whereIs_2 : decode cL_whereIs 2 = .ok (.aload_n 0, 1) := by decide +kernel
theorem dL_whereIs_3 : decode cL_whereIs 3 = .ok (.iload_n 1, 1) := by decide +kernel
theorem dL_whereIs_4 : decode cL_whereIs 4 = .ok (.invokevirtual 71, 3) := by decide +kernel
theorem dL_whereIs_7 : decode cL_whereIs 7 = .ok (.i2l, 1) := by decide +kernel
theorem dL_whereIs_8 : decode cL_whereIs 8 = .ok (.lastore, 1) := by decide +kernel
theorem dL_whereIs_9 : decode cL_whereIs 9 = .ok (.goto 6, 3) := by decide +kernel
theorem dL_whereIs_12 : decode cL_whereIs 12 = .ok (.astore_n 3, 1) := by decide +kernel
theorem dL_whereIs_13 : decode cL_whereIs 13 = .ok (.iconst 1, 1) := by decide +kernel
theorem dL_whereIs_14 : decode cL_whereIs 14 = .ok (.ireturn, 1) := by decide +kernel
theorem dL_whereIs_15 : decode cL_whereIs 15 = .ok (.iconst 0, 1) := by decide +kernel
theorem dL_whereIs_16 : decode cL_whereIs 16 = .ok (.ireturn, 1) := by decide +kernel
theorem dL_seen_0 : decode cL_seen 0 = .ok (.aload_n 2, 1) := by decide +kernel
theorem dL_seen_1 : decode cL_seen 1 = .ok (.iconst 0, 1) := by decide +kernel
theorem dL_seen_2 : decode cL_seen 2 = .ok (.aload_n 0, 1) := by decide +kernel
theorem dL_seen_3 : decode cL_seen 3 = .ok (.iload_n 1, 1) := by decide +kernel
theorem dL_seen_4 : decode cL_seen 4 = .ok (.invokevirtual 74, 3) := by decide +kernel
theorem dL_seen_7 : decode cL_seen 7 = .ok (.i2l, 1) := by decide +kernel
theorem dL_seen_8 : decode cL_seen 8 = .ok (.lastore, 1) := by decide +kernel
theorem dL_seen_9 : decode cL_seen 9 = .ok (.goto 6, 3) := by decide +kernel
theorem dL_seen_12 : decode cL_seen 12 = .ok (.astore_n 3, 1) := by decide +kernel
theorem dL_seen_13 : decode cL_seen 13 = .ok (.iconst 1, 1) := by decide +kernel
theorem dL_seen_14 : decode cL_seen 14 = .ok (.ireturn, 1) := by decide +kernel
theorem dL_seen_15 : decode cL_seen 15 = .ok (.iconst 0, 1) := by decide +kernel
theorem dL_seen_16 : decode cL_seen 16 = .ok (.ireturn, 1) := by decide +kernel
theorem dL_inside_0 : decode cL_inside 0 = .ok (.aload_n 2, 1) := by decide +kernel
theorem dL_inside_1 : decode cL_inside 1 = .ok (.iconst 0, 1) := by decide +kernel
theorem dL_inside_2 : decode cL_inside 2 = .ok (.aload_n 0, 1) := by decide +kernel
theorem dL_inside_3 : decode cL_inside 3 = .ok (.iload_n 1, 1) := by decide +kernel
theorem dL_inside_4 : decode cL_inside 4 = .ok (.invokevirtual 77, 3) := by decide +kernel
theorem dL_inside_7 : decode cL_inside 7 = .ok (.i2l, 1) := by decide +kernel
theorem dL_inside_8 : decode cL_inside 8 = .ok (.lastore, 1) := by decide +kernel
theorem dL_inside_9 : decode cL_inside 9 = .ok (.goto 6, 3) := by decide +kernel
theorem dL_inside_12 : decode cL_inside 12 = .ok (.astore_n 3, 1) := by decide +kernel
theorem dL_inside_13 : decode cL_inside 13 = .ok (.iconst 1, 1) := by decide +kernel
theorem dL_inside_14 : decode cL_inside 14 = .ok (.ireturn, 1) := by decide +kernel
theorem dL_inside_15 : decode cL_inside 15 = .ok (.iconst 0, 1) := by decide +kernel
theorem dL_inside_16 : decode cL_inside 16 = .ok (.ireturn, 1) := by decide +kernel
theorem dL_queued_0 : decode cL_queued 0 = .ok (.aload_n 3, 1) := by decide +kernel
theorem dL_queued_1 : decode cL_queued 1 = .ok (.iconst 0, 1) := by decide +kernel
theorem dL_queued_2 : decode cL_queued 2 = .ok (.aload_n 0, 1) := by decide +kernel
theorem dL_queued_3 : decode cL_queued 3 = .ok (.iload_n 1, 1) := by decide +kernel
theorem dL_queued_4 : decode cL_queued 4 = .ok (.iload_n 2, 1) := by decide +kernel
theorem dL_queued_5 : decode cL_queued 5 = .ok (.invokevirtual 80, 3) := by decide +kernel
theorem dL_queued_8 : decode cL_queued 8 = .ok (.i2l, 1) := by decide +kernel
theorem dL_queued_9 : decode cL_queued 9 = .ok (.lastore, 1) := by decide +kernel
theorem dL_queued_10 : decode cL_queued 10 = .ok (.goto 7, 3) := by decide +kernel
theorem dL_queued_13 : decode cL_queued 13 = .ok (.astore 4, 2) := by decide +kernel
theorem dL_queued_15 : decode cL_queued 15 = .ok (.iconst 1, 1) := by decide +kernel
theorem dL_queued_16 : decode cL_queued 16 = .ok (.ireturn, 1) := by decide +kernel
theorem dL_queued_17 : decode cL_queued 17 = .ok (.iconst 0, 1) := by decide +kernel
theorem dL_queued_18 : decode cL_queued 18 = .ok (.ireturn, 1) := by decide +kernel
theorem dL_views_0 : decode cL_views 0 = .ok (.aload_n 2, 1) := by decide +kernel
theorem dL_views_1 : decode cL_views 1 = .ok (.iconst 0, 1) := by decide +kernel
theorem dL_views_2 : decode cL_views 2 = .ok (.aload_n 0, 1) := by decide +kernel
theorem dL_views_3 : decode cL_views 3 = .ok (.iload_n 1, 1) := by decide +kernel
theorem dL_views_4 : decode cL_views 4 = .ok (.invokevirtual 83, 3) := by decide +kernel
theorem dL_views_7 : decode cL_views 7 = .ok (.i2l, 1) := by decide +kernel
theorem dL_views_8 : decode cL_views 8 = .ok (.lastore, 1) := by decide +kernel
theorem dL_views_9 : decode cL_views 9 = .ok (.goto 6, 3) := by decide +kernel
theorem dL_views_12 : decode cL_views 12 = .ok (.astore_n 3, 1) := by decide +kernel
theorem dL_views_13 : decode cL_views 13 = .ok (.iconst 1, 1) := by decide +kernel
theorem dL_views_14 : decode cL_views 14 = .ok (.ireturn, 1) := by decide +kernel
theorem dL_views_15 : decode cL_views 15 = .ok (.iconst 0, 1) := by decide +kernel
theorem dL_views_16 : decode cL_views 16 = .ok (.ireturn, 1) := by decide +kernel
theorem dL_titleAt_0 : decode cL_titleAt 0 = .ok (.aload_n 3, 1) := by decide +kernel
theorem dL_titleAt_1 : decode cL_titleAt 1 = .ok (.iconst 0, 1) := by decide +kernel
theorem dL_titleAt_2 : decode cL_titleAt 2 = .ok (.aload_n 0, 1) := by decide +kernel
theorem dL_titleAt_3 : decode cL_titleAt 3 = .ok (.iload_n 1, 1) := by decide +kernel
theorem dL_titleAt_4 : decode cL_titleAt 4 = .ok (.iload_n 2, 1) := by decide +kernel
theorem dL_titleAt_5 : decode cL_titleAt 5 = .ok (.invokevirtual 86, 3) := by decide +kernel
theorem dL_titleAt_8 : decode cL_titleAt 8 = .ok (.i2l, 1) := by decide +kernel
theorem dL_titleAt_9 : decode cL_titleAt 9 = .ok (.lastore, 1) := by decide +kernel
theorem dL_titleAt_10 : decode cL_titleAt 10 = .ok (.goto 7, 3) := by decide +kernel
theorem dL_titleAt_13 : decode cL_titleAt 13 = .ok (.astore 4, 2) := by decide +kernel
theorem dL_titleAt_15 : decode cL_titleAt 15 = .ok (.iconst 1, 1) := by decide +kernel
theorem dL_titleAt_16 : decode cL_titleAt 16 = .ok (.ireturn, 1) := by decide +kernel
theorem dL_titleAt_17 : decode cL_titleAt 17 = .ok (.iconst 0, 1) := by decide +kernel
theorem dL_titleAt_18 : decode cL_titleAt 18 = .ok (.ireturn, 1) := by decide +kernel
theorem dL_money_0 : decode cL_money 0 = .ok (.aload_n 2, 1) := by decide +kernel
theorem dL_money_1 : decode cL_money 1 = .ok (.iconst 0, 1) := by decide +kernel
theorem dL_money_2 : decode cL_money 2 = .ok (.aload_n 0, 1) := by decide +kernel
theorem dL_money_3 : decode cL_money 3 = .ok (.iload_n 1, 1) := by decide +kernel
theorem dL_money_4 : decode cL_money 4 = .ok (.invokevirtual 89, 3) := by decide +kernel
theorem dL_money_7 : decode cL_money 7 = .ok (.i2l, 1) := by decide +kernel
theorem dL_money_8 : decode cL_money 8 = .ok (.lastore, 1) := by decide +kernel
theorem dL_money_9 : decode cL_money 9 = .ok (.goto 6, 3) := by decide +kernel
theorem dL_money_12 : decode cL_money 12 = .ok (.astore_n 3, 1) := by decide +kernel
theorem dL_money_13 : decode cL_money 13 = .ok (.iconst 1, 1) := by decide +kernel
theorem dL_money_14 : decode cL_money 14 = .ok (.ireturn, 1) := by decide +kernel
theorem dL_money_15 : decode cL_money 15 = .ok (.iconst 0, 1) := by decide +kernel
theorem dL_money_16 : decode cL_money 16 = .ok (.ireturn, 1) := by decide +kernel
theorem dL_moneyBySeen_0 : decode cL_moneyBySeen 0 = .ok (.aload_n 2, 1) := by decide +kernel
theorem dL_moneyBySeen_1 : decode cL_moneyBySeen 1 = .ok (.iconst 0, 1) := by decide +kernel
theorem dL_moneyBySeen_2 : decode cL_moneyBySeen 2 = .ok (.aload_n 0, 1) := by decide +kernel
theorem dL_moneyBySeen_3 : decode cL_moneyBySeen 3 = .ok (.iload_n 1, 1) := by decide +kernel
theorem dL_moneyBySeen_4 : decode cL_moneyBySeen 4 = .ok (.invokevirtual 92, 3) := by decide +kernel
theorem dL_moneyBySeen_7 : decode cL_moneyBySeen 7 = .ok (.i2l, 1) := by decide +kernel
theorem dL_moneyBySeen_8 : decode cL_moneyBySeen 8 = .ok (.lastore, 1) := by decide +kernel
theorem dL_moneyBySeen_9 : decode cL_moneyBySeen 9 = .ok (.goto 6, 3) := by decide +kernel
theorem dL_moneyBySeen_12 : decode cL_moneyBySeen 12 = .ok (.astore_n 3, 1) := by decide +kernel
theorem dL_moneyBySeen_13 : decode cL_moneyBySeen 13 = .ok (.iconst 1, 1) := by decide +kernel
theorem dL_moneyBySeen_14 : decode cL_moneyBySeen 14 = .ok (.ireturn, 1) := by decide +kernel
theorem dL_moneyBySeen_15 : decode cL_moneyBySeen 15 = .ok (.iconst 0, 1) := by decide +kernel
theorem dL_moneyBySeen_16 : decode cL_moneyBySeen 16 = .ok (.ireturn, 1) := by decide +kernel
theorem dL_law_0 : decode cL_law 0 = .ok (.new 8, 3) := by decide +kernel
theorem dL_law_3 : decode cL_law 3 = .ok (.dup, 1) := by decide +kernel
theorem dL_law_4 : decode cL_law 4 = .ok (.invokespecial 95, 3) := by decide +kernel
theorem dL_law_7 : decode cL_law 7 = .ok (.astore_n 1, 1) := by decide +kernel
theorem dL_law_8 : decode cL_law 8 = .ok (.new 96, 3) := by decide +kernel
theorem dL_law_11 : decode cL_law 11 = .ok (.dup, 1) := by decide +kernel
theorem dL_law_12 : decode cL_law 12 = .ok (.invokespecial 98, 3) := by decide +kernel
theorem dL_law_15 : decode cL_law 15 = .ok (.astore_n 2, 1) := by decide +kernel
theorem dL_law_16 : decode cL_law 16 = .ok (.iconst 1, 1) := by decide +kernel
theorem dL_law_17 : decode cL_law 17 = .ok (.newarray .long, 2) := by decide +kernel
theorem dL_law_19 : decode cL_law 19 = .ok (.astore_n 3, 1) := by decide +kernel
theorem dL_law_20 : decode cL_law 20 = .ok (.iconst 0, 1) := by decide +kernel
theorem dL_law_21 : decode cL_law 21 = .ok (.istore 4, 2) := by decide +kernel
theorem dL_law_23 : decode cL_law 23 = .ok (.iload 4, 2) := by decide +kernel
theorem dL_law_25 : decode cL_law 25 = .ok (.aload_n 0, 1) := by decide +kernel
theorem dL_law_26 : decode cL_law 26 = .ok (.arraylength, 1) := by decide +kernel
theorem dL_law_27 : decode cL_law 27 = .ok (.iconst 4, 1) := by decide +kernel
theorem dL_law_28 : decode cL_law 28 = .ok (.isub, 1) := by decide +kernel
theorem dL_law_29 : decode cL_law 29 = .ok (.if_icmp .gt 1828, 3) := by decide +kernel
theorem dL_law_32 : decode cL_law 32 = .ok (.aload_n 0, 1) := by decide +kernel
theorem dL_law_33 : decode cL_law 33 = .ok (.iload 4, 2) := by decide +kernel
theorem dL_law_35 : decode cL_law 35 = .ok (.iaload, 1) := by decide +kernel
theorem dL_law_36 : decode cL_law 36 = .ok (.bipush 31, 2) := by decide +kernel
theorem dL_law_38 : decode cL_law 38 = .ok (.iand, 1) := by decide +kernel
theorem dL_law_39 : decode cL_law 39 = .ok (.tableswitch 1812 0 28 #[129, 197, 253, 337, 393, 449, 517, 601, 676, 732, 788, 856, 936, 1004, 1072, 1152, 1232, 1288, 1301, 1314, 1370, 1426, 1482, 1550, 1606, 1674, 1730, 1786, 1799], 129) := by decide +kernel
theorem dL_law_168 : decode cL_law 168 = .ok (.aload_n 1, 1) := by decide +kernel
theorem dL_law_169 : decode cL_law 169 = .ok (.aload_n 0, 1) := by decide +kernel
theorem dL_law_170 : decode cL_law 170 = .ok (.iload 4, 2) := by decide +kernel
theorem dL_law_172 : decode cL_law 172 = .ok (.iconst 1, 1) := by decide +kernel
theorem dL_law_173 : decode cL_law 173 = .ok (.iadd, 1) := by decide +kernel
theorem dL_law_174 : decode cL_law 174 = .ok (.iaload, 1) := by decide +kernel
theorem dL_law_175 : decode cL_law 175 = .ok (.aload_n 0, 1) := by decide +kernel
theorem dL_law_176 : decode cL_law 176 = .ok (.iload 4, 2) := by decide +kernel
theorem dL_law_178 : decode cL_law 178 = .ok (.iconst 2, 1) := by decide +kernel
theorem dL_law_179 : decode cL_law 179 = .ok (.iadd, 1) := by decide +kernel
theorem dL_law_180 : decode cL_law 180 = .ok (.iaload, 1) := by decide +kernel
theorem dL_law_181 : decode cL_law 181 = .ok (.aload_n 3, 1) := by decide +kernel
theorem dL_law_182 : decode cL_law 182 = .ok (.invokestatic 99, 3) := by decide +kernel
theorem dL_law_185 : decode cL_law 185 = .ok (.istore 5, 2) := by decide +kernel
theorem dL_law_187 : decode cL_law 187 = .ok (.aload_n 2, 1) := by decide +kernel
theorem dL_law_188 : decode cL_law 188 = .ok (.aload_n 0, 1) := by decide +kernel
theorem dL_law_189 : decode cL_law 189 = .ok (.iload 4, 2) := by decide +kernel
theorem dL_law_191 : decode cL_law 191 = .ok (.iconst 1, 1) := by decide +kernel
theorem dL_law_192 : decode cL_law 192 = .ok (.iadd, 1) := by decide +kernel
theorem dL_law_193 : decode cL_law 193 = .ok (.iaload, 1) := by decide +kernel
theorem dL_law_194 : decode cL_law 194 = .ok (.aload_n 0, 1) := by decide +kernel
theorem dL_law_195 : decode cL_law 195 = .ok (.iload 4, 2) := by decide +kernel
theorem dL_law_197 : decode cL_law 197 = .ok (.iconst 2, 1) := by decide +kernel
theorem dL_law_198 : decode cL_law 198 = .ok (.iadd, 1) := by decide +kernel
theorem dL_law_199 : decode cL_law 199 = .ok (.iaload, 1) := by decide +kernel
theorem dL_law_200 : decode cL_law 200 = .ok (.invokevirtual 104, 3) := by decide +kernel
theorem dL_law_203 : decode cL_law 203 = .ok (.istore 6, 2) := by decide +kernel
theorem dL_law_205 : decode cL_law 205 = .ok (.aload_n 2, 1) := by decide +kernel
theorem dL_law_206 : decode cL_law 206 = .ok (.invokevirtual 105, 3) := by decide +kernel
theorem dL_law_209 : decode cL_law 209 = .ok (.iload 5, 2) := by decide +kernel
theorem dL_law_211 : decode cL_law 211 = .ok (.if_icmp .eq 5, 3) := by decide +kernel
theorem dL_law_214 : decode cL_law 214 = .ok (.iconst 0, 1) := by decide +kernel
theorem dL_law_215 : decode cL_law 215 = .ok (.ireturn, 1) := by decide +kernel
theorem dL_law_216 : decode cL_law 216 = .ok (.iload 5, 2) := by decide +kernel
theorem dL_law_218 : decode cL_law 218 = .ok (.ifCond .ne 15, 3) := by decide +kernel
theorem dL_law_221 : decode cL_law 221 = .ok (.aload_n 3, 1) := by decide +kernel
theorem dL_law_222 : decode cL_law 222 = .ok (.iconst 0, 1) := by decide +kernel
theorem dL_law_223 : decode cL_law 223 = .ok (.laload, 1) := by decide +kernel
theorem dL_law_224 : decode cL_law 224 = .ok (.iload 6, 2) := by decide +kernel
theorem dL_law_226 : decode cL_law 226 = .ok (.i2l, 1) := by decide +kernel
theorem dL_law_227 : decode cL_law 227 = .ok (.lcmp, 1) := by decide +kernel
theorem dL_law_228 : decode cL_law 228 = .ok (.ifCond .eq 5, 3) := by decide +kernel
theorem dL_law_231 : decode cL_law 231 = .ok (.iconst 0, 1) := by decide +kernel
theorem dL_law_232 : decode cL_law 232 = .ok (.ireturn, 1) := by decide +kernel
theorem dL_law_233 : decode cL_law 233 = .ok (.goto 1618, 3) := by decide +kernel
theorem dL_law_236 : decode cL_law 236 = .ok (.aload_n 1, 1) := by decide +kernel
theorem dL_law_237 : decode cL_law 237 = .ok (.aload_n 0, 1) := by decide +kernel
theorem dL_law_238 : decode cL_law 238 = .ok (.iload 4, 2) := by decide +kernel
theorem dL_law_240 : decode cL_law 240 = .ok (.iconst 1, 1) := by decide +kernel
theorem dL_law_241 : decode cL_law 241 = .ok (.iadd, 1) := by decide +kernel
theorem dL_law_242 : decode cL_law 242 = .ok (.iaload, 1) := by decide +kernel
theorem dL_law_243 : decode cL_law 243 = .ok (.aload_n 3, 1) := by decide +kernel
theorem dL_law_244 : decode cL_law 244 = .ok (.invokestatic 109, 3) := by decide +kernel
theorem dL_law_247 : decode cL_law 247 = .ok (.istore 5, 2) := by decide +kernel
theorem dL_law_249 : decode cL_law 249 = .ok (.aload_n 2, 1) := by decide +kernel
theorem dL_law_250 : decode cL_law 250 = .ok (.aload_n 0, 1) := by decide +kernel
theorem dL_law_251 : decode cL_law 251 = .ok (.iload 4, 2) := by decide +kernel
theorem dL_law_253 : decode cL_law 253 = .ok (.iconst 1, 1) := by decide +kernel
theorem dL_law_254 : decode cL_law 254 = .ok (.iadd, 1) := by decide +kernel
theorem dL_law_255 : decode cL_law 255 = .ok (.iaload, 1) := by decide +kernel
theorem dL_law_256 : decode cL_law 256 = .ok (.invokevirtual 112, 3) := by decide +kernel
theorem dL_law_259 : decode cL_law 259 = .ok (.istore 6, 2) := by decide +kernel
theorem dL_law_261 : decode cL_law 261 = .ok (.aload_n 2, 1) := by decide +kernel
theorem dL_law_262 : decode cL_law 262 = .ok (.invokevirtual 105, 3) := by decide +kernel
theorem dL_law_265 : decode cL_law 265 = .ok (.iload 5, 2) := by decide +kernel
theorem dL_law_267 : decode cL_law 267 = .ok (.if_icmp .eq 5, 3) := by decide +kernel
theorem dL_law_270 : decode cL_law 270 = .ok (.iconst 0, 1) := by decide +kernel
theorem dL_law_271 : decode cL_law 271 = .ok (.ireturn, 1) := by decide +kernel
theorem dL_law_272 : decode cL_law 272 = .ok (.iload 5, 2) := by decide +kernel
theorem dL_law_274 : decode cL_law 274 = .ok (.ifCond .ne 15, 3) := by decide +kernel
theorem dL_law_277 : decode cL_law 277 = .ok (.aload_n 3, 1) := by decide +kernel
theorem dL_law_278 : decode cL_law 278 = .ok (.iconst 0, 1) := by decide +kernel
theorem dL_law_279 : decode cL_law 279 = .ok (.laload, 1) := by decide +kernel
theorem dL_law_280 : decode cL_law 280 = .ok (.iload 6, 2) := by decide +kernel
theorem dL_law_282 : decode cL_law 282 = .ok (.i2l, 1) := by decide +kernel
theorem dL_law_283 : decode cL_law 283 = .ok (.lcmp, 1) := by decide +kernel
theorem dL_law_284 : decode cL_law 284 = .ok (.ifCond .eq 5, 3) := by decide +kernel
theorem dL_law_287 : decode cL_law 287 = .ok (.iconst 0, 1) := by decide +kernel
theorem dL_law_288 : decode cL_law 288 = .ok (.ireturn, 1) := by decide +kernel
theorem dL_law_289 : decode cL_law 289 = .ok (.goto 1562, 3) := by decide +kernel
theorem dL_law_292 : decode cL_law 292 = .ok (.aload_n 1, 1) := by decide +kernel
theorem dL_law_293 : decode cL_law 293 = .ok (.aload_n 0, 1) := by decide +kernel
theorem dL_law_294 : decode cL_law 294 = .ok (.iload 4, 2) := by decide +kernel
theorem dL_law_296 : decode cL_law 296 = .ok (.iconst 1, 1) := by decide +kernel
theorem dL_law_297 : decode cL_law 297 = .ok (.iadd, 1) := by decide +kernel
theorem dL_law_298 : decode cL_law 298 = .ok (.iaload, 1) := by decide +kernel
theorem dL_law_299 : decode cL_law 299 = .ok (.aload_n 0, 1) := by decide +kernel
theorem dL_law_300 : decode cL_law 300 = .ok (.iload 4, 2) := by decide +kernel
theorem dL_law_302 : decode cL_law 302 = .ok (.iconst 2, 1) := by decide +kernel
theorem dL_law_303 : decode cL_law 303 = .ok (.iadd, 1) := by decide +kernel
theorem dL_law_304 : decode cL_law 304 = .ok (.iaload, 1) := by decide +kernel
theorem dL_law_305 : decode cL_law 305 = .ok (.ifCond .eq 7, 3) := by decide +kernel
theorem dL_law_308 : decode cL_law 308 = .ok (.iconst 1, 1) := by decide +kernel
theorem dL_law_309 : decode cL_law 309 = .ok (.goto 4, 3) := by decide +kernel
theorem dL_law_312 : decode cL_law 312 = .ok (.iconst 0, 1) := by decide +kernel
theorem dL_law_313 : decode cL_law 313 = .ok (.aload_n 3, 1) := by decide +kernel
theorem dL_law_314 : decode cL_law 314 = .ok (.invokestatic 113, 3) := by decide +kernel
theorem dL_law_317 : decode cL_law 317 = .ok (.istore 5, 2) := by decide +kernel
theorem dL_law_319 : decode cL_law 319 = .ok (.aload_n 2, 1) := by decide +kernel
theorem dL_law_320 : decode cL_law 320 = .ok (.aload_n 0, 1) := by decide +kernel
theorem dL_law_321 : decode cL_law 321 = .ok (.iload 4, 2) := by decide +kernel
theorem dL_law_323 : decode cL_law 323 = .ok (.iconst 1, 1) := by decide +kernel
theorem dL_law_324 : decode cL_law 324 = .ok (.iadd, 1) := by decide +kernel
theorem dL_law_325 : decode cL_law 325 = .ok (.iaload, 1) := by decide +kernel
theorem dL_law_326 : decode cL_law 326 = .ok (.aload_n 0, 1) := by decide +kernel
theorem dL_law_327 : decode cL_law 327 = .ok (.iload 4, 2) := by decide +kernel
theorem dL_law_329 : decode cL_law 329 = .ok (.iconst 2, 1) := by decide +kernel
theorem dL_law_330 : decode cL_law 330 = .ok (.iadd, 1) := by decide +kernel
theorem dL_law_331 : decode cL_law 331 = .ok (.iaload, 1) := by decide +kernel
theorem dL_law_332 : decode cL_law 332 = .ok (.ifCond .eq 7, 3) := by decide +kernel
theorem dL_law_335 : decode cL_law 335 = .ok (.iconst 1, 1) := by decide +kernel
theorem dL_law_336 : decode cL_law 336 = .ok (.goto 4, 3) := by decide +kernel
theorem dL_law_339 : decode cL_law 339 = .ok (.iconst 0, 1) := by decide +kernel
theorem dL_law_340 : decode cL_law 340 = .ok (.invokevirtual 116, 3) := by decide +kernel
theorem dL_law_343 : decode cL_law 343 = .ok (.istore 6, 2) := by decide +kernel
theorem dL_law_345 : decode cL_law 345 = .ok (.aload_n 2, 1) := by decide +kernel
theorem dL_law_346 : decode cL_law 346 = .ok (.invokevirtual 105, 3) := by decide +kernel
theorem dL_law_349 : decode cL_law 349 = .ok (.iload 5, 2) := by decide +kernel
theorem dL_law_351 : decode cL_law 351 = .ok (.if_icmp .eq 5, 3) := by decide +kernel
theorem dL_law_354 : decode cL_law 354 = .ok (.iconst 0, 1) := by decide +kernel
theorem dL_law_355 : decode cL_law 355 = .ok (.ireturn, 1) := by decide +kernel
theorem dL_law_356 : decode cL_law 356 = .ok (.iload 5, 2) := by decide +kernel
theorem dL_law_358 : decode cL_law 358 = .ok (.ifCond .ne 15, 3) := by decide +kernel
theorem dL_law_361 : decode cL_law 361 = .ok (.aload_n 3, 1) := by decide +kernel
theorem dL_law_362 : decode cL_law 362 = .ok (.iconst 0, 1) := by decide +kernel
theorem dL_law_363 : decode cL_law 363 = .ok (.laload, 1) := by decide +kernel
theorem dL_law_364 : decode cL_law 364 = .ok (.iload 6, 2) := by decide +kernel
theorem dL_law_366 : decode cL_law 366 = .ok (.i2l, 1) := by decide +kernel
theorem dL_law_367 : decode cL_law 367 = .ok (.lcmp, 1) := by decide +kernel
theorem dL_law_368 : decode cL_law 368 = .ok (.ifCond .eq 5, 3) := by decide +kernel
theorem dL_law_371 : decode cL_law 371 = .ok (.iconst 0, 1) := by decide +kernel
theorem dL_law_372 : decode cL_law 372 = .ok (.ireturn, 1) := by decide +kernel
theorem dL_law_373 : decode cL_law 373 = .ok (.goto 1478, 3) := by decide +kernel
theorem dL_law_376 : decode cL_law 376 = .ok (.aload_n 1, 1) := by decide +kernel
theorem dL_law_377 : decode cL_law 377 = .ok (.aload_n 0, 1) := by decide +kernel
theorem dL_law_378 : decode cL_law 378 = .ok (.iload 4, 2) := by decide +kernel
theorem dL_law_380 : decode cL_law 380 = .ok (.iconst 1, 1) := by decide +kernel
theorem dL_law_381 : decode cL_law 381 = .ok (.iadd, 1) := by decide +kernel
theorem dL_law_382 : decode cL_law 382 = .ok (.iaload, 1) := by decide +kernel
theorem dL_law_383 : decode cL_law 383 = .ok (.aload_n 3, 1) := by decide +kernel
theorem dL_law_384 : decode cL_law 384 = .ok (.invokestatic 117, 3) := by decide +kernel
theorem dL_law_387 : decode cL_law 387 = .ok (.istore 5, 2) := by decide +kernel
theorem dL_law_389 : decode cL_law 389 = .ok (.aload_n 2, 1) := by decide +kernel
theorem dL_law_390 : decode cL_law 390 = .ok (.aload_n 0, 1) := by decide +kernel
theorem dL_law_391 : decode cL_law 391 = .ok (.iload 4, 2) := by decide +kernel
theorem dL_law_393 : decode cL_law 393 = .ok (.iconst 1, 1) := by decide +kernel
theorem dL_law_394 : decode cL_law 394 = .ok (.iadd, 1) := by decide +kernel
theorem dL_law_395 : decode cL_law 395 = .ok (.iaload, 1) := by decide +kernel
theorem dL_law_396 : decode cL_law 396 = .ok (.invokevirtual 119, 3) := by decide +kernel
theorem dL_law_399 : decode cL_law 399 = .ok (.istore 6, 2) := by decide +kernel
theorem dL_law_401 : decode cL_law 401 = .ok (.aload_n 2, 1) := by decide +kernel
theorem dL_law_402 : decode cL_law 402 = .ok (.invokevirtual 105, 3) := by decide +kernel
theorem dL_law_405 : decode cL_law 405 = .ok (.iload 5, 2) := by decide +kernel
theorem dL_law_407 : decode cL_law 407 = .ok (.if_icmp .eq 5, 3) := by decide +kernel
theorem dL_law_410 : decode cL_law 410 = .ok (.iconst 0, 1) := by decide +kernel
theorem dL_law_411 : decode cL_law 411 = .ok (.ireturn, 1) := by decide +kernel
theorem dL_law_412 : decode cL_law 412 = .ok (.iload 5, 2) := by decide +kernel
theorem dL_law_414 : decode cL_law 414 = .ok (.ifCond .ne 15, 3) := by decide +kernel
theorem dL_law_417 : decode cL_law 417 = .ok (.aload_n 3, 1) := by decide +kernel
theorem dL_law_418 : decode cL_law 418 = .ok (.iconst 0, 1) := by decide +kernel
theorem dL_law_419 : decode cL_law 419 = .ok (.laload, 1) := by decide +kernel
theorem dL_law_420 : decode cL_law 420 = .ok (.iload 6, 2) := by decide +kernel
theorem dL_law_422 : decode cL_law 422 = .ok (.i2l, 1) := by decide +kernel
theorem dL_law_423 : decode cL_law 423 = .ok (.lcmp, 1) := by decide +kernel
theorem dL_law_424 : decode cL_law 424 = .ok (.ifCond .eq 5, 3) := by decide +kernel
theorem dL_law_427 : decode cL_law 427 = .ok (.iconst 0, 1) := by decide +kernel
theorem dL_law_428 : decode cL_law 428 = .ok (.ireturn, 1) := by decide +kernel
theorem dL_law_429 : decode cL_law 429 = .ok (.goto 1422, 3) := by decide +kernel
theorem dL_law_432 : decode cL_law 432 = .ok (.aload_n 1, 1) := by decide +kernel
theorem dL_law_433 : decode cL_law 433 = .ok (.aload_n 0, 1) := by decide +kernel
theorem dL_law_434 : decode cL_law 434 = .ok (.iload 4, 2) := by decide +kernel
theorem dL_law_436 : decode cL_law 436 = .ok (.iconst 1, 1) := by decide +kernel
theorem dL_law_437 : decode cL_law 437 = .ok (.iadd, 1) := by decide +kernel
theorem dL_law_438 : decode cL_law 438 = .ok (.iaload, 1) := by decide +kernel
theorem dL_law_439 : decode cL_law 439 = .ok (.aload_n 3, 1) := by decide +kernel
theorem dL_law_440 : decode cL_law 440 = .ok (.invokestatic 120, 3) := by decide +kernel
theorem dL_law_443 : decode cL_law 443 = .ok (.istore 5, 2) := by decide +kernel
theorem dL_law_445 : decode cL_law 445 = .ok (.aload_n 2, 1) := by decide +kernel
theorem dL_law_446 : decode cL_law 446 = .ok (.aload_n 0, 1) := by decide +kernel
theorem dL_law_447 : decode cL_law 447 = .ok (.iload 4, 2) := by decide +kernel
theorem dL_law_449 : decode cL_law 449 = .ok (.iconst 1, 1) := by decide +kernel
theorem dL_law_450 : decode cL_law 450 = .ok (.iadd, 1) := by decide +kernel
theorem dL_law_451 : decode cL_law 451 = .ok (.iaload, 1) := by decide +kernel
theorem dL_law_452 : decode cL_law 452 = .ok (.invokevirtual 122, 3) := by decide +kernel
theorem dL_law_455 : decode cL_law 455 = .ok (.istore 6, 2) := by decide +kernel
theorem dL_law_457 : decode cL_law 457 = .ok (.aload_n 2, 1) := by decide +kernel
theorem dL_law_458 : decode cL_law 458 = .ok (.invokevirtual 105, 3) := by decide +kernel
theorem dL_law_461 : decode cL_law 461 = .ok (.iload 5, 2) := by decide +kernel
theorem dL_law_463 : decode cL_law 463 = .ok (.if_icmp .eq 5, 3) := by decide +kernel
theorem dL_law_466 : decode cL_law 466 = .ok (.iconst 0, 1) := by decide +kernel
theorem dL_law_467 : decode cL_law 467 = .ok (.ireturn, 1) := by decide +kernel
theorem dL_law_468 : decode cL_law 468 = .ok (.iload 5, 2) := by decide +kernel
theorem dL_law_470 : decode cL_law 470 = .ok (.ifCond .ne 15, 3) := by decide +kernel
theorem dL_law_473 : decode cL_law 473 = .ok (.aload_n 3, 1) := by decide +kernel
theorem dL_law_474 : decode cL_law 474 = .ok (.iconst 0, 1) := by decide +kernel
theorem dL_law_475 : decode cL_law 475 = .ok (.laload, 1) := by decide +kernel
theorem dL_law_476 : decode cL_law 476 = .ok (.iload 6, 2) := by decide +kernel
theorem dL_law_478 : decode cL_law 478 = .ok (.i2l, 1) := by decide +kernel
theorem dL_law_479 : decode cL_law 479 = .ok (.lcmp, 1) := by decide +kernel
theorem dL_law_480 : decode cL_law 480 = .ok (.ifCond .eq 5, 3) := by decide +kernel
theorem dL_law_483 : decode cL_law 483 = .ok (.iconst 0, 1) := by decide +kernel
theorem dL_law_484 : decode cL_law 484 = .ok (.ireturn, 1) := by decide +kernel
theorem dL_law_485 : decode cL_law 485 = .ok (.goto 1366, 3) := by decide +kernel
theorem dL_law_488 : decode cL_law 488 = .ok (.aload_n 1, 1) := by decide +kernel
theorem dL_law_489 : decode cL_law 489 = .ok (.aload_n 0, 1) := by decide +kernel
theorem dL_law_490 : decode cL_law 490 = .ok (.iload 4, 2) := by decide +kernel
theorem dL_law_492 : decode cL_law 492 = .ok (.iconst 1, 1) := by decide +kernel
theorem dL_law_493 : decode cL_law 493 = .ok (.iadd, 1) := by decide +kernel
theorem dL_law_494 : decode cL_law 494 = .ok (.iaload, 1) := by decide +kernel
theorem dL_law_495 : decode cL_law 495 = .ok (.aload_n 0, 1) := by decide +kernel
theorem dL_law_496 : decode cL_law 496 = .ok (.iload 4, 2) := by decide +kernel
theorem dL_law_498 : decode cL_law 498 = .ok (.iconst 2, 1) := by decide +kernel
theorem dL_law_499 : decode cL_law 499 = .ok (.iadd, 1) := by decide +kernel
theorem dL_law_500 : decode cL_law 500 = .ok (.iaload, 1) := by decide +kernel
theorem dL_law_501 : decode cL_law 501 = .ok (.aload_n 3, 1) := by decide +kernel
theorem dL_law_502 : decode cL_law 502 = .ok (.invokestatic 123, 3) := by decide +kernel
theorem dL_law_505 : decode cL_law 505 = .ok (.istore 5, 2) := by decide +kernel
theorem dL_law_507 : decode cL_law 507 = .ok (.aload_n 2, 1) := by decide +kernel
theorem dL_law_508 : decode cL_law 508 = .ok (.aload_n 0, 1) := by decide +kernel
theorem dL_law_509 : decode cL_law 509 = .ok (.iload 4, 2) := by decide +kernel
theorem dL_law_511 : decode cL_law 511 = .ok (.iconst 1, 1) := by decide +kernel
theorem dL_law_512 : decode cL_law 512 = .ok (.iadd, 1) := by decide +kernel
theorem dL_law_513 : decode cL_law 513 = .ok (.iaload, 1) := by decide +kernel
theorem dL_law_514 : decode cL_law 514 = .ok (.aload_n 0, 1) := by decide +kernel
theorem dL_law_515 : decode cL_law 515 = .ok (.iload 4, 2) := by decide +kernel
theorem dL_law_517 : decode cL_law 517 = .ok (.iconst 2, 1) := by decide +kernel
theorem dL_law_518 : decode cL_law 518 = .ok (.iadd, 1) := by decide +kernel
theorem dL_law_519 : decode cL_law 519 = .ok (.iaload, 1) := by decide +kernel
theorem dL_law_520 : decode cL_law 520 = .ok (.invokevirtual 125, 3) := by decide +kernel
theorem dL_law_523 : decode cL_law 523 = .ok (.istore 6, 2) := by decide +kernel
theorem dL_law_525 : decode cL_law 525 = .ok (.aload_n 2, 1) := by decide +kernel
theorem dL_law_526 : decode cL_law 526 = .ok (.invokevirtual 105, 3) := by decide +kernel
theorem dL_law_529 : decode cL_law 529 = .ok (.iload 5, 2) := by decide +kernel
theorem dL_law_531 : decode cL_law 531 = .ok (.if_icmp .eq 5, 3) := by decide +kernel
theorem dL_law_534 : decode cL_law 534 = .ok (.iconst 0, 1) := by decide +kernel
theorem dL_law_535 : decode cL_law 535 = .ok (.ireturn, 1) := by decide +kernel
theorem dL_law_536 : decode cL_law 536 = .ok (.iload 5, 2) := by decide +kernel
theorem dL_law_538 : decode cL_law 538 = .ok (.ifCond .ne 15, 3) := by decide +kernel
theorem dL_law_541 : decode cL_law 541 = .ok (.aload_n 3, 1) := by decide +kernel
theorem dL_law_542 : decode cL_law 542 = .ok (.iconst 0, 1) := by decide +kernel
theorem dL_law_543 : decode cL_law 543 = .ok (.laload, 1) := by decide +kernel
theorem dL_law_544 : decode cL_law 544 = .ok (.iload 6, 2) := by decide +kernel
theorem dL_law_546 : decode cL_law 546 = .ok (.i2l, 1) := by decide +kernel
theorem dL_law_547 : decode cL_law 547 = .ok (.lcmp, 1) := by decide +kernel
theorem dL_law_548 : decode cL_law 548 = .ok (.ifCond .eq 5, 3) := by decide +kernel
theorem dL_law_551 : decode cL_law 551 = .ok (.iconst 0, 1) := by decide +kernel
theorem dL_law_552 : decode cL_law 552 = .ok (.ireturn, 1) := by decide +kernel
theorem dL_law_553 : decode cL_law 553 = .ok (.goto 1298, 3) := by decide +kernel
theorem dL_law_556 : decode cL_law 556 = .ok (.aload_n 1, 1) := by decide +kernel
theorem dL_law_557 : decode cL_law 557 = .ok (.aload_n 0, 1) := by decide +kernel
theorem dL_law_558 : decode cL_law 558 = .ok (.iload 4, 2) := by decide +kernel
theorem dL_law_560 : decode cL_law 560 = .ok (.iconst 1, 1) := by decide +kernel
theorem dL_law_561 : decode cL_law 561 = .ok (.iadd, 1) := by decide +kernel
theorem dL_law_562 : decode cL_law 562 = .ok (.iaload, 1) := by decide +kernel
theorem dL_law_563 : decode cL_law 563 = .ok (.aload_n 0, 1) := by decide +kernel
theorem dL_law_564 : decode cL_law 564 = .ok (.iload 4, 2) := by decide +kernel
theorem dL_law_566 : decode cL_law 566 = .ok (.iconst 2, 1) := by decide +kernel
theorem dL_law_567 : decode cL_law 567 = .ok (.iadd, 1) := by decide +kernel
theorem dL_law_568 : decode cL_law 568 = .ok (.iaload, 1) := by decide +kernel
theorem dL_law_569 : decode cL_law 569 = .ok (.ifCond .eq 7, 3) := by decide +kernel
theorem dL_law_572 : decode cL_law 572 = .ok (.iconst 1, 1) := by decide +kernel
theorem dL_law_573 : decode cL_law 573 = .ok (.goto 4, 3) := by decide +kernel
theorem dL_law_576 : decode cL_law 576 = .ok (.iconst 0, 1) := by decide +kernel
theorem dL_law_577 : decode cL_law 577 = .ok (.aload_n 3, 1) := by decide +kernel
theorem dL_law_578 : decode cL_law 578 = .ok (.invokestatic 126, 3) := by decide +kernel
theorem dL_law_581 : decode cL_law 581 = .ok (.istore 5, 2) := by decide +kernel
theorem dL_law_583 : decode cL_law 583 = .ok (.aload_n 2, 1) := by decide +kernel
theorem dL_law_584 : decode cL_law 584 = .ok (.aload_n 0, 1) := by decide +kernel
theorem dL_law_585 : decode cL_law 585 = .ok (.iload 4, 2) := by decide +kernel
theorem dL_law_587 : decode cL_law 587 = .ok (.iconst 1, 1) := by decide +kernel
theorem dL_law_588 : decode cL_law 588 = .ok (.iadd, 1) := by decide +kernel
theorem dL_law_589 : decode cL_law 589 = .ok (.iaload, 1) := by decide +kernel
theorem dL_law_590 : decode cL_law 590 = .ok (.aload_n 0, 1) := by decide +kernel
theorem dL_law_591 : decode cL_law 591 = .ok (.iload 4, 2) := by decide +kernel
theorem dL_law_593 : decode cL_law 593 = .ok (.iconst 2, 1) := by decide +kernel
theorem dL_law_594 : decode cL_law 594 = .ok (.iadd, 1) := by decide +kernel
theorem dL_law_595 : decode cL_law 595 = .ok (.iaload, 1) := by decide +kernel
theorem dL_law_596 : decode cL_law 596 = .ok (.ifCond .eq 7, 3) := by decide +kernel
theorem dL_law_599 : decode cL_law 599 = .ok (.iconst 1, 1) := by decide +kernel
theorem dL_law_600 : decode cL_law 600 = .ok (.goto 4, 3) := by decide +kernel
theorem dL_law_603 : decode cL_law 603 = .ok (.iconst 0, 1) := by decide +kernel
theorem dL_law_604 : decode cL_law 604 = .ok (.invokevirtual 128, 3) := by decide +kernel
theorem dL_law_607 : decode cL_law 607 = .ok (.istore 6, 2) := by decide +kernel
theorem dL_law_609 : decode cL_law 609 = .ok (.aload_n 2, 1) := by decide +kernel
theorem dL_law_610 : decode cL_law 610 = .ok (.invokevirtual 105, 3) := by decide +kernel
theorem dL_law_613 : decode cL_law 613 = .ok (.iload 5, 2) := by decide +kernel
theorem dL_law_615 : decode cL_law 615 = .ok (.if_icmp .eq 5, 3) := by decide +kernel
theorem dL_law_618 : decode cL_law 618 = .ok (.iconst 0, 1) := by decide +kernel
theorem dL_law_619 : decode cL_law 619 = .ok (.ireturn, 1) := by decide +kernel
theorem dL_law_620 : decode cL_law 620 = .ok (.iload 5, 2) := by decide +kernel
theorem dL_law_622 : decode cL_law 622 = .ok (.ifCond .ne 15, 3) := by decide +kernel
theorem dL_law_625 : decode cL_law 625 = .ok (.aload_n 3, 1) := by decide +kernel
theorem dL_law_626 : decode cL_law 626 = .ok (.iconst 0, 1) := by decide +kernel
theorem dL_law_627 : decode cL_law 627 = .ok (.laload, 1) := by decide +kernel
theorem dL_law_628 : decode cL_law 628 = .ok (.iload 6, 2) := by decide +kernel
theorem dL_law_630 : decode cL_law 630 = .ok (.i2l, 1) := by decide +kernel
theorem dL_law_631 : decode cL_law 631 = .ok (.lcmp, 1) := by decide +kernel
theorem dL_law_632 : decode cL_law 632 = .ok (.ifCond .eq 5, 3) := by decide +kernel
theorem dL_law_635 : decode cL_law 635 = .ok (.iconst 0, 1) := by decide +kernel
theorem dL_law_636 : decode cL_law 636 = .ok (.ireturn, 1) := by decide +kernel
theorem dL_law_637 : decode cL_law 637 = .ok (.goto 1214, 3) := by decide +kernel
theorem dL_law_640 : decode cL_law 640 = .ok (.aload_n 1, 1) := by decide +kernel
theorem dL_law_641 : decode cL_law 641 = .ok (.aload_n 0, 1) := by decide +kernel
theorem dL_law_642 : decode cL_law 642 = .ok (.iload 4, 2) := by decide +kernel
theorem dL_law_644 : decode cL_law 644 = .ok (.iconst 1, 1) := by decide +kernel
theorem dL_law_645 : decode cL_law 645 = .ok (.iadd, 1) := by decide +kernel
theorem dL_law_646 : decode cL_law 646 = .ok (.iaload, 1) := by decide +kernel
theorem dL_law_647 : decode cL_law 647 = .ok (.aload_n 0, 1) := by decide +kernel
theorem dL_law_648 : decode cL_law 648 = .ok (.iload 4, 2) := by decide +kernel
theorem dL_law_650 : decode cL_law 650 = .ok (.iconst 2, 1) := by decide +kernel
theorem dL_law_651 : decode cL_law 651 = .ok (.iadd, 1) := by decide +kernel
theorem dL_law_652 : decode cL_law 652 = .ok (.iaload, 1) := by decide +kernel
theorem dL_law_653 : decode cL_law 653 = .ok (.aload_n 3, 1) := by decide +kernel
theorem dL_law_654 : decode cL_law 654 = .ok (.invokestatic 129, 3) := by decide +kernel
theorem dL_law_657 : decode cL_law 657 = .ok (.istore 5, 2) := by decide +kernel
theorem dL_law_659 : decode cL_law 659 = .ok (.aload_n 2, 1) := by decide +kernel
theorem dL_law_660 : decode cL_law 660 = .ok (.aload_n 0, 1) := by decide +kernel
theorem dL_law_661 : decode cL_law 661 = .ok (.iload 4, 2) := by decide +kernel
theorem dL_law_663 : decode cL_law 663 = .ok (.iconst 1, 1) := by decide +kernel
theorem dL_law_664 : decode cL_law 664 = .ok (.iadd, 1) := by decide +kernel
theorem dL_law_665 : decode cL_law 665 = .ok (.iaload, 1) := by decide +kernel
theorem dL_law_666 : decode cL_law 666 = .ok (.aload_n 0, 1) := by decide +kernel
theorem dL_law_667 : decode cL_law 667 = .ok (.iload 4, 2) := by decide +kernel
theorem dL_law_669 : decode cL_law 669 = .ok (.iconst 2, 1) := by decide +kernel
theorem dL_law_670 : decode cL_law 670 = .ok (.iadd, 1) := by decide +kernel
theorem dL_law_671 : decode cL_law 671 = .ok (.iaload, 1) := by decide +kernel
theorem dL_law_672 : decode cL_law 672 = .ok (.invokevirtual 131, 3) := by decide +kernel
theorem dL_law_675 : decode cL_law 675 = .ok (.istore 6, 2) := by decide +kernel
theorem dL_law_677 : decode cL_law 677 = .ok (.aload_n 2, 1) := by decide +kernel
theorem dL_law_678 : decode cL_law 678 = .ok (.invokevirtual 105, 3) := by decide +kernel
theorem dL_law_681 : decode cL_law 681 = .ok (.iload 5, 2) := by decide +kernel
theorem dL_law_683 : decode cL_law 683 = .ok (.if_icmp .eq 5, 3) := by decide +kernel
theorem dL_law_686 : decode cL_law 686 = .ok (.iconst 0, 1) := by decide +kernel
theorem dL_law_687 : decode cL_law 687 = .ok (.ireturn, 1) := by decide +kernel
theorem dL_law_688 : decode cL_law 688 = .ok (.iload 5, 2) := by decide +kernel
theorem dL_law_690 : decode cL_law 690 = .ok (.ifCond .ne 22, 3) := by decide +kernel
theorem dL_law_693 : decode cL_law 693 = .ok (.aload_n 3, 1) := by decide +kernel
theorem dL_law_694 : decode cL_law 694 = .ok (.iconst 0, 1) := by decide +kernel
theorem dL_law_695 : decode cL_law 695 = .ok (.laload, 1) := by decide +kernel
theorem dL_law_696 : decode cL_law 696 = .ok (.iload 6, 2) := by decide +kernel
theorem dL_law_698 : decode cL_law 698 = .ok (.ifCond .eq 7, 3) := by decide +kernel
theorem dL_law_701 : decode cL_law 701 = .ok (.lconst 1, 1) := by decide +kernel
theorem dL_law_702 : decode cL_law 702 = .ok (.goto 4, 3) := by decide +kernel
theorem dL_law_705 : decode cL_law 705 = .ok (.lconst 0, 1) := by decide +kernel
theorem dL_law_706 : decode cL_law 706 = .ok (.lcmp, 1) := by decide +kernel
theorem dL_law_707 : decode cL_law 707 = .ok (.ifCond .eq 5, 3) := by decide +kernel
theorem dL_law_710 : decode cL_law 710 = .ok (.iconst 0, 1) := by decide +kernel
theorem dL_law_711 : decode cL_law 711 = .ok (.ireturn, 1) := by decide +kernel
theorem dL_law_712 : decode cL_law 712 = .ok (.goto 1139, 3) := by decide +kernel
theorem dL_law_715 : decode cL_law 715 = .ok (.aload_n 1, 1) := by decide +kernel
theorem dL_law_716 : decode cL_law 716 = .ok (.aload_n 0, 1) := by decide +kernel
theorem dL_law_717 : decode cL_law 717 = .ok (.iload 4, 2) := by decide +kernel
theorem dL_law_719 : decode cL_law 719 = .ok (.iconst 1, 1) := by decide +kernel
theorem dL_law_720 : decode cL_law 720 = .ok (.iadd, 1) := by decide +kernel
theorem dL_law_721 : decode cL_law 721 = .ok (.iaload, 1) := by decide +kernel
theorem dL_law_722 : decode cL_law 722 = .ok (.aload_n 3, 1) := by decide +kernel
theorem dL_law_723 : decode cL_law 723 = .ok (.invokestatic 132, 3) := by decide +kernel
theorem dL_law_726 : decode cL_law 726 = .ok (.istore 5, 2) := by decide +kernel
theorem dL_law_728 : decode cL_law 728 = .ok (.aload_n 2, 1) := by decide +kernel
theorem dL_law_729 : decode cL_law 729 = .ok (.aload_n 0, 1) := by decide +kernel
theorem dL_law_730 : decode cL_law 730 = .ok (.iload 4, 2) := by decide +kernel
theorem dL_law_732 : decode cL_law 732 = .ok (.iconst 1, 1) := by decide +kernel
theorem dL_law_733 : decode cL_law 733 = .ok (.iadd, 1) := by decide +kernel
theorem dL_law_734 : decode cL_law 734 = .ok (.iaload, 1) := by decide +kernel
theorem dL_law_735 : decode cL_law 735 = .ok (.invokevirtual 134, 3) := by decide +kernel
theorem dL_law_738 : decode cL_law 738 = .ok (.istore 6, 2) := by decide +kernel
theorem dL_law_740 : decode cL_law 740 = .ok (.aload_n 2, 1) := by decide +kernel
theorem dL_law_741 : decode cL_law 741 = .ok (.invokevirtual 105, 3) := by decide +kernel
theorem dL_law_744 : decode cL_law 744 = .ok (.iload 5, 2) := by decide +kernel
theorem dL_law_746 : decode cL_law 746 = .ok (.if_icmp .eq 5, 3) := by decide +kernel
theorem dL_law_749 : decode cL_law 749 = .ok (.iconst 0, 1) := by decide +kernel
theorem dL_law_750 : decode cL_law 750 = .ok (.ireturn, 1) := by decide +kernel
theorem dL_law_751 : decode cL_law 751 = .ok (.iload 5, 2) := by decide +kernel
theorem dL_law_753 : decode cL_law 753 = .ok (.ifCond .ne 15, 3) := by decide +kernel
theorem dL_law_756 : decode cL_law 756 = .ok (.aload_n 3, 1) := by decide +kernel
theorem dL_law_757 : decode cL_law 757 = .ok (.iconst 0, 1) := by decide +kernel
theorem dL_law_758 : decode cL_law 758 = .ok (.laload, 1) := by decide +kernel
theorem dL_law_759 : decode cL_law 759 = .ok (.iload 6, 2) := by decide +kernel
theorem dL_law_761 : decode cL_law 761 = .ok (.i2l, 1) := by decide +kernel
theorem dL_law_762 : decode cL_law 762 = .ok (.lcmp, 1) := by decide +kernel
theorem dL_law_763 : decode cL_law 763 = .ok (.ifCond .eq 5, 3) := by decide +kernel
theorem dL_law_766 : decode cL_law 766 = .ok (.iconst 0, 1) := by decide +kernel
theorem dL_law_767 : decode cL_law 767 = .ok (.ireturn, 1) := by decide +kernel
theorem dL_law_768 : decode cL_law 768 = .ok (.goto 1083, 3) := by decide +kernel
theorem dL_law_771 : decode cL_law 771 = .ok (.aload_n 1, 1) := by decide +kernel
theorem dL_law_772 : decode cL_law 772 = .ok (.aload_n 0, 1) := by decide +kernel
theorem dL_law_773 : decode cL_law 773 = .ok (.iload 4, 2) := by decide +kernel
theorem dL_law_775 : decode cL_law 775 = .ok (.iconst 1, 1) := by decide +kernel
theorem dL_law_776 : decode cL_law 776 = .ok (.iadd, 1) := by decide +kernel
theorem dL_law_777 : decode cL_law 777 = .ok (.iaload, 1) := by decide +kernel
theorem dL_law_778 : decode cL_law 778 = .ok (.aload_n 3, 1) := by decide +kernel
theorem dL_law_779 : decode cL_law 779 = .ok (.invokestatic 135, 3) := by decide +kernel
theorem dL_law_782 : decode cL_law 782 = .ok (.istore 5, 2) := by decide +kernel
theorem dL_law_784 : decode cL_law 784 = .ok (.aload_n 2, 1) := by decide +kernel
theorem dL_law_785 : decode cL_law 785 = .ok (.aload_n 0, 1) := by decide +kernel
theorem dL_law_786 : decode cL_law 786 = .ok (.iload 4, 2) := by decide +kernel
theorem dL_law_788 : decode cL_law 788 = .ok (.iconst 1, 1) := by decide +kernel
theorem dL_law_789 : decode cL_law 789 = .ok (.iadd, 1) := by decide +kernel
theorem dL_law_790 : decode cL_law 790 = .ok (.iaload, 1) := by decide +kernel
theorem dL_law_791 : decode cL_law 791 = .ok (.invokevirtual 137, 3) := by decide +kernel
theorem dL_law_794 : decode cL_law 794 = .ok (.istore 6, 2) := by decide +kernel
theorem dL_law_796 : decode cL_law 796 = .ok (.aload_n 2, 1) := by decide +kernel
theorem dL_law_797 : decode cL_law 797 = .ok (.invokevirtual 105, 3) := by decide +kernel
theorem dL_law_800 : decode cL_law 800 = .ok (.iload 5, 2) := by decide +kernel
theorem dL_law_802 : decode cL_law 802 = .ok (.if_icmp .eq 5, 3) := by decide +kernel
theorem dL_law_805 : decode cL_law 805 = .ok (.iconst 0, 1) := by decide +kernel
theorem dL_law_806 : decode cL_law 806 = .ok (.ireturn, 1) := by decide +kernel
theorem dL_law_807 : decode cL_law 807 = .ok (.iload 5, 2) := by decide +kernel
theorem dL_law_809 : decode cL_law 809 = .ok (.ifCond .ne 15, 3) := by decide +kernel
theorem dL_law_812 : decode cL_law 812 = .ok (.aload_n 3, 1) := by decide +kernel
theorem dL_law_813 : decode cL_law 813 = .ok (.iconst 0, 1) := by decide +kernel
theorem dL_law_814 : decode cL_law 814 = .ok (.laload, 1) := by decide +kernel
theorem dL_law_815 : decode cL_law 815 = .ok (.iload 6, 2) := by decide +kernel
theorem dL_law_817 : decode cL_law 817 = .ok (.i2l, 1) := by decide +kernel
theorem dL_law_818 : decode cL_law 818 = .ok (.lcmp, 1) := by decide +kernel
theorem dL_law_819 : decode cL_law 819 = .ok (.ifCond .eq 5, 3) := by decide +kernel
theorem dL_law_822 : decode cL_law 822 = .ok (.iconst 0, 1) := by decide +kernel
theorem dL_law_823 : decode cL_law 823 = .ok (.ireturn, 1) := by decide +kernel
theorem dL_law_824 : decode cL_law 824 = .ok (.goto 1027, 3) := by decide +kernel
theorem dL_law_827 : decode cL_law 827 = .ok (.aload_n 1, 1) := by decide +kernel
theorem dL_law_828 : decode cL_law 828 = .ok (.aload_n 0, 1) := by decide +kernel
theorem dL_law_829 : decode cL_law 829 = .ok (.iload 4, 2) := by decide +kernel
theorem dL_law_831 : decode cL_law 831 = .ok (.iconst 1, 1) := by decide +kernel
theorem dL_law_832 : decode cL_law 832 = .ok (.iadd, 1) := by decide +kernel
theorem dL_law_833 : decode cL_law 833 = .ok (.iaload, 1) := by decide +kernel
theorem dL_law_834 : decode cL_law 834 = .ok (.aload_n 0, 1) := by decide +kernel
theorem dL_law_835 : decode cL_law 835 = .ok (.iload 4, 2) := by decide +kernel
theorem dL_law_837 : decode cL_law 837 = .ok (.iconst 2, 1) := by decide +kernel
theorem dL_law_838 : decode cL_law 838 = .ok (.iadd, 1) := by decide +kernel
theorem dL_law_839 : decode cL_law 839 = .ok (.iaload, 1) := by decide +kernel
theorem dL_law_840 : decode cL_law 840 = .ok (.aload_n 3, 1) := by decide +kernel
theorem dL_law_841 : decode cL_law 841 = .ok (.invokestatic 138, 3) := by decide +kernel
theorem dL_law_844 : decode cL_law 844 = .ok (.istore 5, 2) := by decide +kernel
theorem dL_law_846 : decode cL_law 846 = .ok (.aload_n 2, 1) := by decide +kernel
theorem dL_law_847 : decode cL_law 847 = .ok (.aload_n 0, 1) := by decide +kernel
theorem dL_law_848 : decode cL_law 848 = .ok (.iload 4, 2) := by decide +kernel
theorem dL_law_850 : decode cL_law 850 = .ok (.iconst 1, 1) := by decide +kernel
theorem dL_law_851 : decode cL_law 851 = .ok (.iadd, 1) := by decide +kernel
theorem dL_law_852 : decode cL_law 852 = .ok (.iaload, 1) := by decide +kernel
theorem dL_law_853 : decode cL_law 853 = .ok (.aload_n 0, 1) := by decide +kernel
theorem dL_law_854 : decode cL_law 854 = .ok (.iload 4, 2) := by decide +kernel
theorem dL_law_856 : decode cL_law 856 = .ok (.iconst 2, 1) := by decide +kernel
theorem dL_law_857 : decode cL_law 857 = .ok (.iadd, 1) := by decide +kernel
theorem dL_law_858 : decode cL_law 858 = .ok (.iaload, 1) := by decide +kernel
theorem dL_law_859 : decode cL_law 859 = .ok (.invokevirtual 140, 3) := by decide +kernel
theorem dL_law_862 : decode cL_law 862 = .ok (.istore 6, 2) := by decide +kernel
theorem dL_law_864 : decode cL_law 864 = .ok (.aload_n 2, 1) := by decide +kernel
theorem dL_law_865 : decode cL_law 865 = .ok (.invokevirtual 105, 3) := by decide +kernel
theorem dL_law_868 : decode cL_law 868 = .ok (.iload 5, 2) := by decide +kernel
theorem dL_law_870 : decode cL_law 870 = .ok (.if_icmp .eq 5, 3) := by decide +kernel
theorem dL_law_873 : decode cL_law 873 = .ok (.iconst 0, 1) := by decide +kernel
theorem dL_law_874 : decode cL_law 874 = .ok (.ireturn, 1) := by decide +kernel
theorem dL_law_875 : decode cL_law 875 = .ok (.iload 5, 2) := by decide +kernel
theorem dL_law_877 : decode cL_law 877 = .ok (.ifCond .ne 15, 3) := by decide +kernel
theorem dL_law_880 : decode cL_law 880 = .ok (.aload_n 3, 1) := by decide +kernel
theorem dL_law_881 : decode cL_law 881 = .ok (.iconst 0, 1) := by decide +kernel
theorem dL_law_882 : decode cL_law 882 = .ok (.laload, 1) := by decide +kernel
theorem dL_law_883 : decode cL_law 883 = .ok (.iload 6, 2) := by decide +kernel
theorem dL_law_885 : decode cL_law 885 = .ok (.i2l, 1) := by decide +kernel
theorem dL_law_886 : decode cL_law 886 = .ok (.lcmp, 1) := by decide +kernel
theorem dL_law_887 : decode cL_law 887 = .ok (.ifCond .eq 5, 3) := by decide +kernel
theorem dL_law_890 : decode cL_law 890 = .ok (.iconst 0, 1) := by decide +kernel
theorem dL_law_891 : decode cL_law 891 = .ok (.ireturn, 1) := by decide +kernel
theorem dL_law_892 : decode cL_law 892 = .ok (.goto 959, 3) := by decide +kernel
theorem dL_law_895 : decode cL_law 895 = .ok (.aload_n 1, 1) := by decide +kernel
theorem dL_law_896 : decode cL_law 896 = .ok (.aload_n 0, 1) := by decide +kernel
theorem dL_law_897 : decode cL_law 897 = .ok (.iload 4, 2) := by decide +kernel
theorem dL_law_899 : decode cL_law 899 = .ok (.iconst 1, 1) := by decide +kernel
theorem dL_law_900 : decode cL_law 900 = .ok (.iadd, 1) := by decide +kernel
theorem dL_law_901 : decode cL_law 901 = .ok (.iaload, 1) := by decide +kernel
theorem dL_law_902 : decode cL_law 902 = .ok (.aload_n 0, 1) := by decide +kernel
theorem dL_law_903 : decode cL_law 903 = .ok (.iload 4, 2) := by decide +kernel
theorem dL_law_905 : decode cL_law 905 = .ok (.iconst 2, 1) := by decide +kernel
theorem dL_law_906 : decode cL_law 906 = .ok (.iadd, 1) := by decide +kernel
theorem dL_law_907 : decode cL_law 907 = .ok (.iaload, 1) := by decide +kernel
theorem dL_law_908 : decode cL_law 908 = .ok (.aload_n 0, 1) := by decide +kernel
theorem dL_law_909 : decode cL_law 909 = .ok (.iload 4, 2) := by decide +kernel
theorem dL_law_911 : decode cL_law 911 = .ok (.iconst 3, 1) := by decide +kernel
theorem dL_law_912 : decode cL_law 912 = .ok (.iadd, 1) := by decide +kernel
theorem dL_law_913 : decode cL_law 913 = .ok (.iaload, 1) := by decide +kernel
theorem dL_law_914 : decode cL_law 914 = .ok (.aload_n 3, 1) := by decide +kernel
theorem dL_law_915 : decode cL_law 915 = .ok (.invokestatic 141, 3) := by decide +kernel
theorem dL_law_918 : decode cL_law 918 = .ok (.istore 5, 2) := by decide +kernel
theorem dL_law_920 : decode cL_law 920 = .ok (.aload_n 2, 1) := by decide +kernel
theorem dL_law_921 : decode cL_law 921 = .ok (.aload_n 0, 1) := by decide +kernel
theorem dL_law_922 : decode cL_law 922 = .ok (.iload 4, 2) := by decide +kernel
theorem dL_law_924 : decode cL_law 924 = .ok (.iconst 1, 1) := by decide +kernel
theorem dL_law_925 : decode cL_law 925 = .ok (.iadd, 1) := by decide +kernel
theorem dL_law_926 : decode cL_law 926 = .ok (.iaload, 1) := by decide +kernel
theorem dL_law_927 : decode cL_law 927 = .ok (.aload_n 0, 1) := by decide +kernel
theorem dL_law_928 : decode cL_law 928 = .ok (.iload 4, 2) := by decide +kernel
theorem dL_law_930 : decode cL_law 930 = .ok (.iconst 2, 1) := by decide +kernel
theorem dL_law_931 : decode cL_law 931 = .ok (.iadd, 1) := by decide +kernel
theorem dL_law_932 : decode cL_law 932 = .ok (.iaload, 1) := by decide +kernel
theorem dL_law_933 : decode cL_law 933 = .ok (.aload_n 0, 1) := by decide +kernel
theorem dL_law_934 : decode cL_law 934 = .ok (.iload 4, 2) := by decide +kernel
theorem dL_law_936 : decode cL_law 936 = .ok (.iconst 3, 1) := by decide +kernel
theorem dL_law_937 : decode cL_law 937 = .ok (.iadd, 1) := by decide +kernel
theorem dL_law_938 : decode cL_law 938 = .ok (.iaload, 1) := by decide +kernel
theorem dL_law_939 : decode cL_law 939 = .ok (.invokevirtual 144, 3) := by decide +kernel
theorem dL_law_942 : decode cL_law 942 = .ok (.istore 6, 2) := by decide +kernel
theorem dL_law_944 : decode cL_law 944 = .ok (.aload_n 2, 1) := by decide +kernel
theorem dL_law_945 : decode cL_law 945 = .ok (.invokevirtual 105, 3) := by decide +kernel
theorem dL_law_948 : decode cL_law 948 = .ok (.iload 5, 2) := by decide +kernel
theorem dL_law_950 : decode cL_law 950 = .ok (.if_icmp .eq 5, 3) := by decide +kernel
theorem dL_law_953 : decode cL_law 953 = .ok (.iconst 0, 1) := by decide +kernel
theorem dL_law_954 : decode cL_law 954 = .ok (.ireturn, 1) := by decide +kernel
theorem dL_law_955 : decode cL_law 955 = .ok (.iload 5, 2) := by decide +kernel
theorem dL_law_957 : decode cL_law 957 = .ok (.ifCond .ne 15, 3) := by decide +kernel
theorem dL_law_960 : decode cL_law 960 = .ok (.aload_n 3, 1) := by decide +kernel
theorem dL_law_961 : decode cL_law 961 = .ok (.iconst 0, 1) := by decide +kernel
theorem dL_law_962 : decode cL_law 962 = .ok (.laload, 1) := by decide +kernel
theorem dL_law_963 : decode cL_law 963 = .ok (.iload 6, 2) := by decide +kernel
theorem dL_law_965 : decode cL_law 965 = .ok (.i2l, 1) := by decide +kernel
theorem dL_law_966 : decode cL_law 966 = .ok (.lcmp, 1) := by decide +kernel
theorem dL_law_967 : decode cL_law 967 = .ok (.ifCond .eq 5, 3) := by decide +kernel
theorem dL_law_970 : decode cL_law 970 = .ok (.iconst 0, 1) := by decide +kernel
theorem dL_law_971 : decode cL_law 971 = .ok (.ireturn, 1) := by decide +kernel
theorem dL_law_972 : decode cL_law 972 = .ok (.goto 879, 3) := by decide +kernel
theorem dL_law_975 : decode cL_law 975 = .ok (.aload_n 1, 1) := by decide +kernel
theorem dL_law_976 : decode cL_law 976 = .ok (.aload_n 0, 1) := by decide +kernel
theorem dL_law_977 : decode cL_law 977 = .ok (.iload 4, 2) := by decide +kernel
theorem dL_law_979 : decode cL_law 979 = .ok (.iconst 1, 1) := by decide +kernel
theorem dL_law_980 : decode cL_law 980 = .ok (.iadd, 1) := by decide +kernel
theorem dL_law_981 : decode cL_law 981 = .ok (.iaload, 1) := by decide +kernel
theorem dL_law_982 : decode cL_law 982 = .ok (.aload_n 0, 1) := by decide +kernel
theorem dL_law_983 : decode cL_law 983 = .ok (.iload 4, 2) := by decide +kernel
theorem dL_law_985 : decode cL_law 985 = .ok (.iconst 2, 1) := by decide +kernel
theorem dL_law_986 : decode cL_law 986 = .ok (.iadd, 1) := by decide +kernel
theorem dL_law_987 : decode cL_law 987 = .ok (.iaload, 1) := by decide +kernel
theorem dL_law_988 : decode cL_law 988 = .ok (.aload_n 3, 1) := by decide +kernel
theorem dL_law_989 : decode cL_law 989 = .ok (.invokestatic 145, 3) := by decide +kernel
theorem dL_law_992 : decode cL_law 992 = .ok (.istore 5, 2) := by decide +kernel
theorem dL_law_994 : decode cL_law 994 = .ok (.aload_n 2, 1) := by decide +kernel
theorem dL_law_995 : decode cL_law 995 = .ok (.aload_n 0, 1) := by decide +kernel
theorem dL_law_996 : decode cL_law 996 = .ok (.iload 4, 2) := by decide +kernel
theorem dL_law_998 : decode cL_law 998 = .ok (.iconst 1, 1) := by decide +kernel
theorem dL_law_999 : decode cL_law 999 = .ok (.iadd, 1) := by decide +kernel
theorem dL_law_1000 : decode cL_law 1000 = .ok (.iaload, 1) := by decide +kernel
theorem dL_law_1001 : decode cL_law 1001 = .ok (.aload_n 0, 1) := by decide +kernel
theorem dL_law_1002 : decode cL_law 1002 = .ok (.iload 4, 2) := by decide +kernel
theorem dL_law_1004 : decode cL_law 1004 = .ok (.iconst 2, 1) := by decide +kernel
theorem dL_law_1005 : decode cL_law 1005 = .ok (.iadd, 1) := by decide +kernel
theorem dL_law_1006 : decode cL_law 1006 = .ok (.iaload, 1) := by decide +kernel
theorem dL_law_1007 : decode cL_law 1007 = .ok (.invokevirtual 147, 3) := by decide +kernel
theorem dL_law_1010 : decode cL_law 1010 = .ok (.istore 6, 2) := by decide +kernel
theorem dL_law_1012 : decode cL_law 1012 = .ok (.aload_n 2, 1) := by decide +kernel
theorem dL_law_1013 : decode cL_law 1013 = .ok (.invokevirtual 105, 3) := by decide +kernel
theorem dL_law_1016 : decode cL_law 1016 = .ok (.iload 5, 2) := by decide +kernel
theorem dL_law_1018 : decode cL_law 1018 = .ok (.if_icmp .eq 5, 3) := by decide +kernel
theorem dL_law_1021 : decode cL_law 1021 = .ok (.iconst 0, 1) := by decide +kernel
theorem dL_law_1022 : decode cL_law 1022 = .ok (.ireturn, 1) := by decide +kernel
theorem dL_law_1023 : decode cL_law 1023 = .ok (.iload 5, 2) := by decide +kernel
theorem dL_law_1025 : decode cL_law 1025 = .ok (.ifCond .ne 15, 3) := by decide +kernel
theorem dL_law_1028 : decode cL_law 1028 = .ok (.aload_n 3, 1) := by decide +kernel
theorem dL_law_1029 : decode cL_law 1029 = .ok (.iconst 0, 1) := by decide +kernel
theorem dL_law_1030 : decode cL_law 1030 = .ok (.laload, 1) := by decide +kernel
theorem dL_law_1031 : decode cL_law 1031 = .ok (.iload 6, 2) := by decide +kernel
theorem dL_law_1033 : decode cL_law 1033 = .ok (.i2l, 1) := by decide +kernel
theorem dL_law_1034 : decode cL_law 1034 = .ok (.lcmp, 1) := by decide +kernel
theorem dL_law_1035 : decode cL_law 1035 = .ok (.ifCond .eq 5, 3) := by decide +kernel
theorem dL_law_1038 : decode cL_law 1038 = .ok (.iconst 0, 1) := by decide +kernel
theorem dL_law_1039 : decode cL_law 1039 = .ok (.ireturn, 1) := by decide +kernel
theorem dL_law_1040 : decode cL_law 1040 = .ok (.goto 811, 3) := by decide +kernel
theorem dL_law_1043 : decode cL_law 1043 = .ok (.aload_n 1, 1) := by decide +kernel
theorem dL_law_1044 : decode cL_law 1044 = .ok (.aload_n 0, 1) := by decide +kernel
theorem dL_law_1045 : decode cL_law 1045 = .ok (.iload 4, 2) := by decide +kernel
theorem dL_law_1047 : decode cL_law 1047 = .ok (.iconst 1, 1) := by decide +kernel
theorem dL_law_1048 : decode cL_law 1048 = .ok (.iadd, 1) := by decide +kernel
theorem dL_law_1049 : decode cL_law 1049 = .ok (.iaload, 1) := by decide +kernel
theorem dL_law_1050 : decode cL_law 1050 = .ok (.aload_n 0, 1) := by decide +kernel
theorem dL_law_1051 : decode cL_law 1051 = .ok (.iload 4, 2) := by decide +kernel
theorem dL_law_1053 : decode cL_law 1053 = .ok (.iconst 2, 1) := by decide +kernel
theorem dL_law_1054 : decode cL_law 1054 = .ok (.iadd, 1) := by decide +kernel
theorem dL_law_1055 : decode cL_law 1055 = .ok (.iaload, 1) := by decide +kernel
theorem dL_law_1056 : decode cL_law 1056 = .ok (.aload_n 3, 1) := by decide +kernel
theorem dL_law_1057 : decode cL_law 1057 = .ok (.invokestatic 148, 3) := by decide +kernel
theorem dL_law_1060 : decode cL_law 1060 = .ok (.istore 5, 2) := by decide +kernel
theorem dL_law_1062 : decode cL_law 1062 = .ok (.aload_n 2, 1) := by decide +kernel
theorem dL_law_1063 : decode cL_law 1063 = .ok (.aload_n 0, 1) := by decide +kernel
theorem dL_law_1064 : decode cL_law 1064 = .ok (.iload 4, 2) := by decide +kernel
theorem dL_law_1066 : decode cL_law 1066 = .ok (.iconst 1, 1) := by decide +kernel
theorem dL_law_1067 : decode cL_law 1067 = .ok (.iadd, 1) := by decide +kernel
theorem dL_law_1068 : decode cL_law 1068 = .ok (.iaload, 1) := by decide +kernel
theorem dL_law_1069 : decode cL_law 1069 = .ok (.aload_n 0, 1) := by decide +kernel
theorem dL_law_1070 : decode cL_law 1070 = .ok (.iload 4, 2) := by decide +kernel
theorem dL_law_1072 : decode cL_law 1072 = .ok (.iconst 2, 1) := by decide +kernel
theorem dL_law_1073 : decode cL_law 1073 = .ok (.iadd, 1) := by decide +kernel
theorem dL_law_1074 : decode cL_law 1074 = .ok (.iaload, 1) := by decide +kernel
theorem dL_law_1075 : decode cL_law 1075 = .ok (.invokevirtual 150, 3) := by decide +kernel
theorem dL_law_1078 : decode cL_law 1078 = .ok (.istore 6, 2) := by decide +kernel
theorem dL_law_1080 : decode cL_law 1080 = .ok (.aload_n 2, 1) := by decide +kernel
theorem dL_law_1081 : decode cL_law 1081 = .ok (.invokevirtual 105, 3) := by decide +kernel
theorem dL_law_1084 : decode cL_law 1084 = .ok (.iload 5, 2) := by decide +kernel
theorem dL_law_1086 : decode cL_law 1086 = .ok (.if_icmp .eq 5, 3) := by decide +kernel
theorem dL_law_1089 : decode cL_law 1089 = .ok (.iconst 0, 1) := by decide +kernel
theorem dL_law_1090 : decode cL_law 1090 = .ok (.ireturn, 1) := by decide +kernel
theorem dL_law_1091 : decode cL_law 1091 = .ok (.iload 5, 2) := by decide +kernel
theorem dL_law_1093 : decode cL_law 1093 = .ok (.ifCond .ne 15, 3) := by decide +kernel
theorem dL_law_1096 : decode cL_law 1096 = .ok (.aload_n 3, 1) := by decide +kernel
theorem dL_law_1097 : decode cL_law 1097 = .ok (.iconst 0, 1) := by decide +kernel
theorem dL_law_1098 : decode cL_law 1098 = .ok (.laload, 1) := by decide +kernel
theorem dL_law_1099 : decode cL_law 1099 = .ok (.iload 6, 2) := by decide +kernel
theorem dL_law_1101 : decode cL_law 1101 = .ok (.i2l, 1) := by decide +kernel
theorem dL_law_1102 : decode cL_law 1102 = .ok (.lcmp, 1) := by decide +kernel
theorem dL_law_1103 : decode cL_law 1103 = .ok (.ifCond .eq 5, 3) := by decide +kernel
theorem dL_law_1106 : decode cL_law 1106 = .ok (.iconst 0, 1) := by decide +kernel
theorem dL_law_1107 : decode cL_law 1107 = .ok (.ireturn, 1) := by decide +kernel
theorem dL_law_1108 : decode cL_law 1108 = .ok (.goto 743, 3) := by decide +kernel
theorem dL_law_1111 : decode cL_law 1111 = .ok (.aload_n 1, 1) := by decide +kernel
theorem dL_law_1112 : decode cL_law 1112 = .ok (.aload_n 0, 1) := by decide +kernel
theorem dL_law_1113 : decode cL_law 1113 = .ok (.iload 4, 2) := by decide +kernel
theorem dL_law_1115 : decode cL_law 1115 = .ok (.iconst 1, 1) := by decide +kernel
theorem dL_law_1116 : decode cL_law 1116 = .ok (.iadd, 1) := by decide +kernel
theorem dL_law_1117 : decode cL_law 1117 = .ok (.iaload, 1) := by decide +kernel
theorem dL_law_1118 : decode cL_law 1118 = .ok (.aload_n 0, 1) := by decide +kernel
theorem dL_law_1119 : decode cL_law 1119 = .ok (.iload 4, 2) := by decide +kernel
theorem dL_law_1121 : decode cL_law 1121 = .ok (.iconst 2, 1) := by decide +kernel
theorem dL_law_1122 : decode cL_law 1122 = .ok (.iadd, 1) := by decide +kernel
theorem dL_law_1123 : decode cL_law 1123 = .ok (.iaload, 1) := by decide +kernel
theorem dL_law_1124 : decode cL_law 1124 = .ok (.aload_n 0, 1) := by decide +kernel
theorem dL_law_1125 : decode cL_law 1125 = .ok (.iload 4, 2) := by decide +kernel
theorem dL_law_1127 : decode cL_law 1127 = .ok (.iconst 3, 1) := by decide +kernel
theorem dL_law_1128 : decode cL_law 1128 = .ok (.iadd, 1) := by decide +kernel
theorem dL_law_1129 : decode cL_law 1129 = .ok (.iaload, 1) := by decide +kernel
theorem dL_law_1130 : decode cL_law 1130 = .ok (.aload_n 3, 1) := by decide +kernel
theorem dL_law_1131 : decode cL_law 1131 = .ok (.invokestatic 151, 3) := by decide +kernel
theorem dL_law_1134 : decode cL_law 1134 = .ok (.istore 5, 2) := by decide +kernel
theorem dL_law_1136 : decode cL_law 1136 = .ok (.aload_n 2, 1) := by decide +kernel
theorem dL_law_1137 : decode cL_law 1137 = .ok (.aload_n 0, 1) := by decide +kernel
theorem dL_law_1138 : decode cL_law 1138 = .ok (.iload 4, 2) := by decide +kernel
theorem dL_law_1140 : decode cL_law 1140 = .ok (.iconst 1, 1) := by decide +kernel
theorem dL_law_1141 : decode cL_law 1141 = .ok (.iadd, 1) := by decide +kernel
theorem dL_law_1142 : decode cL_law 1142 = .ok (.iaload, 1) := by decide +kernel
theorem dL_law_1143 : decode cL_law 1143 = .ok (.aload_n 0, 1) := by decide +kernel
theorem dL_law_1144 : decode cL_law 1144 = .ok (.iload 4, 2) := by decide +kernel
theorem dL_law_1146 : decode cL_law 1146 = .ok (.iconst 2, 1) := by decide +kernel
theorem dL_law_1147 : decode cL_law 1147 = .ok (.iadd, 1) := by decide +kernel
theorem dL_law_1148 : decode cL_law 1148 = .ok (.iaload, 1) := by decide +kernel
theorem dL_law_1149 : decode cL_law 1149 = .ok (.aload_n 0, 1) := by decide +kernel
theorem dL_law_1150 : decode cL_law 1150 = .ok (.iload 4, 2) := by decide +kernel
theorem dL_law_1152 : decode cL_law 1152 = .ok (.iconst 3, 1) := by decide +kernel
theorem dL_law_1153 : decode cL_law 1153 = .ok (.iadd, 1) := by decide +kernel
theorem dL_law_1154 : decode cL_law 1154 = .ok (.iaload, 1) := by decide +kernel
theorem dL_law_1155 : decode cL_law 1155 = .ok (.invokevirtual 153, 3) := by decide +kernel
theorem dL_law_1158 : decode cL_law 1158 = .ok (.istore 6, 2) := by decide +kernel
theorem dL_law_1160 : decode cL_law 1160 = .ok (.aload_n 2, 1) := by decide +kernel
theorem dL_law_1161 : decode cL_law 1161 = .ok (.invokevirtual 105, 3) := by decide +kernel
theorem dL_law_1164 : decode cL_law 1164 = .ok (.iload 5, 2) := by decide +kernel
theorem dL_law_1166 : decode cL_law 1166 = .ok (.if_icmp .eq 5, 3) := by decide +kernel
theorem dL_law_1169 : decode cL_law 1169 = .ok (.iconst 0, 1) := by decide +kernel
theorem dL_law_1170 : decode cL_law 1170 = .ok (.ireturn, 1) := by decide +kernel
theorem dL_law_1171 : decode cL_law 1171 = .ok (.iload 5, 2) := by decide +kernel
theorem dL_law_1173 : decode cL_law 1173 = .ok (.ifCond .ne 15, 3) := by decide +kernel
theorem dL_law_1176 : decode cL_law 1176 = .ok (.aload_n 3, 1) := by decide +kernel
theorem dL_law_1177 : decode cL_law 1177 = .ok (.iconst 0, 1) := by decide +kernel
theorem dL_law_1178 : decode cL_law 1178 = .ok (.laload, 1) := by decide +kernel
theorem dL_law_1179 : decode cL_law 1179 = .ok (.iload 6, 2) := by decide +kernel
theorem dL_law_1181 : decode cL_law 1181 = .ok (.i2l, 1) := by decide +kernel
theorem dL_law_1182 : decode cL_law 1182 = .ok (.lcmp, 1) := by decide +kernel
theorem dL_law_1183 : decode cL_law 1183 = .ok (.ifCond .eq 5, 3) := by decide +kernel
theorem dL_law_1186 : decode cL_law 1186 = .ok (.iconst 0, 1) := by decide +kernel
theorem dL_law_1187 : decode cL_law 1187 = .ok (.ireturn, 1) := by decide +kernel
theorem dL_law_1188 : decode cL_law 1188 = .ok (.goto 663, 3) := by decide +kernel
theorem dL_law_1191 : decode cL_law 1191 = .ok (.aload_n 1, 1) := by decide +kernel
theorem dL_law_1192 : decode cL_law 1192 = .ok (.aload_n 0, 1) := by decide +kernel
theorem dL_law_1193 : decode cL_law 1193 = .ok (.iload 4, 2) := by decide +kernel
theorem dL_law_1195 : decode cL_law 1195 = .ok (.iconst 1, 1) := by decide +kernel
theorem dL_law_1196 : decode cL_law 1196 = .ok (.iadd, 1) := by decide +kernel
theorem dL_law_1197 : decode cL_law 1197 = .ok (.iaload, 1) := by decide +kernel
theorem dL_law_1198 : decode cL_law 1198 = .ok (.aload_n 0, 1) := by decide +kernel
theorem dL_law_1199 : decode cL_law 1199 = .ok (.iload 4, 2) := by decide +kernel
theorem dL_law_1201 : decode cL_law 1201 = .ok (.iconst 2, 1) := by decide +kernel
theorem dL_law_1202 : decode cL_law 1202 = .ok (.iadd, 1) := by decide +kernel
theorem dL_law_1203 : decode cL_law 1203 = .ok (.iaload, 1) := by decide +kernel
theorem dL_law_1204 : decode cL_law 1204 = .ok (.aload_n 0, 1) := by decide +kernel
theorem dL_law_1205 : decode cL_law 1205 = .ok (.iload 4, 2) := by decide +kernel
theorem dL_law_1207 : decode cL_law 1207 = .ok (.iconst 3, 1) := by decide +kernel
theorem dL_law_1208 : decode cL_law 1208 = .ok (.iadd, 1) := by decide +kernel
theorem dL_law_1209 : decode cL_law 1209 = .ok (.iaload, 1) := by decide +kernel
theorem dL_law_1210 : decode cL_law 1210 = .ok (.aload_n 3, 1) := by decide +kernel
theorem dL_law_1211 : decode cL_law 1211 = .ok (.invokestatic 154, 3) := by decide +kernel
theorem dL_law_1214 : decode cL_law 1214 = .ok (.istore 5, 2) := by decide +kernel
theorem dL_law_1216 : decode cL_law 1216 = .ok (.aload_n 2, 1) := by decide +kernel
theorem dL_law_1217 : decode cL_law 1217 = .ok (.aload_n 0, 1) := by decide +kernel
theorem dL_law_1218 : decode cL_law 1218 = .ok (.iload 4, 2) := by decide +kernel
theorem dL_law_1220 : decode cL_law 1220 = .ok (.iconst 1, 1) := by decide +kernel
theorem dL_law_1221 : decode cL_law 1221 = .ok (.iadd, 1) := by decide +kernel
theorem dL_law_1222 : decode cL_law 1222 = .ok (.iaload, 1) := by decide +kernel
theorem dL_law_1223 : decode cL_law 1223 = .ok (.aload_n 0, 1) := by decide +kernel
theorem dL_law_1224 : decode cL_law 1224 = .ok (.iload 4, 2) := by decide +kernel
theorem dL_law_1226 : decode cL_law 1226 = .ok (.iconst 2, 1) := by decide +kernel
theorem dL_law_1227 : decode cL_law 1227 = .ok (.iadd, 1) := by decide +kernel
theorem dL_law_1228 : decode cL_law 1228 = .ok (.iaload, 1) := by decide +kernel
theorem dL_law_1229 : decode cL_law 1229 = .ok (.aload_n 0, 1) := by decide +kernel
theorem dL_law_1230 : decode cL_law 1230 = .ok (.iload 4, 2) := by decide +kernel
theorem dL_law_1232 : decode cL_law 1232 = .ok (.iconst 3, 1) := by decide +kernel
theorem dL_law_1233 : decode cL_law 1233 = .ok (.iadd, 1) := by decide +kernel
theorem dL_law_1234 : decode cL_law 1234 = .ok (.iaload, 1) := by decide +kernel
theorem dL_law_1235 : decode cL_law 1235 = .ok (.invokevirtual 156, 3) := by decide +kernel
theorem dL_law_1238 : decode cL_law 1238 = .ok (.istore 6, 2) := by decide +kernel
theorem dL_law_1240 : decode cL_law 1240 = .ok (.aload_n 2, 1) := by decide +kernel
theorem dL_law_1241 : decode cL_law 1241 = .ok (.invokevirtual 105, 3) := by decide +kernel
theorem dL_law_1244 : decode cL_law 1244 = .ok (.iload 5, 2) := by decide +kernel
theorem dL_law_1246 : decode cL_law 1246 = .ok (.if_icmp .eq 5, 3) := by decide +kernel
theorem dL_law_1249 : decode cL_law 1249 = .ok (.iconst 0, 1) := by decide +kernel
theorem dL_law_1250 : decode cL_law 1250 = .ok (.ireturn, 1) := by decide +kernel
theorem dL_law_1251 : decode cL_law 1251 = .ok (.iload 5, 2) := by decide +kernel
theorem dL_law_1253 : decode cL_law 1253 = .ok (.ifCond .ne 15, 3) := by decide +kernel
theorem dL_law_1256 : decode cL_law 1256 = .ok (.aload_n 3, 1) := by decide +kernel
theorem dL_law_1257 : decode cL_law 1257 = .ok (.iconst 0, 1) := by decide +kernel
theorem dL_law_1258 : decode cL_law 1258 = .ok (.laload, 1) := by decide +kernel
theorem dL_law_1259 : decode cL_law 1259 = .ok (.iload 6, 2) := by decide +kernel
theorem dL_law_1261 : decode cL_law 1261 = .ok (.i2l, 1) := by decide +kernel
theorem dL_law_1262 : decode cL_law 1262 = .ok (.lcmp, 1) := by decide +kernel
theorem dL_law_1263 : decode cL_law 1263 = .ok (.ifCond .eq 5, 3) := by decide +kernel
theorem dL_law_1266 : decode cL_law 1266 = .ok (.iconst 0, 1) := by decide +kernel
theorem dL_law_1267 : decode cL_law 1267 = .ok (.ireturn, 1) := by decide +kernel
theorem dL_law_1268 : decode cL_law 1268 = .ok (.goto 583, 3) := by decide +kernel
theorem dL_law_1271 : decode cL_law 1271 = .ok (.aload_n 1, 1) := by decide +kernel
theorem dL_law_1272 : decode cL_law 1272 = .ok (.aload_n 0, 1) := by decide +kernel
theorem dL_law_1273 : decode cL_law 1273 = .ok (.iload 4, 2) := by decide +kernel
theorem dL_law_1275 : decode cL_law 1275 = .ok (.iconst 1, 1) := by decide +kernel
theorem dL_law_1276 : decode cL_law 1276 = .ok (.iadd, 1) := by decide +kernel
theorem dL_law_1277 : decode cL_law 1277 = .ok (.iaload, 1) := by decide +kernel
theorem dL_law_1278 : decode cL_law 1278 = .ok (.aload_n 3, 1) := by decide +kernel
theorem dL_law_1279 : decode cL_law 1279 = .ok (.invokestatic 157, 3) := by decide +kernel
theorem dL_law_1282 : decode cL_law 1282 = .ok (.istore 5, 2) := by decide +kernel
theorem dL_law_1284 : decode cL_law 1284 = .ok (.aload_n 2, 1) := by decide +kernel
theorem dL_law_1285 : decode cL_law 1285 = .ok (.aload_n 0, 1) := by decide +kernel
theorem dL_law_1286 : decode cL_law 1286 = .ok (.iload 4, 2) := by decide +kernel
theorem dL_law_1288 : decode cL_law 1288 = .ok (.iconst 1, 1) := by decide +kernel
theorem dL_law_1289 : decode cL_law 1289 = .ok (.iadd, 1) := by decide +kernel
theorem dL_law_1290 : decode cL_law 1290 = .ok (.iaload, 1) := by decide +kernel
theorem dL_law_1291 : decode cL_law 1291 = .ok (.invokevirtual 159, 3) := by decide +kernel
theorem dL_law_1294 : decode cL_law 1294 = .ok (.istore 6, 2) := by decide +kernel
theorem dL_law_1296 : decode cL_law 1296 = .ok (.aload_n 2, 1) := by decide +kernel
theorem dL_law_1297 : decode cL_law 1297 = .ok (.invokevirtual 105, 3) := by decide +kernel
theorem dL_law_1300 : decode cL_law 1300 = .ok (.iload 5, 2) := by decide +kernel
theorem dL_law_1302 : decode cL_law 1302 = .ok (.if_icmp .eq 5, 3) := by decide +kernel
theorem dL_law_1305 : decode cL_law 1305 = .ok (.iconst 0, 1) := by decide +kernel
theorem dL_law_1306 : decode cL_law 1306 = .ok (.ireturn, 1) := by decide +kernel
theorem dL_law_1307 : decode cL_law 1307 = .ok (.iload 5, 2) := by decide +kernel
theorem dL_law_1309 : decode cL_law 1309 = .ok (.ifCond .ne 15, 3) := by decide +kernel
theorem dL_law_1312 : decode cL_law 1312 = .ok (.aload_n 3, 1) := by decide +kernel
theorem dL_law_1313 : decode cL_law 1313 = .ok (.iconst 0, 1) := by decide +kernel
theorem dL_law_1314 : decode cL_law 1314 = .ok (.laload, 1) := by decide +kernel
theorem dL_law_1315 : decode cL_law 1315 = .ok (.iload 6, 2) := by decide +kernel
theorem dL_law_1317 : decode cL_law 1317 = .ok (.i2l, 1) := by decide +kernel
theorem dL_law_1318 : decode cL_law 1318 = .ok (.lcmp, 1) := by decide +kernel
theorem dL_law_1319 : decode cL_law 1319 = .ok (.ifCond .eq 5, 3) := by decide +kernel
theorem dL_law_1322 : decode cL_law 1322 = .ok (.iconst 0, 1) := by decide +kernel
theorem dL_law_1323 : decode cL_law 1323 = .ok (.ireturn, 1) := by decide +kernel
theorem dL_law_1324 : decode cL_law 1324 = .ok (.goto 527, 3) := by decide +kernel
theorem dL_law_1327 : decode cL_law 1327 = .ok (.aload_n 1, 1) := by decide +kernel
theorem dL_law_1328 : decode cL_law 1328 = .ok (.invokevirtual 160, 3) := by decide +kernel
theorem dL_law_1331 : decode cL_law 1331 = .ok (.aload_n 2, 1) := by decide +kernel
theorem dL_law_1332 : decode cL_law 1332 = .ok (.invokevirtual 163, 3) := by decide +kernel
theorem dL_law_1335 : decode cL_law 1335 = .ok (.if_icmp .eq 516, 3) := by decide +kernel
theorem dL_law_1338 : decode cL_law 1338 = .ok (.iconst 0, 1) := by decide +kernel
theorem dL_law_1339 : decode cL_law 1339 = .ok (.ireturn, 1) := by decide +kernel
theorem dL_law_1340 : decode cL_law 1340 = .ok (.aload_n 1, 1) := by decide +kernel
theorem dL_law_1341 : decode cL_law 1341 = .ok (.invokevirtual 164, 3) := by decide +kernel
theorem dL_law_1344 : decode cL_law 1344 = .ok (.aload_n 2, 1) := by decide +kernel
theorem dL_law_1345 : decode cL_law 1345 = .ok (.invokevirtual 167, 3) := by decide +kernel
theorem dL_law_1348 : decode cL_law 1348 = .ok (.if_icmp .eq 503, 3) := by decide +kernel
theorem dL_law_1351 : decode cL_law 1351 = .ok (.iconst 0, 1) := by decide +kernel
theorem dL_law_1352 : decode cL_law 1352 = .ok (.ireturn, 1) := by decide +kernel
theorem dL_law_1353 : decode cL_law 1353 = .ok (.aload_n 1, 1) := by decide +kernel
theorem dL_law_1354 : decode cL_law 1354 = .ok (.aload_n 0, 1) := by decide +kernel
theorem dL_law_1355 : decode cL_law 1355 = .ok (.iload 4, 2) := by decide +kernel
theorem dL_law_1357 : decode cL_law 1357 = .ok (.iconst 1, 1) := by decide +kernel
theorem dL_law_1358 : decode cL_law 1358 = .ok (.iadd, 1) := by decide +kernel
theorem dL_law_1359 : decode cL_law 1359 = .ok (.iaload, 1) := by decide +kernel
theorem dL_law_1360 : decode cL_law 1360 = .ok (.aload_n 3, 1) := by decide +kernel
theorem dL_law_1361 : decode cL_law 1361 = .ok (.invokestatic 168, 3) := by decide +kernel
theorem dL_law_1364 : decode cL_law 1364 = .ok (.istore 5, 2) := by decide +kernel
theorem dL_law_1366 : decode cL_law 1366 = .ok (.aload_n 2, 1) := by decide +kernel
theorem dL_law_1367 : decode cL_law 1367 = .ok (.aload_n 0, 1) := by decide +kernel
theorem dL_law_1368 : decode cL_law 1368 = .ok (.iload 4, 2) := by decide +kernel
theorem dL_law_1370 : decode cL_law 1370 = .ok (.iconst 1, 1) := by decide +kernel
theorem dL_law_1371 : decode cL_law 1371 = .ok (.iadd, 1) := by decide +kernel
theorem dL_law_1372 : decode cL_law 1372 = .ok (.iaload, 1) := by decide +kernel
theorem dL_law_1373 : decode cL_law 1373 = .ok (.invokevirtual 170, 3) := by decide +kernel
theorem dL_law_1376 : decode cL_law 1376 = .ok (.istore 6, 2) := by decide +kernel
theorem dL_law_1378 : decode cL_law 1378 = .ok (.aload_n 2, 1) := by decide +kernel
theorem dL_law_1379 : decode cL_law 1379 = .ok (.invokevirtual 105, 3) := by decide +kernel
theorem dL_law_1382 : decode cL_law 1382 = .ok (.iload 5, 2) := by decide +kernel
theorem dL_law_1384 : decode cL_law 1384 = .ok (.if_icmp .eq 5, 3) := by decide +kernel
theorem dL_law_1387 : decode cL_law 1387 = .ok (.iconst 0, 1) := by decide +kernel
theorem dL_law_1388 : decode cL_law 1388 = .ok (.ireturn, 1) := by decide +kernel
theorem dL_law_1389 : decode cL_law 1389 = .ok (.iload 5, 2) := by decide +kernel
theorem dL_law_1391 : decode cL_law 1391 = .ok (.ifCond .ne 15, 3) := by decide +kernel
theorem dL_law_1394 : decode cL_law 1394 = .ok (.aload_n 3, 1) := by decide +kernel
theorem dL_law_1395 : decode cL_law 1395 = .ok (.iconst 0, 1) := by decide +kernel
theorem dL_law_1396 : decode cL_law 1396 = .ok (.laload, 1) := by decide +kernel
theorem dL_law_1397 : decode cL_law 1397 = .ok (.iload 6, 2) := by decide +kernel
theorem dL_law_1399 : decode cL_law 1399 = .ok (.i2l, 1) := by decide +kernel
theorem dL_law_1400 : decode cL_law 1400 = .ok (.lcmp, 1) := by decide +kernel
theorem dL_law_1401 : decode cL_law 1401 = .ok (.ifCond .eq 5, 3) := by decide +kernel
theorem dL_law_1404 : decode cL_law 1404 = .ok (.iconst 0, 1) := by decide +kernel
theorem dL_law_1405 : decode cL_law 1405 = .ok (.ireturn, 1) := by decide +kernel
theorem dL_law_1406 : decode cL_law 1406 = .ok (.goto 445, 3) := by decide +kernel
theorem dL_law_1409 : decode cL_law 1409 = .ok (.aload_n 1, 1) := by decide +kernel
theorem dL_law_1410 : decode cL_law 1410 = .ok (.aload_n 0, 1) := by decide +kernel
theorem dL_law_1411 : decode cL_law 1411 = .ok (.iload 4, 2) := by decide +kernel
theorem dL_law_1413 : decode cL_law 1413 = .ok (.iconst 1, 1) := by decide +kernel
theorem dL_law_1414 : decode cL_law 1414 = .ok (.iadd, 1) := by decide +kernel
theorem dL_law_1415 : decode cL_law 1415 = .ok (.iaload, 1) := by decide +kernel
theorem dL_law_1416 : decode cL_law 1416 = .ok (.aload_n 3, 1) := by decide +kernel
theorem dL_law_1417 : decode cL_law 1417 = .ok (.invokestatic 171, 3) := by decide +kernel
theorem dL_law_1420 : decode cL_law 1420 = .ok (.istore 5, 2) := by decide +kernel
theorem dL_law_1422 : decode cL_law 1422 = .ok (.aload_n 2, 1) := by decide +kernel
theorem dL_law_1423 : decode cL_law 1423 = .ok (.aload_n 0, 1) := by decide +kernel
theorem dL_law_1424 : decode cL_law 1424 = .ok (.iload 4, 2) := by decide +kernel
theorem dL_law_1426 : decode cL_law 1426 = .ok (.iconst 1, 1) := by decide +kernel
theorem dL_law_1427 : decode cL_law 1427 = .ok (.iadd, 1) := by decide +kernel
theorem dL_law_1428 : decode cL_law 1428 = .ok (.iaload, 1) := by decide +kernel
theorem dL_law_1429 : decode cL_law 1429 = .ok (.invokevirtual 173, 3) := by decide +kernel
theorem dL_law_1432 : decode cL_law 1432 = .ok (.istore 6, 2) := by decide +kernel
theorem dL_law_1434 : decode cL_law 1434 = .ok (.aload_n 2, 1) := by decide +kernel
theorem dL_law_1435 : decode cL_law 1435 = .ok (.invokevirtual 105, 3) := by decide +kernel
theorem dL_law_1438 : decode cL_law 1438 = .ok (.iload 5, 2) := by decide +kernel
theorem dL_law_1440 : decode cL_law 1440 = .ok (.if_icmp .eq 5, 3) := by decide +kernel
theorem dL_law_1443 : decode cL_law 1443 = .ok (.iconst 0, 1) := by decide +kernel
theorem dL_law_1444 : decode cL_law 1444 = .ok (.ireturn, 1) := by decide +kernel
theorem dL_law_1445 : decode cL_law 1445 = .ok (.iload 5, 2) := by decide +kernel
theorem dL_law_1447 : decode cL_law 1447 = .ok (.ifCond .ne 15, 3) := by decide +kernel
theorem dL_law_1450 : decode cL_law 1450 = .ok (.aload_n 3, 1) := by decide +kernel
theorem dL_law_1451 : decode cL_law 1451 = .ok (.iconst 0, 1) := by decide +kernel
theorem dL_law_1452 : decode cL_law 1452 = .ok (.laload, 1) := by decide +kernel
theorem dL_law_1453 : decode cL_law 1453 = .ok (.iload 6, 2) := by decide +kernel
theorem dL_law_1455 : decode cL_law 1455 = .ok (.i2l, 1) := by decide +kernel
theorem dL_law_1456 : decode cL_law 1456 = .ok (.lcmp, 1) := by decide +kernel
theorem dL_law_1457 : decode cL_law 1457 = .ok (.ifCond .eq 5, 3) := by decide +kernel
theorem dL_law_1460 : decode cL_law 1460 = .ok (.iconst 0, 1) := by decide +kernel
theorem dL_law_1461 : decode cL_law 1461 = .ok (.ireturn, 1) := by decide +kernel
theorem dL_law_1462 : decode cL_law 1462 = .ok (.goto 389, 3) := by decide +kernel
theorem dL_law_1465 : decode cL_law 1465 = .ok (.aload_n 1, 1) := by decide +kernel
theorem dL_law_1466 : decode cL_law 1466 = .ok (.aload_n 0, 1) := by decide +kernel
theorem dL_law_1467 : decode cL_law 1467 = .ok (.iload 4, 2) := by decide +kernel
theorem dL_law_1469 : decode cL_law 1469 = .ok (.iconst 1, 1) := by decide +kernel
theorem dL_law_1470 : decode cL_law 1470 = .ok (.iadd, 1) := by decide +kernel
theorem dL_law_1471 : decode cL_law 1471 = .ok (.iaload, 1) := by decide +kernel
theorem dL_law_1472 : decode cL_law 1472 = .ok (.aload_n 3, 1) := by decide +kernel
theorem dL_law_1473 : decode cL_law 1473 = .ok (.invokestatic 174, 3) := by decide +kernel
theorem dL_law_1476 : decode cL_law 1476 = .ok (.istore 5, 2) := by decide +kernel
theorem dL_law_1478 : decode cL_law 1478 = .ok (.aload_n 2, 1) := by decide +kernel
theorem dL_law_1479 : decode cL_law 1479 = .ok (.aload_n 0, 1) := by decide +kernel
theorem dL_law_1480 : decode cL_law 1480 = .ok (.iload 4, 2) := by decide +kernel
theorem dL_law_1482 : decode cL_law 1482 = .ok (.iconst 1, 1) := by decide +kernel
theorem dL_law_1483 : decode cL_law 1483 = .ok (.iadd, 1) := by decide +kernel
theorem dL_law_1484 : decode cL_law 1484 = .ok (.iaload, 1) := by decide +kernel
theorem dL_law_1485 : decode cL_law 1485 = .ok (.invokevirtual 176, 3) := by decide +kernel
theorem dL_law_1488 : decode cL_law 1488 = .ok (.istore 6, 2) := by decide +kernel
theorem dL_law_1490 : decode cL_law 1490 = .ok (.aload_n 2, 1) := by decide +kernel
theorem dL_law_1491 : decode cL_law 1491 = .ok (.invokevirtual 105, 3) := by decide +kernel
theorem dL_law_1494 : decode cL_law 1494 = .ok (.iload 5, 2) := by decide +kernel
theorem dL_law_1496 : decode cL_law 1496 = .ok (.if_icmp .eq 5, 3) := by decide +kernel
theorem dL_law_1499 : decode cL_law 1499 = .ok (.iconst 0, 1) := by decide +kernel
theorem dL_law_1500 : decode cL_law 1500 = .ok (.ireturn, 1) := by decide +kernel
theorem dL_law_1501 : decode cL_law 1501 = .ok (.iload 5, 2) := by decide +kernel
theorem dL_law_1503 : decode cL_law 1503 = .ok (.ifCond .ne 15, 3) := by decide +kernel
theorem dL_law_1506 : decode cL_law 1506 = .ok (.aload_n 3, 1) := by decide +kernel
theorem dL_law_1507 : decode cL_law 1507 = .ok (.iconst 0, 1) := by decide +kernel
theorem dL_law_1508 : decode cL_law 1508 = .ok (.laload, 1) := by decide +kernel
theorem dL_law_1509 : decode cL_law 1509 = .ok (.iload 6, 2) := by decide +kernel
theorem dL_law_1511 : decode cL_law 1511 = .ok (.i2l, 1) := by decide +kernel
theorem dL_law_1512 : decode cL_law 1512 = .ok (.lcmp, 1) := by decide +kernel
theorem dL_law_1513 : decode cL_law 1513 = .ok (.ifCond .eq 5, 3) := by decide +kernel
theorem dL_law_1516 : decode cL_law 1516 = .ok (.iconst 0, 1) := by decide +kernel
theorem dL_law_1517 : decode cL_law 1517 = .ok (.ireturn, 1) := by decide +kernel
theorem dL_law_1518 : decode cL_law 1518 = .ok (.goto 333, 3) := by decide +kernel
theorem dL_law_1521 : decode cL_law 1521 = .ok (.aload_n 1, 1) := by decide +kernel
theorem dL_law_1522 : decode cL_law 1522 = .ok (.aload_n 0, 1) := by decide +kernel
theorem dL_law_1523 : decode cL_law 1523 = .ok (.iload 4, 2) := by decide +kernel
theorem dL_law_1525 : decode cL_law 1525 = .ok (.iconst 1, 1) := by decide +kernel
theorem dL_law_1526 : decode cL_law 1526 = .ok (.iadd, 1) := by decide +kernel
theorem dL_law_1527 : decode cL_law 1527 = .ok (.iaload, 1) := by decide +kernel
theorem dL_law_1528 : decode cL_law 1528 = .ok (.aload_n 0, 1) := by decide +kernel
theorem dL_law_1529 : decode cL_law 1529 = .ok (.iload 4, 2) := by decide +kernel
theorem dL_law_1531 : decode cL_law 1531 = .ok (.iconst 2, 1) := by decide +kernel
theorem dL_law_1532 : decode cL_law 1532 = .ok (.iadd, 1) := by decide +kernel
theorem dL_law_1533 : decode cL_law 1533 = .ok (.iaload, 1) := by decide +kernel
theorem dL_law_1534 : decode cL_law 1534 = .ok (.aload_n 3, 1) := by decide +kernel
theorem dL_law_1535 : decode cL_law 1535 = .ok (.invokestatic 177, 3) := by decide +kernel
theorem dL_law_1538 : decode cL_law 1538 = .ok (.istore 5, 2) := by decide +kernel
theorem dL_law_1540 : decode cL_law 1540 = .ok (.aload_n 2, 1) := by decide +kernel
theorem dL_law_1541 : decode cL_law 1541 = .ok (.aload_n 0, 1) := by decide +kernel
theorem dL_law_1542 : decode cL_law 1542 = .ok (.iload 4, 2) := by decide +kernel
theorem dL_law_1544 : decode cL_law 1544 = .ok (.iconst 1, 1) := by decide +kernel
theorem dL_law_1545 : decode cL_law 1545 = .ok (.iadd, 1) := by decide +kernel
theorem dL_law_1546 : decode cL_law 1546 = .ok (.iaload, 1) := by decide +kernel
theorem dL_law_1547 : decode cL_law 1547 = .ok (.aload_n 0, 1) := by decide +kernel
theorem dL_law_1548 : decode cL_law 1548 = .ok (.iload 4, 2) := by decide +kernel
theorem dL_law_1550 : decode cL_law 1550 = .ok (.iconst 2, 1) := by decide +kernel
theorem dL_law_1551 : decode cL_law 1551 = .ok (.iadd, 1) := by decide +kernel
theorem dL_law_1552 : decode cL_law 1552 = .ok (.iaload, 1) := by decide +kernel
theorem dL_law_1553 : decode cL_law 1553 = .ok (.invokevirtual 179, 3) := by decide +kernel
theorem dL_law_1556 : decode cL_law 1556 = .ok (.istore 6, 2) := by decide +kernel
theorem dL_law_1558 : decode cL_law 1558 = .ok (.aload_n 2, 1) := by decide +kernel
theorem dL_law_1559 : decode cL_law 1559 = .ok (.invokevirtual 105, 3) := by decide +kernel
theorem dL_law_1562 : decode cL_law 1562 = .ok (.iload 5, 2) := by decide +kernel
theorem dL_law_1564 : decode cL_law 1564 = .ok (.if_icmp .eq 5, 3) := by decide +kernel
theorem dL_law_1567 : decode cL_law 1567 = .ok (.iconst 0, 1) := by decide +kernel
theorem dL_law_1568 : decode cL_law 1568 = .ok (.ireturn, 1) := by decide +kernel
theorem dL_law_1569 : decode cL_law 1569 = .ok (.iload 5, 2) := by decide +kernel
theorem dL_law_1571 : decode cL_law 1571 = .ok (.ifCond .ne 15, 3) := by decide +kernel
theorem dL_law_1574 : decode cL_law 1574 = .ok (.aload_n 3, 1) := by decide +kernel
theorem dL_law_1575 : decode cL_law 1575 = .ok (.iconst 0, 1) := by decide +kernel
theorem dL_law_1576 : decode cL_law 1576 = .ok (.laload, 1) := by decide +kernel
theorem dL_law_1577 : decode cL_law 1577 = .ok (.iload 6, 2) := by decide +kernel
theorem dL_law_1579 : decode cL_law 1579 = .ok (.i2l, 1) := by decide +kernel
theorem dL_law_1580 : decode cL_law 1580 = .ok (.lcmp, 1) := by decide +kernel
theorem dL_law_1581 : decode cL_law 1581 = .ok (.ifCond .eq 5, 3) := by decide +kernel
theorem dL_law_1584 : decode cL_law 1584 = .ok (.iconst 0, 1) := by decide +kernel
theorem dL_law_1585 : decode cL_law 1585 = .ok (.ireturn, 1) := by decide +kernel
theorem dL_law_1586 : decode cL_law 1586 = .ok (.goto 265, 3) := by decide +kernel
theorem dL_law_1589 : decode cL_law 1589 = .ok (.aload_n 1, 1) := by decide +kernel
theorem dL_law_1590 : decode cL_law 1590 = .ok (.aload_n 0, 1) := by decide +kernel
theorem dL_law_1591 : decode cL_law 1591 = .ok (.iload 4, 2) := by decide +kernel
theorem dL_law_1593 : decode cL_law 1593 = .ok (.iconst 1, 1) := by decide +kernel
theorem dL_law_1594 : decode cL_law 1594 = .ok (.iadd, 1) := by decide +kernel
theorem dL_law_1595 : decode cL_law 1595 = .ok (.iaload, 1) := by decide +kernel
theorem dL_law_1596 : decode cL_law 1596 = .ok (.aload_n 3, 1) := by decide +kernel
theorem dL_law_1597 : decode cL_law 1597 = .ok (.invokestatic 180, 3) := by decide +kernel
theorem dL_law_1600 : decode cL_law 1600 = .ok (.istore 5, 2) := by decide +kernel
theorem dL_law_1602 : decode cL_law 1602 = .ok (.aload_n 2, 1) := by decide +kernel
theorem dL_law_1603 : decode cL_law 1603 = .ok (.aload_n 0, 1) := by decide +kernel
theorem dL_law_1604 : decode cL_law 1604 = .ok (.iload 4, 2) := by decide +kernel
theorem dL_law_1606 : decode cL_law 1606 = .ok (.iconst 1, 1) := by decide +kernel
theorem dL_law_1607 : decode cL_law 1607 = .ok (.iadd, 1) := by decide +kernel
theorem dL_law_1608 : decode cL_law 1608 = .ok (.iaload, 1) := by decide +kernel
theorem dL_law_1609 : decode cL_law 1609 = .ok (.invokevirtual 182, 3) := by decide +kernel
theorem dL_law_1612 : decode cL_law 1612 = .ok (.istore 6, 2) := by decide +kernel
theorem dL_law_1614 : decode cL_law 1614 = .ok (.aload_n 2, 1) := by decide +kernel
theorem dL_law_1615 : decode cL_law 1615 = .ok (.invokevirtual 105, 3) := by decide +kernel
theorem dL_law_1618 : decode cL_law 1618 = .ok (.iload 5, 2) := by decide +kernel
theorem dL_law_1620 : decode cL_law 1620 = .ok (.if_icmp .eq 5, 3) := by decide +kernel
theorem dL_law_1623 : decode cL_law 1623 = .ok (.iconst 0, 1) := by decide +kernel
theorem dL_law_1624 : decode cL_law 1624 = .ok (.ireturn, 1) := by decide +kernel
theorem dL_law_1625 : decode cL_law 1625 = .ok (.iload 5, 2) := by decide +kernel
theorem dL_law_1627 : decode cL_law 1627 = .ok (.ifCond .ne 15, 3) := by decide +kernel
theorem dL_law_1630 : decode cL_law 1630 = .ok (.aload_n 3, 1) := by decide +kernel
theorem dL_law_1631 : decode cL_law 1631 = .ok (.iconst 0, 1) := by decide +kernel
theorem dL_law_1632 : decode cL_law 1632 = .ok (.laload, 1) := by decide +kernel
theorem dL_law_1633 : decode cL_law 1633 = .ok (.iload 6, 2) := by decide +kernel
theorem dL_law_1635 : decode cL_law 1635 = .ok (.i2l, 1) := by decide +kernel
theorem dL_law_1636 : decode cL_law 1636 = .ok (.lcmp, 1) := by decide +kernel
theorem dL_law_1637 : decode cL_law 1637 = .ok (.ifCond .eq 5, 3) := by decide +kernel
theorem dL_law_1640 : decode cL_law 1640 = .ok (.iconst 0, 1) := by decide +kernel
theorem dL_law_1641 : decode cL_law 1641 = .ok (.ireturn, 1) := by decide +kernel
theorem dL_law_1642 : decode cL_law 1642 = .ok (.goto 209, 3) := by decide +kernel
theorem dL_law_1645 : decode cL_law 1645 = .ok (.aload_n 1, 1) := by decide +kernel
theorem dL_law_1646 : decode cL_law 1646 = .ok (.aload_n 0, 1) := by decide +kernel
theorem dL_law_1647 : decode cL_law 1647 = .ok (.iload 4, 2) := by decide +kernel
theorem dL_law_1649 : decode cL_law 1649 = .ok (.iconst 1, 1) := by decide +kernel
theorem dL_law_1650 : decode cL_law 1650 = .ok (.iadd, 1) := by decide +kernel
theorem dL_law_1651 : decode cL_law 1651 = .ok (.iaload, 1) := by decide +kernel
theorem dL_law_1652 : decode cL_law 1652 = .ok (.aload_n 0, 1) := by decide +kernel
theorem dL_law_1653 : decode cL_law 1653 = .ok (.iload 4, 2) := by decide +kernel
theorem dL_law_1655 : decode cL_law 1655 = .ok (.iconst 2, 1) := by decide +kernel
theorem dL_law_1656 : decode cL_law 1656 = .ok (.iadd, 1) := by decide +kernel
theorem dL_law_1657 : decode cL_law 1657 = .ok (.iaload, 1) := by decide +kernel
theorem dL_law_1658 : decode cL_law 1658 = .ok (.aload_n 3, 1) := by decide +kernel
theorem dL_law_1659 : decode cL_law 1659 = .ok (.invokestatic 183, 3) := by decide +kernel
theorem dL_law_1662 : decode cL_law 1662 = .ok (.istore 5, 2) := by decide +kernel
theorem dL_law_1664 : decode cL_law 1664 = .ok (.aload_n 2, 1) := by decide +kernel
theorem dL_law_1665 : decode cL_law 1665 = .ok (.aload_n 0, 1) := by decide +kernel
theorem dL_law_1666 : decode cL_law 1666 = .ok (.iload 4, 2) := by decide +kernel
theorem dL_law_1668 : decode cL_law 1668 = .ok (.iconst 1, 1) := by decide +kernel
theorem dL_law_1669 : decode cL_law 1669 = .ok (.iadd, 1) := by decide +kernel
theorem dL_law_1670 : decode cL_law 1670 = .ok (.iaload, 1) := by decide +kernel
theorem dL_law_1671 : decode cL_law 1671 = .ok (.aload_n 0, 1) := by decide +kernel
theorem dL_law_1672 : decode cL_law 1672 = .ok (.iload 4, 2) := by decide +kernel
theorem dL_law_1674 : decode cL_law 1674 = .ok (.iconst 2, 1) := by decide +kernel
theorem dL_law_1675 : decode cL_law 1675 = .ok (.iadd, 1) := by decide +kernel
theorem dL_law_1676 : decode cL_law 1676 = .ok (.iaload, 1) := by decide +kernel
theorem dL_law_1677 : decode cL_law 1677 = .ok (.invokevirtual 185, 3) := by decide +kernel
theorem dL_law_1680 : decode cL_law 1680 = .ok (.istore 6, 2) := by decide +kernel
theorem dL_law_1682 : decode cL_law 1682 = .ok (.aload_n 2, 1) := by decide +kernel
theorem dL_law_1683 : decode cL_law 1683 = .ok (.invokevirtual 105, 3) := by decide +kernel
theorem dL_law_1686 : decode cL_law 1686 = .ok (.iload 5, 2) := by decide +kernel
theorem dL_law_1688 : decode cL_law 1688 = .ok (.if_icmp .eq 5, 3) := by decide +kernel
theorem dL_law_1691 : decode cL_law 1691 = .ok (.iconst 0, 1) := by decide +kernel
theorem dL_law_1692 : decode cL_law 1692 = .ok (.ireturn, 1) := by decide +kernel
theorem dL_law_1693 : decode cL_law 1693 = .ok (.iload 5, 2) := by decide +kernel
theorem dL_law_1695 : decode cL_law 1695 = .ok (.ifCond .ne 15, 3) := by decide +kernel
theorem dL_law_1698 : decode cL_law 1698 = .ok (.aload_n 3, 1) := by decide +kernel
theorem dL_law_1699 : decode cL_law 1699 = .ok (.iconst 0, 1) := by decide +kernel
theorem dL_law_1700 : decode cL_law 1700 = .ok (.laload, 1) := by decide +kernel
theorem dL_law_1701 : decode cL_law 1701 = .ok (.iload 6, 2) := by decide +kernel
theorem dL_law_1703 : decode cL_law 1703 = .ok (.i2l, 1) := by decide +kernel
theorem dL_law_1704 : decode cL_law 1704 = .ok (.lcmp, 1) := by decide +kernel
theorem dL_law_1705 : decode cL_law 1705 = .ok (.ifCond .eq 5, 3) := by decide +kernel
theorem dL_law_1708 : decode cL_law 1708 = .ok (.iconst 0, 1) := by decide +kernel
theorem dL_law_1709 : decode cL_law 1709 = .ok (.ireturn, 1) := by decide +kernel
theorem dL_law_1710 : decode cL_law 1710 = .ok (.goto 141, 3) := by decide +kernel
theorem dL_law_1713 : decode cL_law 1713 = .ok (.aload_n 1, 1) := by decide +kernel
theorem dL_law_1714 : decode cL_law 1714 = .ok (.aload_n 0, 1) := by decide +kernel
theorem dL_law_1715 : decode cL_law 1715 = .ok (.iload 4, 2) := by decide +kernel
theorem dL_law_1717 : decode cL_law 1717 = .ok (.iconst 1, 1) := by decide +kernel
theorem dL_law_1718 : decode cL_law 1718 = .ok (.iadd, 1) := by decide +kernel
theorem dL_law_1719 : decode cL_law 1719 = .ok (.iaload, 1) := by decide +kernel
theorem dL_law_1720 : decode cL_law 1720 = .ok (.aload_n 3, 1) := by decide +kernel
theorem dL_law_1721 : decode cL_law 1721 = .ok (.invokestatic 186, 3) := by decide +kernel
theorem dL_law_1724 : decode cL_law 1724 = .ok (.istore 5, 2) := by decide +kernel
theorem dL_law_1726 : decode cL_law 1726 = .ok (.aload_n 2, 1) := by decide +kernel
theorem dL_law_1727 : decode cL_law 1727 = .ok (.aload_n 0, 1) := by decide +kernel
theorem dL_law_1728 : decode cL_law 1728 = .ok (.iload 4, 2) := by decide +kernel
theorem dL_law_1730 : decode cL_law 1730 = .ok (.iconst 1, 1) := by decide +kernel
theorem dL_law_1731 : decode cL_law 1731 = .ok (.iadd, 1) := by decide +kernel
theorem dL_law_1732 : decode cL_law 1732 = .ok (.iaload, 1) := by decide +kernel
theorem dL_law_1733 : decode cL_law 1733 = .ok (.invokevirtual 188, 3) := by decide +kernel
theorem dL_law_1736 : decode cL_law 1736 = .ok (.istore 6, 2) := by decide +kernel
theorem dL_law_1738 : decode cL_law 1738 = .ok (.aload_n 2, 1) := by decide +kernel
theorem dL_law_1739 : decode cL_law 1739 = .ok (.invokevirtual 105, 3) := by decide +kernel
theorem dL_law_1742 : decode cL_law 1742 = .ok (.iload 5, 2) := by decide +kernel
theorem dL_law_1744 : decode cL_law 1744 = .ok (.if_icmp .eq 5, 3) := by decide +kernel
theorem dL_law_1747 : decode cL_law 1747 = .ok (.iconst 0, 1) := by decide +kernel
theorem dL_law_1748 : decode cL_law 1748 = .ok (.ireturn, 1) := by decide +kernel
theorem dL_law_1749 : decode cL_law 1749 = .ok (.iload 5, 2) := by decide +kernel
theorem dL_law_1751 : decode cL_law 1751 = .ok (.ifCond .ne 15, 3) := by decide +kernel
theorem dL_law_1754 : decode cL_law 1754 = .ok (.aload_n 3, 1) := by decide +kernel
theorem dL_law_1755 : decode cL_law 1755 = .ok (.iconst 0, 1) := by decide +kernel
theorem dL_law_1756 : decode cL_law 1756 = .ok (.laload, 1) := by decide +kernel
theorem dL_law_1757 : decode cL_law 1757 = .ok (.iload 6, 2) := by decide +kernel
theorem dL_law_1759 : decode cL_law 1759 = .ok (.i2l, 1) := by decide +kernel
theorem dL_law_1760 : decode cL_law 1760 = .ok (.lcmp, 1) := by decide +kernel
theorem dL_law_1761 : decode cL_law 1761 = .ok (.ifCond .eq 5, 3) := by decide +kernel
theorem dL_law_1764 : decode cL_law 1764 = .ok (.iconst 0, 1) := by decide +kernel
theorem dL_law_1765 : decode cL_law 1765 = .ok (.ireturn, 1) := by decide +kernel
theorem dL_law_1766 : decode cL_law 1766 = .ok (.goto 85, 3) := by decide +kernel
theorem dL_law_1769 : decode cL_law 1769 = .ok (.aload_n 1, 1) := by decide +kernel
theorem dL_law_1770 : decode cL_law 1770 = .ok (.aload_n 0, 1) := by decide +kernel
theorem dL_law_1771 : decode cL_law 1771 = .ok (.iload 4, 2) := by decide +kernel
theorem dL_law_1773 : decode cL_law 1773 = .ok (.iconst 1, 1) := by decide +kernel
theorem dL_law_1774 : decode cL_law 1774 = .ok (.iadd, 1) := by decide +kernel
theorem dL_law_1775 : decode cL_law 1775 = .ok (.iaload, 1) := by decide +kernel
theorem dL_law_1776 : decode cL_law 1776 = .ok (.aload_n 3, 1) := by decide +kernel
theorem dL_law_1777 : decode cL_law 1777 = .ok (.invokestatic 189, 3) := by decide +kernel
theorem dL_law_1780 : decode cL_law 1780 = .ok (.istore 5, 2) := by decide +kernel
theorem dL_law_1782 : decode cL_law 1782 = .ok (.aload_n 2, 1) := by decide +kernel
theorem dL_law_1783 : decode cL_law 1783 = .ok (.aload_n 0, 1) := by decide +kernel
theorem dL_law_1784 : decode cL_law 1784 = .ok (.iload 4, 2) := by decide +kernel
theorem dL_law_1786 : decode cL_law 1786 = .ok (.iconst 1, 1) := by decide +kernel
theorem dL_law_1787 : decode cL_law 1787 = .ok (.iadd, 1) := by decide +kernel
theorem dL_law_1788 : decode cL_law 1788 = .ok (.iaload, 1) := by decide +kernel
theorem dL_law_1789 : decode cL_law 1789 = .ok (.invokevirtual 191, 3) := by decide +kernel
theorem dL_law_1792 : decode cL_law 1792 = .ok (.istore 6, 2) := by decide +kernel
theorem dL_law_1794 : decode cL_law 1794 = .ok (.aload_n 2, 1) := by decide +kernel
theorem dL_law_1795 : decode cL_law 1795 = .ok (.invokevirtual 105, 3) := by decide +kernel
theorem dL_law_1798 : decode cL_law 1798 = .ok (.iload 5, 2) := by decide +kernel
theorem dL_law_1800 : decode cL_law 1800 = .ok (.if_icmp .eq 5, 3) := by decide +kernel
theorem dL_law_1803 : decode cL_law 1803 = .ok (.iconst 0, 1) := by decide +kernel
theorem dL_law_1804 : decode cL_law 1804 = .ok (.ireturn, 1) := by decide +kernel
theorem dL_law_1805 : decode cL_law 1805 = .ok (.iload 5, 2) := by decide +kernel
theorem dL_law_1807 : decode cL_law 1807 = .ok (.ifCond .ne 15, 3) := by decide +kernel
theorem dL_law_1810 : decode cL_law 1810 = .ok (.aload_n 3, 1) := by decide +kernel
theorem dL_law_1811 : decode cL_law 1811 = .ok (.iconst 0, 1) := by decide +kernel
theorem dL_law_1812 : decode cL_law 1812 = .ok (.laload, 1) := by decide +kernel
theorem dL_law_1813 : decode cL_law 1813 = .ok (.iload 6, 2) := by decide +kernel
theorem dL_law_1815 : decode cL_law 1815 = .ok (.i2l, 1) := by decide +kernel
theorem dL_law_1816 : decode cL_law 1816 = .ok (.lcmp, 1) := by decide +kernel
theorem dL_law_1817 : decode cL_law 1817 = .ok (.ifCond .eq 5, 3) := by decide +kernel
theorem dL_law_1820 : decode cL_law 1820 = .ok (.iconst 0, 1) := by decide +kernel
theorem dL_law_1821 : decode cL_law 1821 = .ok (.ireturn, 1) := by decide +kernel
theorem dL_law_1822 : decode cL_law 1822 = .ok (.goto 29, 3) := by decide +kernel
theorem dL_law_1825 : decode cL_law 1825 = .ok (.aload_n 1, 1) := by decide +kernel
theorem dL_law_1826 : decode cL_law 1826 = .ok (.invokevirtual 192, 3) := by decide +kernel
theorem dL_law_1829 : decode cL_law 1829 = .ok (.aload_n 2, 1) := by decide +kernel
theorem dL_law_1830 : decode cL_law 1830 = .ok (.invokevirtual 195, 3) := by decide +kernel
theorem dL_law_1833 : decode cL_law 1833 = .ok (.if_icmp .eq 18, 3) := by decide +kernel
theorem dL_law_1836 : decode cL_law 1836 = .ok (.iconst 0, 1) := by decide +kernel
theorem dL_law_1837 : decode cL_law 1837 = .ok (.ireturn, 1) := by decide +kernel
theorem dL_law_1838 : decode cL_law 1838 = .ok (.aload_n 1, 1) := by decide +kernel
theorem dL_law_1839 : decode cL_law 1839 = .ok (.invokevirtual 196, 3) := by decide +kernel
theorem dL_law_1842 : decode cL_law 1842 = .ok (.aload_n 2, 1) := by decide +kernel
theorem dL_law_1843 : decode cL_law 1843 = .ok (.invokevirtual 199, 3) := by decide +kernel
theorem dL_law_1846 : decode cL_law 1846 = .ok (.if_icmp .eq 5, 3) := by decide +kernel
theorem dL_law_1849 : decode cL_law 1849 = .ok (.iconst 0, 1) := by decide +kernel
theorem dL_law_1850 : decode cL_law 1850 = .ok (.ireturn, 1) := by decide +kernel
theorem dL_law_1851 : decode cL_law 1851 = .ok (.iinc 4 4, 3) := by decide +kernel
theorem dL_law_1854 : decode cL_law 1854 = .ok (.goto (-1831), 3) := by decide +kernel
theorem dL_law_1857 : decode cL_law 1857 = .ok (.iconst 1, 1) := by decide +kernel
theorem dL_law_1858 : decode cL_law 1858 = .ok (.ireturn, 1) := by decide +kernel
end
section
/-! ===== BEGIN a constructor that throws (launches without stack traces) ===== -/
section VXIA
variable {p : Program} {l : Launch} {e : Env} {R : Room} {s : State} {m : MethodId} {args : Array Value} {below : List Frame} {meth : Method} {c : Code} {T : State} {locs : List Loc} {cells slots : Nat}
theorem vx_callI (X : Stand p l e R s m args below meth c T locs cells slots) (hexec : p.tables.exec = Jvm.exec) {own : String} {index : Nat} {y : MethodName} {bytes : ByteArray} {maxL : Nat}
    (hown : s.vm.findClass own = some m.cls) (hy1 : y.name = "<init>") (hlink : (Cond.methodLink own index y).before args s = true) (hinst : (Cond.instanceMethod y).before args s = true)
    (hcode : (Cond.code y bytes maxL none).before args s = true) (hy : y.cls ≠ "java/lang/invoke/MethodHandle" ∧ y.cls ≠ "java/lang/invoke/VarHandle")
    {W9 : Nat} {Pre : Pt → Array Value → Prop} {Post : Pt → Array Value → Option Value → Pt → Prop} {PostX : Pt → Array Value → Addr → Pt → Prop} (hK : vx_Back l R p e below s args y 3 W9 Pre Post PostX)
    {g : JFrame} (hg : g.method = m) (hsize : g.locals.size = c.maxLocals) {a : Addr} {argsL rest : List Value} (hlen : ∀ sig, parseMethodDescriptor y.desc = some sig → argsL.length = sig.parameters.length)
    (hstack : g.stack = argsL.reverse ++ .ref a :: rest) (hW : 2 * g.monitorRoom + (rest.map fun v => v.category).sum ≤ W9) (hdg : decode c.code g.pc = .ok (.invokespecial index, 3))
    (hpre : ∀ vm₁, s.WarmedH vm₁ → Pre ⟨T.setVm vm₁, locs, cells, slots⟩ (Value.ref a :: argsL).toArray) :
    (∃ (v : Option Value) (vm₁ : Vm) (B : Pt), s.WarmedH vm₁ ∧ Stand p l e R s m args below meth c B.U B.locs B.cells B.slots ∧ Post ⟨T.setVm vm₁, locs, cells, slots⟩ (Value.ref a :: argsL).toArray v B ∧
      ∀ target, Steps p.tables e below (B.U.setTop { g with pc := g.pc + 3, stack := v.toList ++ rest }) target → Steps p.tables e below (T.setTop g) target) ∨
    (∃ (q : Addr) (vm₁ : Vm) (B : Pt), s.WarmedH vm₁ ∧ Stand p l e R s m args below meth c B.U B.locs B.cells B.slots ∧ PostX ⟨T.setVm vm₁, locs, cells, slots⟩ (Value.ref a :: argsL).toArray q B ∧
      Steps p.tables e below (T.setTop g) ((B.U.setTop { g with stack := rest }).pushFrame (.throwing q))) := by
  subst hg
  have hpl : e.platform.magicAccessors = ({} : Platform).magicAccessors := by rw [X.admits.platform]
  obtain ⟨mk, methM, cM, kP, vm₁, hnamed, hmethM, hcodeM, -, hlocalsM, -, hkP, -, hW₁, hstep₁⟩ := Steps.initColdArgs (e := e) X.here hexec X.warmed hpl hown hy1 hy hlink hinst hcode (f := g) rfl hlen hstack hdg
  have X₁ := X.noted hW₁
  rcases hK g.method meth c ⟨T.setVm vm₁, locs, cells, slots⟩ { g with stack := rest } (.invokespecial index) mk (Value.ref a :: argsL).toArray X₁ rfl hsize hdg hW (X₁.named hnamed) (hpre vm₁ X₁.warmed) with ⟨v, B, X', hpost, hsteps⟩ | ⟨q, B, X', hpost, hsteps⟩
  · exact Or.inl ⟨v, vm₁, B, X₁.warmed, X', hpost, fun target h => hstep₁ _ fun acts => by rw [doInvoke_state]; exact hsteps.trans h⟩
  · exact Or.inr ⟨q, vm₁, B, X₁.warmed, X', hpost, hstep₁ _ fun acts => by rw [doInvoke_state]; exact hsteps⟩
end VXIA
section VXIB
variable {p : Program} {l : Launch} {e : Env} {R : Room} {s : State} {m : MethodId} {args : Array Value} {below : List Frame} {meth : Method} {c : Code} {H : Heap} {locs : List Loc} {cells slots : Nat}
variable {y : MethodName} {bytes cc : ByteArray} {maxL nL mc ms n index : Nat} {ret : Option FieldType} {ws : List Cond} {rm : Room} {Pc : Array Value → State → Prop} {Qc : Array Value → State → Outcome → State → Prop} {XC : String → State → State → Prop} {free : Addr → Prop} {Ts : List Cond} {own C : String} {b : Addr} {As rest : List Value} {g : JFrame}
theorem vx_runI (S : CallFix p m c cc nL s args Ts own) (hM : vx_Met l y ws rm Pc Qc XC mc ms free) (cw : CallB R s args own index y bytes maxL none ws rm mc ms n ∧ y.name = "<init>" ∧ (Cond.instanceMethod y).before args s = true) (hp : PreS s H Pc (.ref b :: As))
    (hg : g.method = m) (hn : As.length = n) (hsize : g.locals.size = nL) (hstack : g.stack = As.reverse ++ .ref b :: rest) (hW : 2 * g.monitorRoom + (rest.map fun v => v.category).sum ≤ 8) (hdg : decode cc g.pc = .ok (.invokespecial index, 3)) (hf : cells + mc ≤ R.cells ∧ slots + ms ≤ R.slots) :
    vx_Run p l e R s m args below meth c H locs cells slots mc ms g rest (Qc (Value.ref b :: As).toArray) XC free := by
  have hK : vx_Back l R p e below s args y 3 8 (PreOf R mc ms Pc) (PostOf Qc mc ms free) (vx_Post XC mc ms free) := vx_callBack cw.1 hM hp.1
  obtain ⟨⟨-, -, -, -, -, -, hcode, -, hy, hlen, hl⟩, hy1, hin⟩ := cw
  obtain ⟨hx, hb, hml, ho, -⟩ := S
  have hPc := hp.2
  intro T hT X
  rcases vx_callI X hx (bytes := bytes) (maxL := maxL) ho hy1 hl hin hcode hy hK hg (hsize.trans hml.symm) (a := b) (argsL := As) (rest := rest) (fun sig h => hn.trans (hlen sig h)) hstack hW (by rw [hb]; exact hdg)
    (fun vm₁ hW₁ => ⟨hf.1, hf.2, hPc (T.setVm vm₁) hT hW₁⟩) with ⟨v, vm₁, ⟨U', l2, c2, s2⟩, hW₁, X', ⟨g', mk, t, L, e1, e2, hq, h1, hL, h2, h3⟩, st⟩ | ⟨q, vm₁, ⟨U', l2, c2, s2⟩, hW₁, X', ⟨g', mk, t, L, E, ce, e1, e2, hq, hce, hcv, hcl, h1, hL, h2, h3⟩, st⟩
  · dsimp only [Pt.U, Pt.locs, Pt.cells, Pt.slots] at X' e1 e2 h1 h2 h3 st
    subst h1; subst h2; subst h3
    exact Or.inl ⟨v, (T.setVm vm₁).calling g' mk (Value.ref b :: As).toArray, t, U', L, hT, X', hL, e1, e2, hq, st⟩
  · dsimp only [Pt.U, Pt.locs, Pt.cells, Pt.slots] at X' e1 e2 h1 h2 h3 st hcl
    subst h1; subst h2; subst h3
    exact Or.inr ⟨q, (T.setVm vm₁).calling g' mk (Value.ref b :: As).toArray, t, U', L, E, ce, hT, X', hL, e1, e2, hq, hce, hcv, vx_cls hW₁ hcl, st⟩
end VXIB
/-! ===== END ===== -/
/-! ===== BEGIN a private constructor of a nest mate that throws ===== -/
section VXIC
variable {p : Program} {l : Launch} {e : Env} {R : Room} {s : State} {m : MethodId} {args : Array Value} {below : List Frame} {meth : Method} {c : Code} {T : State} {locs : List Loc} {cells slots : Nat}
theorem vx_callIN (X : Stand p l e R s m args below meth c T locs cells slots) (hexec : p.tables.exec = Jvm.exec) {own : String} {index : Nat} {host : String} {y : MethodName} {bytes : ByteArray} {maxL : Nat}
    (hown : s.vm.findClass own = some m.cls) (hy1 : y.name = "<init>") (hlink : (Cond.methodLinkNest own index y host).before args s = true) (hinst : (Cond.instanceMethod y).before args s = true)
    (hcode : (Cond.code y bytes maxL none).before args s = true) (hy : y.cls ≠ "java/lang/invoke/MethodHandle" ∧ y.cls ≠ "java/lang/invoke/VarHandle")
    {W9 : Nat} {Pre : Pt → Array Value → Prop} {Post : Pt → Array Value → Option Value → Pt → Prop} {PostX : Pt → Array Value → Addr → Pt → Prop} (hK : vx_Back l R p e below s args y 3 W9 Pre Post PostX)
    {g : JFrame} (hg : g.method = m) (hsize : g.locals.size = c.maxLocals) {a : Addr} {argsL rest : List Value} (hlen : ∀ sig, parseMethodDescriptor y.desc = some sig → argsL.length = sig.parameters.length)
    (hstack : g.stack = argsL.reverse ++ .ref a :: rest) (hW : 2 * g.monitorRoom + (rest.map fun v => v.category).sum ≤ W9) (hdg : decode c.code g.pc = .ok (.invokespecial index, 3))
    (hpre : ∀ vm₁, s.WarmedH vm₁ → Pre ⟨T.setVm vm₁, locs, cells, slots⟩ (Value.ref a :: argsL).toArray) :
    (∃ (v : Option Value) (vm₁ : Vm) (B : Pt), s.WarmedH vm₁ ∧ Stand p l e R s m args below meth c B.U B.locs B.cells B.slots ∧ Post ⟨T.setVm vm₁, locs, cells, slots⟩ (Value.ref a :: argsL).toArray v B ∧
      ∀ target, Steps p.tables e below (B.U.setTop { g with pc := g.pc + 3, stack := v.toList ++ rest }) target → Steps p.tables e below (T.setTop g) target) ∨
    (∃ (q : Addr) (vm₁ : Vm) (B : Pt), s.WarmedH vm₁ ∧ Stand p l e R s m args below meth c B.U B.locs B.cells B.slots ∧ PostX ⟨T.setVm vm₁, locs, cells, slots⟩ (Value.ref a :: argsL).toArray q B ∧
      Steps p.tables e below (T.setTop g) ((B.U.setTop { g with stack := rest }).pushFrame (.throwing q))) := by
  subst hg
  have hpl : e.platform.magicAccessors = ({} : Platform).magicAccessors := by rw [X.admits.platform]
  obtain ⟨mk, methM, cM, kP, vm₁, hnamed, hmethM, hcodeM, -, hlocalsM, -, hkP, -, hW₁, hstep₁⟩ := Steps.initColdArgsNest (e := e) X.here hexec X.warmed hpl hown hy1 hy hlink hinst hcode (f := g) rfl hlen hstack hdg
  have X₁ := X.noted hW₁
  rcases hK g.method meth c ⟨T.setVm vm₁, locs, cells, slots⟩ { g with stack := rest } (.invokespecial index) mk (Value.ref a :: argsL).toArray X₁ rfl hsize hdg hW (X₁.named hnamed) (hpre vm₁ X₁.warmed) with ⟨v, B, X', hpost, hsteps⟩ | ⟨q, B, X', hpost, hsteps⟩
  · exact Or.inl ⟨v, vm₁, B, X₁.warmed, X', hpost, fun target h => hstep₁ _ fun acts => by rw [doInvoke_state]; exact hsteps.trans h⟩
  · exact Or.inr ⟨q, vm₁, B, X₁.warmed, X', hpost, hstep₁ _ fun acts => by rw [doInvoke_state]; exact hsteps⟩
end VXIC
section VXID
variable {p : Program} {l : Launch} {e : Env} {R : Room} {s : State} {m : MethodId} {args : Array Value} {below : List Frame} {meth : Method} {c : Code} {H : Heap} {locs : List Loc} {cells slots : Nat}
theorem vx_runIN {y : MethodName} {bytes cc : ByteArray} {maxL nL mc ms n index : Nat} {ws : List Cond} {rm : Room} {Pc : Array Value → State → Prop} {Qc : Array Value → State → Outcome → State → Prop} {XC : String → State → State → Prop} {free : Addr → Prop} {Ts : List Cond} {own host : String} {b : Addr} {As rest : List Value} {g : JFrame}
    (S : CallFix p m c cc nL s args Ts own) (hM : vx_Met l y ws rm Pc Qc XC mc ms free) (cw : va_CN R s args own index y host bytes maxL none ws rm mc ms n ∧ y.name = "<init>" ∧ (Cond.instanceMethod y).before args s = true) (hp : PreS s H Pc (.ref b :: As))
    (hg : g.method = m) (hn : As.length = n) (hsize : g.locals.size = nL) (hstack : g.stack = As.reverse ++ .ref b :: rest) (hW : 2 * g.monitorRoom + (rest.map fun v => v.category).sum ≤ 8) (hdg : decode cc g.pc = .ok (.invokespecial index, 3)) (hf : cells + mc ≤ R.cells ∧ slots + ms ≤ R.slots) :
    vx_Run p l e R s m args below meth c H locs cells slots mc ms g rest (Qc (Value.ref b :: As).toArray) XC free := by
  obtain ⟨⟨⟨hrc, hrs, hfr, hlo, hws, hcw⟩, hcode, hini, hy, hlen, hl⟩, hx1, hx2⟩ := cw
  have hK : vx_Back l R p e below s args y 3 8 (PreOf R mc ms Pc) (PostOf Qc mc ms free) (vx_Post XC mc ms free) := vx_back (bytes := bytes) (maxL := maxL) (ret := none) hM hp.1 hrc hrs hfr hlo hws hcw (fun a' U hW => word_at hW (Or.inl (by first | rfl | simp [Cond.onTables, Cond.keeps, Cond.steady])) hini)
  obtain ⟨hx, hb, hml, ho, -⟩ := S
  have hPc := hp.2
  intro T hT X
  rcases vx_callIN X hx (bytes := bytes) (maxL := maxL) ho hx1 hl hx2 hcode hy hK hg (hsize.trans hml.symm) (a := b) (argsL := As) (rest := rest) (fun sig h => hn.trans (hlen sig h)) hstack hW (by rw [hb]; exact hdg)
    (fun vm₁ hW₁ => ⟨hf.1, hf.2, hPc (T.setVm vm₁) hT hW₁⟩) with ⟨v, vm₁, ⟨U', l2, c2, s2⟩, hW₁, X', ⟨g', mk, t, L, e1, e2, hq, h1, hL, h2, h3⟩, st⟩ | ⟨q, vm₁, ⟨U', l2, c2, s2⟩, hW₁, X', ⟨g', mk, t, L, E, ce, e1, e2, hq, hce, hcv, hcl, h1, hL, h2, h3⟩, st⟩
  · dsimp only [Pt.U, Pt.locs, Pt.cells, Pt.slots] at X' e1 e2 h1 h2 h3 st
    subst h1; subst h2; subst h3
    exact Or.inl ⟨v, (T.setVm vm₁).calling g' mk (Value.ref b :: As).toArray, t, U', L, hT, X', hL, e1, e2, hq, st⟩
  · dsimp only [Pt.U, Pt.locs, Pt.cells, Pt.slots] at X' e1 e2 h1 h2 h3 st hcl
    subst h1; subst h2; subst h3
    exact Or.inr ⟨q, (T.setVm vm₁).calling g' mk (Value.ref b :: As).toArray, t, U', L, E, ce, hT, X', hL, e1, e2, hq, hce, hcv, vx_cls hW₁ hcl, st⟩
end VXID
/-! ===== END ===== -/
/-! ===== BEGIN a method of a class above, found by the receiver, that may throw (follows va_callVU, va_runU of this kit) ===== -/
section
variable {p : Program} {l : Launch} {e : Env} {R : Room} {s : State} {m : MethodId} {args : Array Value} {below : List Frame} {meth : Method} {c : Code} {H : Heap} {locs : List Loc} {cells slots : Nat}
theorem vx_callVU {T : State} {locs : List Loc} {cells slots : Nat} (X : Stand p l e R s m args below meth c T locs cells slots) (hexec : p.tables.exec = Jvm.exec) {own C owner : String} {index : Nat} {x y : MethodName} {bytes : ByteArray} {maxL : Nat} {ret : Option FieldType}
    (hown : s.vm.findClass own = some m.cls) (hlink : (Cond.methodLink own index x).before args s = true) (hsame : (Cond.sameMethod x.cls owner x.name x.desc).before args s = true)
    (hd0 : va_Decl s ⟨owner, x.name, x.desc⟩) (howner : owner ≠ "java/lang/invoke/MethodHandle" ∧ owner ≠ "java/lang/invoke/VarHandle")
    (hsel : (Cond.selects C x y).before args s = true) (hinst : (Cond.instanceMethod y).before args s = true) (hcode : (Cond.code y bytes maxL ret).before args s = true)
    {W : Nat} {Pre : Pt → Array Value → Prop} {Post : Pt → Array Value → Option Value → Pt → Prop} {PostX : Pt → Array Value → Addr → Pt → Prop} (hK : vx_Back l R p e below s args y 3 W Pre Post PostX)
    {b : Addr} {cellB : Cell} (hcell : T.heap[b]? = some cellB) (hobj : cellB.vm.isStatics = false) (hcls : s.vm.findClass C = some cellB.cls)
    {g : JFrame} (hg : g.method = m) (hsize : g.locals.size = c.maxLocals) {argsL rest : List Value} (hlen : ∀ sig, parseMethodDescriptor x.desc = some sig → argsL.length = sig.parameters.length)
    (hstack : g.stack = argsL.reverse ++ .ref b :: rest) (hW : 2 * g.monitorRoom + (rest.map fun v => v.category).sum ≤ W) (hdg : decode c.code g.pc = .ok (.invokevirtual index, 3))
    (hpre : ∀ vm₁, s.WarmedH vm₁ → Pre ⟨T.setVm vm₁, locs, cells, slots⟩ (Value.ref b :: argsL).toArray) :
    (∃ (v : Option Value) (vm₁ : Vm) (B : Pt), s.WarmedH vm₁ ∧ Stand p l e R s m args below meth c B.U B.locs B.cells B.slots ∧ Post ⟨T.setVm vm₁, locs, cells, slots⟩ (Value.ref b :: argsL).toArray v B ∧
      ∀ target, Steps p.tables e below (B.U.setTop { g with pc := g.pc + 3, stack := v.toList ++ rest }) target → Steps p.tables e below (T.setTop g) target) ∨
    (∃ (q : Addr) (vm₁ : Vm) (B : Pt), s.WarmedH vm₁ ∧ Stand p l e R s m args below meth c B.U B.locs B.cells B.slots ∧ PostX ⟨T.setVm vm₁, locs, cells, slots⟩ (Value.ref b :: argsL).toArray q B ∧
      Steps p.tables e below (T.setTop g) ((B.U.setTop { g with stack := rest }).pushFrame (.throwing q))) := by
  obtain ⟨r0, r, hn, hrm, hstR, hsigR⟩ := hd0
  obtain ⟨cn, ck, r1, hcn, hck, hni, hf, hn1⟩ := Cond.sameMethod_found hsame
  cases hn.symm.trans hn1
  obtain ⟨mk, methM, hnamed, hmethM, -, habM⟩ := Cond.instanceMethod_spec hinst
  obtain ⟨c2, r2, m2, q1, q2, q3, q4, kP, hkP, hkPi⟩ := Cond.selects_spec hsel
  cases hcls.symm.trans q1
  cases hf.symm.trans q2
  cases hnamed.symm.trans q3
  have hselP : selectMethod e.platform s.vm cellB.cls r0 = .method mk := by rw [Launch.admits_selectMethod X.admits]; exact q4
  obtain ⟨vm₁, X₁, hstep₁⟩ := X.invokevirtualUp hexec hown hlink hsame howner hn hrm hstR (a := b) (cell := cellB) hcell
    (fun z h => by rw [h] at hobj; cases hobj) hselP hmethM habM hkP hkPi (g := g) hg (argsL := argsL) (rest := rest) (hlen _ hsigR) hstack hdg
  rcases hK m meth c ⟨T.setVm vm₁, locs, cells, slots⟩ { g with stack := rest } (.invokevirtual index) mk (Value.ref b :: argsL).toArray X₁ hg hsize hdg hW (X₁.named hnamed) (hpre vm₁ X₁.warmed) with ⟨v, B, X', hpost, hsteps⟩ | ⟨q, B, X', hpost, hsteps⟩
  · exact Or.inl ⟨v, vm₁, B, X₁.warmed, X', hpost, fun target h => hstep₁ _ fun acts => by rw [doInvoke_state]; exact hsteps.trans h⟩
  · exact Or.inr ⟨q, vm₁, B, X₁.warmed, X', hpost, hstep₁ _ fun acts => by rw [doInvoke_state]; exact hsteps⟩
theorem vx_runU {x y : MethodName} {bytes cc : ByteArray} {maxL nL mc ms n index : Nat} {ret : Option FieldType} {ws : List Cond} {rm : Room} {Pc : Array Value → State → Prop} {Qc : Array Value → State → Outcome → State → Prop} {XC : String → State → State → Prop} {free : Addr → Prop} {Ts : List Cond} {own C owner : String} {b : Addr} {As rest : List Value} {g : JFrame}
    (S : CallFix p m c cc nL s args Ts own) (hM : vx_Met l y ws rm Pc Qc XC mc ms free) (cw : va_CU R s args own C owner index x y bytes maxL ret ws rm mc ms n) (hp : PreV s H C b Pc As)
    (hg : g.method = m) (hn : As.length = n) (hsize : g.locals.size = nL) (hstack : g.stack = As.reverse ++ .ref b :: rest) (hW : 2 * g.monitorRoom + (rest.map fun v => v.category).sum ≤ 8) (hdg : decode cc g.pc = .ok (.invokevirtual index, 3)) (hf : cells + mc ≤ R.cells ∧ slots + ms ≤ R.slots) :
    vx_Run p l e R s m args below meth c H locs cells slots mc ms g rest (Qc (Value.ref b :: As).toArray) XC free := by
  obtain ⟨hrc, hrs, hfr, hlo, hws, hcw⟩ := cw.back
  have hini := cw.init
  have hK : vx_Back l R p e below s args y 3 8 (PreOf R mc ms Pc) (PostOf Qc mc ms free) (vx_Post XC mc ms free) := vx_back (bytes := bytes) (maxL := maxL) (ret := ret) hM hp.1 hrc hrs hfr hlo hws hcw (fun a' U hW => word_at hW (Or.inl (by first | rfl | simp [Cond.onTables, Cond.keeps, Cond.steady])) hini)
  obtain ⟨hx, hb, hml, ho, -⟩ := S
  obtain ⟨-, ⟨cellB, hcB, hoB, hclB⟩, hPc⟩ := hp
  intro T hT X
  rcases vx_callVU X hx (C := C) (owner := owner) (bytes := bytes) (maxL := maxL) (ret := ret) ho cw.link cw.same cw.decl cw.notMH cw.sel cw.inst cw.code hK (by rw [hT]; exact hcB) hoB hclB hg (hsize.trans hml.symm) (argsL := As) (rest := rest) (fun sig h => hn.trans (cw.len sig h)) hstack hW (by rw [hb]; exact hdg)
    (fun vm₁ hW₁ => ⟨hf.1, hf.2, hPc (T.setVm vm₁) hT hW₁⟩) with ⟨v, vm₁, ⟨U', l2, c2, s2⟩, hW₁, X', ⟨g', mk, t, L, e1, e2, hq, h1, hL, h2, h3⟩, st⟩ | ⟨q, vm₁, ⟨U', l2, c2, s2⟩, hW₁, X', ⟨g', mk, t, L, E, ce, e1, e2, hq, hce, hcv, hcl, h1, hL, h2, h3⟩, st⟩
  · dsimp only [Pt.U, Pt.locs, Pt.cells, Pt.slots] at X' e1 e2 h1 h2 h3 st
    subst h1; subst h2; subst h3
    exact Or.inl ⟨v, (T.setVm vm₁).calling g' mk (Value.ref b :: As).toArray, t, U', L, hT, X', hL, e1, e2, hq, st⟩
  · dsimp only [Pt.U, Pt.locs, Pt.cells, Pt.slots] at X' e1 e2 h1 h2 h3 st hcl
    subst h1; subst h2; subst h3
    exact Or.inr ⟨q, (T.setVm vm₁).calling g' mk (Value.ref b :: As).toArray, t, U', L, E, ce, hT, X', hL, e1, e2, hq, hce, hcv, vx_cls hW₁ hcl, st⟩
end
/-! ===== END ===== -/
/-! ===== BEGIN super.m(..) that may throw (follows va_callSU, va_runSU) ===== -/
section
variable {p : Program} {l : Launch} {e : Env} {R : Room} {s : State} {m : MethodId} {args : Array Value} {below : List Frame} {meth : Method} {c : Code} {H : Heap} {locs : List Loc} {cells slots : Nat}
theorem vx_callSU {T : State} {locs : List Loc} {cells slots : Nat} (X : Stand p l e R s m args below meth c T locs cells slots) (hexec : p.tables.exec = Jvm.exec) {own : String} {index : Nat} {y : MethodName} {bytes : ByteArray} {maxL : Nat} {ret : Option FieldType}
    (hown : s.vm.findClass own = some m.cls) (hlink : (Cond.methodLink own index y).before args s = true) (hsame : (Cond.sameMethod y.cls y.cls y.name y.desc).before args s = true) (hsup : (Cond.superclass own y.cls).before args s = true)
    (hinst : (Cond.instanceMethod y).before args s = true) (hcode : (Cond.code y bytes maxL ret).before args s = true) (hno : y.name ≠ "<init>")
    {W : Nat} {Pre : Pt → Array Value → Prop} {Post : Pt → Array Value → Option Value → Pt → Prop} {PostX : Pt → Array Value → Addr → Pt → Prop} (hK : vx_Back l R p e below s args y 3 W Pre Post PostX)
    {b : Addr} {cellB : Cell} {kB : Class} (hcell : T.heap[b]? = some cellB) (hobj : cellB.vm.isStatics = false) (hkB : s.vm.classes[cellB.cls]? = some kB)
    {g : JFrame} (hg : g.method = m) (hsize : g.locals.size = c.maxLocals) {argsL rest : List Value} (hlen : ∀ sig, parseMethodDescriptor y.desc = some sig → argsL.length = sig.parameters.length)
    (hstack : g.stack = argsL.reverse ++ .ref b :: rest) (hW : 2 * g.monitorRoom + (rest.map fun v => v.category).sum ≤ W) (hdg : decode c.code g.pc = .ok (.invokespecial index, 3))
    (hpre : ∀ vm₁, s.WarmedH vm₁ → Pre ⟨T.setVm vm₁, locs, cells, slots⟩ (Value.ref b :: argsL).toArray) :
    (∃ (v : Option Value) (vm₁ : Vm) (B : Pt), s.WarmedH vm₁ ∧ Stand p l e R s m args below meth c B.U B.locs B.cells B.slots ∧ Post ⟨T.setVm vm₁, locs, cells, slots⟩ (Value.ref b :: argsL).toArray v B ∧
      ∀ target, Steps p.tables e below (B.U.setTop { g with pc := g.pc + 3, stack := v.toList ++ rest }) target → Steps p.tables e below (T.setTop g) target) ∨
    (∃ (q : Addr) (vm₁ : Vm) (B : Pt), s.WarmedH vm₁ ∧ Stand p l e R s m args below meth c B.U B.locs B.cells B.slots ∧ PostX ⟨T.setVm vm₁, locs, cells, slots⟩ (Value.ref b :: argsL).toArray q B ∧
      Steps p.tables e below (T.setTop g) ((B.U.setTop { g with stack := rest }).pushFrame (.throwing q))) := by
  obtain ⟨mk, methM, hnamed, hmethM, hstM, habM⟩ := Cond.instanceMethod_spec hinst
  obtain ⟨methM', cM, hmethM', -, -, -, -, -, -, hsigM⟩ := Cond.code_spec hnamed hcode
  cases hmethM.symm.trans hmethM'
  obtain ⟨ps, dk, kp, hps, hdk, hkp, hsuper, -, -, hnid⟩ := Cond.superclass_spec hown hsup
  have hn : s.methodNamed? ⟨y.cls, y.name, y.desc⟩ = some mk := hnamed
  have hpm : ps = mk.cls := Option.some.inj (hps.symm.trans (findClass_of_methodNamed hnamed))
  have hsub : s.vm.isSubclass ps mk.cls = true := by rw [hpm]; simp [Vm.isSubclass, Vm.isSubclassAux]
  obtain ⟨vm₁, X₁, hstep₁⟩ := X.invokespecialUp hexec hown hlink hsame hn hmethM hstM habM hno hdk hnid hps hsuper hsub (a := b) (cell := cellB) hcell
    (fun z h => by rw [h] at hobj; cases hobj) hkB (g := g) hg (argsL := argsL) (rest := rest) (hlen _ hsigM) hstack hdg
  rcases hK m meth c ⟨T.setVm vm₁, locs, cells, slots⟩ { g with stack := rest } (.invokespecial index) mk (Value.ref b :: argsL).toArray X₁ hg hsize hdg hW (X₁.named hnamed) (hpre vm₁ X₁.warmed) with ⟨v, B, X', hpost, hsteps⟩ | ⟨q, B, X', hpost, hsteps⟩
  · exact Or.inl ⟨v, vm₁, B, X₁.warmed, X', hpost, fun target h => hstep₁ _ (by rw [doInvoke_state]; exact hsteps.trans h)⟩
  · exact Or.inr ⟨q, vm₁, B, X₁.warmed, X', hpost, hstep₁ _ (by rw [doInvoke_state]; exact hsteps)⟩
theorem vx_runSU {y : MethodName} {bytes cc : ByteArray} {maxL nL mc ms n index : Nat} {ret : Option FieldType} {ws : List Cond} {rm : Room} {Pc : Array Value → State → Prop} {Qc : Array Value → State → Outcome → State → Prop} {XC : String → State → State → Prop} {free : Addr → Prop} {Ts : List Cond} {own C : String} {cC : ClassId} {b : Addr} {As rest : List Value} {g : JFrame}
    (hat : ClassAt s C cC) (S : CallFix p m c cc nL s args Ts own) (hM : vx_Met l y ws rm Pc Qc XC mc ms free) (cw : va_CS R s args own index y bytes maxL ret ws rm mc ms n) (hp : PreV s H C b Pc As)
    (hg : g.method = m) (hn : As.length = n) (hsize : g.locals.size = nL) (hstack : g.stack = As.reverse ++ .ref b :: rest) (hW : 2 * g.monitorRoom + (rest.map fun v => v.category).sum ≤ 8) (hdg : decode cc g.pc = .ok (.invokespecial index, 3)) (hf : cells + mc ≤ R.cells ∧ slots + ms ≤ R.slots) :
    vx_Run p l e R s m args below meth c H locs cells slots mc ms g rest (Qc (Value.ref b :: As).toArray) XC free := by
  obtain ⟨⟨hrc, hrs, hfr, hlo, hws, hcw⟩, hl1, hl2, hl3, hl4, hini, hcode, hno, hlen⟩ := cw
  have hK : vx_Back l R p e below s args y 3 8 (PreOf R mc ms Pc) (PostOf Qc mc ms free) (vx_Post XC mc ms free) := vx_back (bytes := bytes) (maxL := maxL) (ret := ret) hM hp.1 hrc hrs hfr hlo hws hcw (fun a' U hW => word_at hW (Or.inl (by first | rfl | simp [Cond.onTables, Cond.keeps, Cond.steady])) hini)
  obtain ⟨hx, hb, hml, ho, -⟩ := S
  obtain ⟨-, ⟨cellB, hcB, hoB, hclB⟩, hPc⟩ := hp
  obtain ⟨hfc, kB, hkB, -⟩ := hat
  cases hfc.symm.trans hclB
  intro T hT X
  rcases vx_callSU X hx (bytes := bytes) (maxL := maxL) (ret := ret) ho hl1 hl2 hl3 hl4 hcode hno hK (by rw [hT]; exact hcB) hoB hkB hg (hsize.trans hml.symm) (argsL := As) (rest := rest) (fun sig h => hn.trans (hlen sig h)) hstack hW (by rw [hb]; exact hdg)
    (fun vm₁ hW₁ => ⟨hf.1, hf.2, hPc (T.setVm vm₁) hT hW₁⟩) with ⟨v, vm₁, ⟨U', l2, c2, s2⟩, hW₁, X', ⟨g', mk, t, L, e1, e2, hq, h1, hL, h2, h3⟩, st⟩ | ⟨q, vm₁, ⟨U', l2, c2, s2⟩, hW₁, X', ⟨g', mk, t, L, E, ce, e1, e2, hq, hce, hcv, hcl, h1, hL, h2, h3⟩, st⟩
  · dsimp only [Pt.U, Pt.locs, Pt.cells, Pt.slots] at X' e1 e2 h1 h2 h3 st
    subst h1; subst h2; subst h3
    exact Or.inl ⟨v, (T.setVm vm₁).calling g' mk (Value.ref b :: As).toArray, t, U', L, hT, X', hL, e1, e2, hq, st⟩
  · dsimp only [Pt.U, Pt.locs, Pt.cells, Pt.slots] at X' e1 e2 h1 h2 h3 st hcl
    subst h1; subst h2; subst h3
    exact Or.inr ⟨q, (T.setVm vm₁).calling g' mk (Value.ref b :: As).toArray, t, U', L, E, ce, hT, X', hL, e1, e2, hq, hce, hcv, vx_cls hW₁ hcl, st⟩
end
/-! ===== END ===== -/
end
section
/-! the words that a method may stand on, and their places -/
def gTb : List Cond := lw_tbl.filter goodWord
theorem gm {w : Cond} (h : w ∈ lw_tbl) (g : goodWord w = true) : w ∈ gTb := List.mem_filter.mpr ⟨h, g⟩
theorem wSE_X5_X5_tillAt : Cond.selects RX5 yX5_tillAt yX5_tillAt ∈ gTb := gm (List.mem_of_getElem? (i := 0) (by decide +kernel)) rfl
theorem wSE_X5_X5_checkTicketsLeft : Cond.selects RX5 yX5_checkTicketsLeft yX5_checkTicketsLeft ∈ gTb := gm (List.mem_of_getElem? (i := 2) (by decide +kernel)) rfl
theorem wSE_X5_X5_issue : Cond.selects RX5 yX5_issue yX5_issue ∈ gTb := gm (List.mem_of_getElem? (i := 3) (by decide +kernel)) rfl
theorem wSE_Jx4a65c_Jx4a65c_add_72be8 : Cond.selects RJx4a65c yJx4a65c_add_72be8 yJx4a65c_add_72be8 ∈ gTb := gm (List.mem_of_getElem? (i := 4) (by decide +kernel)) rfl
theorem wSE_Jx4a65c_Jx4a65c_grow_d5877 : Cond.selects RJx4a65c yJx4a65c_grow_d5877 yJx4a65c_grow_d5877 ∈ gTb := gm (List.mem_of_getElem? (i := 5) (by decide +kernel)) rfl
theorem wSE_Jx4a65c_Jx4a65c_grow_92f84 : Cond.selects RJx4a65c yJx4a65c_grow_92f84 yJx4a65c_grow_92f84 ∈ gTb := gm (List.mem_of_getElem? (i := 6) (by decide +kernel)) rfl
theorem wSE_X5_X5_memberAt : Cond.selects RX5 yX5_memberAt yX5_memberAt ∈ gTb := gm (List.mem_of_getElem? (i := 7) (by decide +kernel)) rfl
theorem wSE_X5_X5_countOfToday : Cond.selects RX5 yX5_countOfToday yX5_countOfToday ∈ gTb := gm (List.mem_of_getElem? (i := 8) (by decide +kernel)) rfl
theorem wSE_X5_X5_ticketAt : Cond.selects RX5 yX5_ticketAt yX5_ticketAt ∈ gTb := gm (List.mem_of_getElem? (i := 9) (by decide +kernel)) rfl
theorem wSE_X5_X5_checkUsable : Cond.selects RX5 yX5_checkUsable yX5_checkUsable ∈ gTb := gm (List.mem_of_getElem? (i := 10) (by decide +kernel)) rfl
theorem wSE_X5_X5_areClosedFor : Cond.selects RX5 yX5_areClosedFor yX5_areClosedFor ∈ gTb := gm (List.mem_of_getElem? (i := 11) (by decide +kernel)) rfl
theorem wSE_X5_X5_roomAt : Cond.selects RX5 yX5_roomAt yX5_roomAt ∈ gTb := gm (List.mem_of_getElem? (i := 12) (by decide +kernel)) rfl
theorem wSE_X5_X5_letQueueIn : Cond.selects RX5 yX5_letQueueIn yX5_letQueueIn ∈ gTb := gm (List.mem_of_getElem? (i := 13) (by decide +kernel)) rfl
theorem wSE_Jx4a65c_Jx4a65c_fastRemove_b59b0 : Cond.selects RJx4a65c yJx4a65c_fastRemove_b59b0 yJx4a65c_fastRemove_b59b0 ∈ gTb := gm (List.mem_of_getElem? (i := 14) (by decide +kernel)) rfl
theorem wSE_X5_X5_showRoom : Cond.selects RX5 yX5_showRoom yX5_showRoom ∈ gTb := gm (List.mem_of_getElem? (i := 15) (by decide +kernel)) rfl
theorem wSE_X5_X5_payFee : Cond.selects RX5 yX5_payFee yX5_payFee ∈ gTb := gm (List.mem_of_getElem? (i := 16) (by decide +kernel)) rfl
theorem wSE_X5_X5_sendAllOut : Cond.selects RX5 yX5_sendAllOut yX5_sendAllOut ∈ gTb := gm (List.mem_of_getElem? (i := 17) (by decide +kernel)) rfl
theorem wSE_X1_X1_waitingMembers : Cond.selects RX1 yX1_waitingMembers yX1_waitingMembers ∈ gTb := gm (List.mem_of_getElem? (i := 18) (by decide +kernel)) rfl
theorem wSE_Jx4a65c_Jx4a65c_rangeCheckForAdd_d00df : Cond.selects RJx4a65c yJx4a65c_rangeCheckForAdd_d00df yJx4a65c_rangeCheckForAdd_d00df ∈ gTb := gm (List.mem_of_getElem? (i := 19) (by decide +kernel)) rfl
theorem wSE_Jx4a65c_Jx4a65c_outOfBoundsMsg_b52d3 : Cond.selects RJx4a65c yJx4a65c_outOfBoundsMsg_b52d3 yJx4a65c_outOfBoundsMsg_b52d3 ∈ gTb := gm (List.mem_of_getElem? (i := 20) (by decide +kernel)) rfl
theorem wSE_X5_X5_workAt : Cond.selects RX5 yX5_workAt yX5_workAt ∈ gTb := gm (List.mem_of_getElem? (i := 21) (by decide +kernel)) rfl
theorem wSE_X5_X5_endDay : Cond.selects RX5 yX5_endDay yX5_endDay ∈ gTb := gm (List.mem_of_getElem? (i := 22) (by decide +kernel)) rfl
theorem wSE_X5_X5_shareOut : Cond.selects RX5 yX5_shareOut yX5_shareOut ∈ gTb := gm (List.mem_of_getElem? (i := 23) (by decide +kernel)) rfl
theorem wSE_X5_X5_seenToday : Cond.selects RX5 yX5_seenToday yX5_seenToday ∈ gTb := gm (List.mem_of_getElem? (i := 24) (by decide +kernel)) rfl
theorem wSE_X5_X5_broughtByTickets : Cond.selects RX5 yX5_broughtByTickets yX5_broughtByTickets ∈ gTb := gm (List.mem_of_getElem? (i := 25) (by decide +kernel)) rfl
theorem wSE_X5_X5_broughtByMemberships : Cond.selects RX5 yX5_broughtByMemberships yX5_broughtByMemberships ∈ gTb := gm (List.mem_of_getElem? (i := 26) (by decide +kernel)) rfl
theorem wSE_X6_X6_make : Cond.selects RX6 yX6_make yX6_make ∈ gTb := gm (List.mem_of_getElem? (i := 27) (by decide +kernel)) rfl
theorem wSE_X6_X6_has : Cond.selects RX6 yX6_has yX6_has ∈ gTb := gm (List.mem_of_getElem? (i := 28) (by decide +kernel)) rfl
theorem wSE_X6_X6_isNow : Cond.selects RX6 yX6_isNow yX6_isNow ∈ gTb := gm (List.mem_of_getElem? (i := 29) (by decide +kernel)) rfl
theorem wSE_X6_X6_isValid : Cond.selects RX6 yX6_isValid yX6_isValid ∈ gTb := gm (List.mem_of_getElem? (i := 30) (by decide +kernel)) rfl
theorem wSE_X6_X6_isTicket : Cond.selects RX6 yX6_isTicket yX6_isTicket ∈ gTb := gm (List.mem_of_getElem? (i := 31) (by decide +kernel)) rfl
theorem wSE_X6_X6_isFor : Cond.selects RX6 yX6_isFor yX6_isFor ∈ gTb := gm (List.mem_of_getElem? (i := 32) (by decide +kernel)) rfl
theorem wSE_X6_X6_letIn : Cond.selects RX6 yX6_letIn yX6_letIn ∈ gTb := gm (List.mem_of_getElem? (i := 33) (by decide +kernel)) rfl
theorem wSE_X6_X6_inQueue : Cond.selects RX6 yX6_inQueue yX6_inQueue ∈ gTb := gm (List.mem_of_getElem? (i := 34) (by decide +kernel)) rfl
theorem wSE_X6_X6_isAhead : Cond.selects RX6 yX6_isAhead yX6_isAhead ∈ gTb := gm (List.mem_of_getElem? (i := 35) (by decide +kernel)) rfl
theorem wSE_X6_X6_insideOf : Cond.selects RX6 yX6_insideOf yX6_insideOf ∈ gTb := gm (List.mem_of_getElem? (i := 36) (by decide +kernel)) rfl
theorem wSE_X6_X6_see : Cond.selects RX6 yX6_see yX6_see ∈ gTb := gm (List.mem_of_getElem? (i := 37) (by decide +kernel)) rfl
theorem wSE_X6_X6_clear : Cond.selects RX6 yX6_clear yX6_clear ∈ gTb := gm (List.mem_of_getElem? (i := 38) (by decide +kernel)) rfl
theorem wSE_X6_X6_areOne : Cond.selects RX6 yX6_areOne yX6_areOne ∈ gTb := gm (List.mem_of_getElem? (i := 39) (by decide +kernel)) rfl
theorem wSE_X6_X6_isWork : Cond.selects RX6 yX6_isWork yX6_isWork ∈ gTb := gm (List.mem_of_getElem? (i := 40) (by decide +kernel)) rfl
theorem wSE_X6_X6_endDay : Cond.selects RX6 yX6_endDay yX6_endDay ∈ gTb := gm (List.mem_of_getElem? (i := 41) (by decide +kernel)) rfl
theorem wSE_X6_X6_share : Cond.selects RX6 yX6_share yX6_share ∈ gTb := gm (List.mem_of_getElem? (i := 42) (by decide +kernel)) rfl
theorem wSE_X6_X6_put : Cond.selects RX6 yX6_put yX6_put ∈ gTb := gm (List.mem_of_getElem? (i := 43) (by decide +kernel)) rfl
theorem wSE_X6_X6_putNumber : Cond.selects RX6 yX6_putNumber yX6_putNumber ∈ gTb := gm (List.mem_of_getElem? (i := 44) (by decide +kernel)) rfl
theorem wIN_L : Cond.initialized RL ∈ gTb := gm (List.mem_of_getElem? (i := 45) (by decide +kernel)) rfl
theorem wIN_X5 : Cond.initialized RX5 ∈ gTb := gm (List.mem_of_getElem? (i := 46) (by decide +kernel)) rfl
theorem wIN_Jxa1e45 : Cond.initialized RJxa1e45 ∈ gTb := gm (List.mem_of_getElem? (i := 47) (by decide +kernel)) rfl
theorem wIN_Jxc12de : Cond.initialized RJxc12de ∈ gTb := gm (List.mem_of_getElem? (i := 48) (by decide +kernel)) rfl
theorem wIN_Jx4a65c : Cond.initialized RJx4a65c ∈ gTb := gm (List.mem_of_getElem? (i := 49) (by decide +kernel)) rfl
theorem wIN_X3 : Cond.initialized RX3 ∈ gTb := gm (List.mem_of_getElem? (i := 50) (by decide +kernel)) rfl
theorem wIN_X1 : Cond.initialized RX1 ∈ gTb := gm (List.mem_of_getElem? (i := 51) (by decide +kernel)) rfl
theorem wIN_X0 : Cond.initialized RX0 ∈ gTb := gm (List.mem_of_getElem? (i := 52) (by decide +kernel)) rfl
theorem wIN_X6 : Cond.initialized RX6 ∈ gTb := gm (List.mem_of_getElem? (i := 53) (by decide +kernel)) rfl
theorem wIN_java_lang_Throwable : Cond.initialized "java/lang/Throwable" ∈ gTb := gm (List.mem_of_getElem? (i := 54) (by decide +kernel)) rfl
theorem wIN_java_lang_Exception : Cond.initialized "java/lang/Exception" ∈ gTb := gm (List.mem_of_getElem? (i := 55) (by decide +kernel)) rfl
theorem wIN_java_lang_RuntimeException : Cond.initialized "java/lang/RuntimeException" ∈ gTb := gm (List.mem_of_getElem? (i := 56) (by decide +kernel)) rfl
theorem wIN_java_lang_IndexOutOfBoundsException : Cond.initialized "java/lang/IndexOutOfBoundsException" ∈ gTb := gm (List.mem_of_getElem? (i := 57) (by decide +kernel)) rfl
theorem wIN_java_lang_IllegalArgumentException : Cond.initialized "java/lang/IllegalArgumentException" ∈ gTb := gm (List.mem_of_getElem? (i := 58) (by decide +kernel)) rfl
theorem wIN_java_lang_IllegalStateException : Cond.initialized "java/lang/IllegalStateException" ∈ gTb := gm (List.mem_of_getElem? (i := 59) (by decide +kernel)) rfl
theorem wIN_X2 : Cond.initialized RX2 ∈ gTb := gm (List.mem_of_getElem? (i := 60) (by decide +kernel)) rfl
theorem wIN_J8 : Cond.initialized RJ8 ∈ gTb := gm (List.mem_of_getElem? (i := 61) (by decide +kernel)) rfl
theorem wIN_J9 : Cond.initialized RJ9 ∈ gTb := gm (List.mem_of_getElem? (i := 62) (by decide +kernel)) rfl
theorem wIN_J7 : Cond.initialized RJ7 ∈ gTb := gm (List.mem_of_getElem? (i := 63) (by decide +kernel)) rfl
theorem wIN_J10 : Cond.initialized RJ10 ∈ gTb := gm (List.mem_of_getElem? (i := 64) (by decide +kernel)) rfl
theorem wIN_J15 : Cond.initialized RJ15 ∈ gTb := gm (List.mem_of_getElem? (i := 65) (by decide +kernel)) rfl
theorem wIN_J3 : Cond.initialized RJ3 ∈ gTb := gm (List.mem_of_getElem? (i := 66) (by decide +kernel)) rfl
theorem wIN_J5 : Cond.initialized RJ5 ∈ gTb := gm (List.mem_of_getElem? (i := 67) (by decide +kernel)) rfl
theorem wIN_J4 : Cond.initialized RJ4 ∈ gTb := gm (List.mem_of_getElem? (i := 68) (by decide +kernel)) rfl
theorem wIN_J0 : Cond.initialized RJ0 ∈ gTb := gm (List.mem_of_getElem? (i := 69) (by decide +kernel)) rfl
theorem wIN_J2 : Cond.initialized RJ2 ∈ gTb := gm (List.mem_of_getElem? (i := 70) (by decide +kernel)) rfl
theorem wIN_J1 : Cond.initialized RJ1 ∈ gTb := gm (List.mem_of_getElem? (i := 71) (by decide +kernel)) rfl
theorem wIN_Jxd2413 : Cond.initialized RJxd2413 ∈ gTb := gm (List.mem_of_getElem? (i := 72) (by decide +kernel)) rfl
theorem wIN_J6 : Cond.initialized RJ6 ∈ gTb := gm (List.mem_of_getElem? (i := 73) (by decide +kernel)) rfl
theorem wIN_X4 : Cond.initialized RX4 ∈ gTb := gm (List.mem_of_getElem? (i := 74) (by decide +kernel)) rfl
theorem wCL_L_8 : Cond.classLink RL 8 RX5 ∈ gTb := gm (List.mem_of_getElem? (i := 75) (by decide +kernel)) rfl
theorem wIS_X5 : Cond.instantiable RX5 8 ∈ gTb := gm (List.mem_of_getElem? (i := 76) (by decide +kernel)) rfl
theorem wML_L_95 : Cond.methodLink RL 95 yX5_init ∈ gTb := gm (List.mem_of_getElem? (i := 77) (by decide +kernel)) rfl
theorem wIM_X5_init : Cond.instanceMethod yX5_init ∈ gTb := gm (List.mem_of_getElem? (i := 78) (by decide +kernel)) rfl
theorem wCO_X5_init : Cond.code yX5_init cX5_init 2 none ∈ gTb := gm (List.mem_of_getElem? (i := 79) (by decide +kernel)) rfl
theorem wML_X5_3 : Cond.methodLink RX5 3 objectInit ∈ gTb := gm (List.mem_of_getElem? (i := 80) (by decide +kernel)) rfl
theorem wz_81 : Cond.instanceMethod objectInit ∈ gTb := gm (List.mem_of_getElem? (i := 81) (by decide +kernel)) rfl
theorem wCL_X5_9 : Cond.classLink RX5 9 RX3 ∈ gTb := gm (List.mem_of_getElem? (i := 83) (by decide +kernel)) rfl
theorem wx_arrayOver_84 : Cond.arrayOver (Jvm.ClassFile.FieldType.object "MuseumTill$Till") ∈ lw_tbl := List.mem_of_getElem? (i := 84) (by decide +kernel)
theorem wCL_X5_15 : Cond.classLink RX5 15 RX1 ∈ gTb := gm (List.mem_of_getElem? (i := 85) (by decide +kernel)) rfl
theorem wx_arrayOver_86 : Cond.arrayOver (Jvm.ClassFile.FieldType.object "MuseumTill$Room") ∈ lw_tbl := List.mem_of_getElem? (i := 86) (by decide +kernel)
theorem wCL_X5_21 : Cond.classLink RX5 21 RX0 ∈ gTb := gm (List.mem_of_getElem? (i := 87) (by decide +kernel)) rfl
theorem wx_arrayOver_88 : Cond.arrayOver (Jvm.ClassFile.FieldType.object "MuseumTill$Member") ∈ lw_tbl := List.mem_of_getElem? (i := 88) (by decide +kernel)
theorem wCL_X5_27 : Cond.classLink RX5 27 RJx4a65c ∈ gTb := gm (List.mem_of_getElem? (i := 89) (by decide +kernel)) rfl
theorem wIS_Jx4a65c : Cond.instantiable RJx4a65c 3 ∈ gTb := gm (List.mem_of_getElem? (i := 90) (by decide +kernel)) rfl
theorem wML_X5_29 : Cond.methodLink RX5 29 yJx4a65c_init_da8c8 ∈ gTb := gm (List.mem_of_getElem? (i := 91) (by decide +kernel)) rfl
theorem wIM_Jx4a65c_init_da8c8 : Cond.instanceMethod yJx4a65c_init_da8c8 ∈ gTb := gm (List.mem_of_getElem? (i := 92) (by decide +kernel)) rfl
theorem wCO_Jx4a65c_init_da8c8 : Cond.code yJx4a65c_init_da8c8 cJx4a65c_init_da8c8 1 none ∈ gTb := gm (List.mem_of_getElem? (i := 93) (by decide +kernel)) rfl
theorem wML_Jx4a65c_1 : Cond.methodLink RJx4a65c 1 yJxc12de_init_da8c8 ∈ gTb := gm (List.mem_of_getElem? (i := 94) (by decide +kernel)) rfl
theorem wIM_Jxc12de_init_da8c8 : Cond.instanceMethod yJxc12de_init_da8c8 ∈ gTb := gm (List.mem_of_getElem? (i := 95) (by decide +kernel)) rfl
theorem wCO_Jxc12de_init_da8c8 : Cond.code yJxc12de_init_da8c8 cJxc12de_init_da8c8 1 none ∈ gTb := gm (List.mem_of_getElem? (i := 96) (by decide +kernel)) rfl
theorem wML_Jxc12de_1 : Cond.methodLink RJxc12de 1 yJxa1e45_init_da8c8 ∈ gTb := gm (List.mem_of_getElem? (i := 97) (by decide +kernel)) rfl
theorem wIM_Jxa1e45_init_da8c8 : Cond.instanceMethod yJxa1e45_init_da8c8 ∈ gTb := gm (List.mem_of_getElem? (i := 98) (by decide +kernel)) rfl
theorem wCO_Jxa1e45_init_da8c8 : Cond.code yJxa1e45_init_da8c8 cJxa1e45_init_da8c8 1 none ∈ gTb := gm (List.mem_of_getElem? (i := 99) (by decide +kernel)) rfl
theorem wML_Jxa1e45_1 : Cond.methodLink RJxa1e45 1 objectInit ∈ gTb := gm (List.mem_of_getElem? (i := 100) (by decide +kernel)) rfl
theorem wFL_Jx4a65c_39 : Cond.fieldLink RJx4a65c 39 RJx4a65c "DEFAULTCAPACITY_EMPTY_ELEMENTDATA" "[Ljava/lang/Object;" ∈ gTb := gm (List.mem_of_getElem? (i := 101) (by decide +kernel)) rfl
theorem wx_laysStatic_102 : Cond.laysStatic RJx4a65c "DEFAULTCAPACITY_EMPTY_ELEMENTDATA" "[Ljava/lang/Object;" ∈ lw_tbl := List.mem_of_getElem? (i := 102) (by decide +kernel)
theorem wFL_Jx4a65c_9 : Cond.fieldLink RJx4a65c 9 RJx4a65c "elementData" "[Ljava/lang/Object;" ∈ gTb := gm (List.mem_of_getElem? (i := 103) (by decide +kernel)) rfl
theorem wFL_Jx4a65c_48 : Cond.fieldLink RJx4a65c 48 RJx4a65c "size" "I" ∈ gTb := gm (List.mem_of_getElem? (i := 104) (by decide +kernel)) rfl
theorem wFL_Jxc12de_7 : Cond.fieldLink RJxc12de 7 RJxc12de "modCount" "I" ∈ gTb := gm (List.mem_of_getElem? (i := 105) (by decide +kernel)) rfl
theorem wFL_Jx4a65c_63 : Cond.fieldLink RJx4a65c 63 RJx4a65c "modCount" "I" ∈ gTb := gm (List.mem_of_getElem? (i := 106) (by decide +kernel)) rfl
theorem wSF_Jx4a65c_modCount : Cond.sameField RJx4a65c RJxc12de "modCount" "I" ∈ gTb := gm (List.mem_of_getElem? (i := 107) (by decide +kernel)) rfl
theorem wSU_Jx4a65c : Cond.superclass RJx4a65c RJxc12de ∈ gTb := gm (List.mem_of_getElem? (i := 114) (by decide +kernel)) rfl
theorem wIS_X3 : Cond.instantiable RX3 5 ∈ gTb := gm (List.mem_of_getElem? (i := 115) (by decide +kernel)) rfl
theorem wML_X5_37 : Cond.methodLink RX5 37 yX3_init ∈ gTb := gm (List.mem_of_getElem? (i := 116) (by decide +kernel)) rfl
theorem wIM_X3_init : Cond.instanceMethod yX3_init ∈ gTb := gm (List.mem_of_getElem? (i := 117) (by decide +kernel)) rfl
theorem wCO_X3_init : Cond.code yX3_init cX3_init 2 none ∈ gTb := gm (List.mem_of_getElem? (i := 118) (by decide +kernel)) rfl
theorem wML_X3_1 : Cond.methodLink RX3 1 objectInit ∈ gTb := gm (List.mem_of_getElem? (i := 119) (by decide +kernel)) rfl
theorem wFL_X3_7 : Cond.fieldLink RX3 7 RX3 "ticketPrice" "I" ∈ gTb := gm (List.mem_of_getElem? (i := 120) (by decide +kernel)) rfl
theorem wFL_X5_50 : Cond.fieldLink RX5 50 RX3 "ticketPrice" "I" ∈ gTb := gm (List.mem_of_getElem? (i := 121) (by decide +kernel)) rfl
theorem wFL_X3_16 : Cond.fieldLink RX3 16 RX3 "kept" "I" ∈ gTb := gm (List.mem_of_getElem? (i := 122) (by decide +kernel)) rfl
theorem wFL_X5_259 : Cond.fieldLink RX5 259 RX3 "kept" "I" ∈ gTb := gm (List.mem_of_getElem? (i := 123) (by decide +kernel)) rfl
theorem wFL_X3_13 : Cond.fieldLink RX3 13 RX3 "fees" "I" ∈ gTb := gm (List.mem_of_getElem? (i := 124) (by decide +kernel)) rfl
theorem wFL_X5_262 : Cond.fieldLink RX5 262 RX3 "fees" "I" ∈ gTb := gm (List.mem_of_getElem? (i := 125) (by decide +kernel)) rfl
theorem wFL_X3_19 : Cond.fieldLink RX3 19 RX3 "sales" "I" ∈ gTb := gm (List.mem_of_getElem? (i := 126) (by decide +kernel)) rfl
theorem wFL_X5_265 : Cond.fieldLink RX5 265 RX3 "sales" "I" ∈ gTb := gm (List.mem_of_getElem? (i := 127) (by decide +kernel)) rfl
theorem wFL_X3_22 : Cond.fieldLink RX3 22 RX3 "gifts" "I" ∈ gTb := gm (List.mem_of_getElem? (i := 128) (by decide +kernel)) rfl
theorem wFL_X5_268 : Cond.fieldLink RX5 268 RX3 "gifts" "I" ∈ gTb := gm (List.mem_of_getElem? (i := 129) (by decide +kernel)) rfl
theorem wSU_X3 : Cond.superclass RX3 "java/lang/Object" ∈ gTb := gm (List.mem_of_getElem? (i := 140) (by decide +kernel)) rfl
theorem wIS_X1 : Cond.instantiable RX1 6 ∈ gTb := gm (List.mem_of_getElem? (i := 141) (by decide +kernel)) rfl
theorem wML_X5_40 : Cond.methodLink RX5 40 yX1_init ∈ gTb := gm (List.mem_of_getElem? (i := 142) (by decide +kernel)) rfl
theorem wIM_X1_init : Cond.instanceMethod yX1_init ∈ gTb := gm (List.mem_of_getElem? (i := 143) (by decide +kernel)) rfl
theorem wCO_X1_init : Cond.code yX1_init cX1_init 2 none ∈ gTb := gm (List.mem_of_getElem? (i := 144) (by decide +kernel)) rfl
theorem wML_X1_3 : Cond.methodLink RX1 3 objectInit ∈ gTb := gm (List.mem_of_getElem? (i := 145) (by decide +kernel)) rfl
theorem wCL_X1_15 : Cond.classLink RX1 15 RJx4a65c ∈ gTb := gm (List.mem_of_getElem? (i := 146) (by decide +kernel)) rfl
theorem wML_X1_17 : Cond.methodLink RX1 17 yJx4a65c_init_da8c8 ∈ gTb := gm (List.mem_of_getElem? (i := 147) (by decide +kernel)) rfl
theorem wFL_X1_22 : Cond.fieldLink RX1 22 RX1 "number" "I" ∈ gTb := gm (List.mem_of_getElem? (i := 148) (by decide +kernel)) rfl
theorem wFL_X4_24 : Cond.fieldLink RX4 24 RX1 "number" "I" ∈ gTb := gm (List.mem_of_getElem? (i := 149) (by decide +kernel)) rfl
theorem wFL_X5_170 : Cond.fieldLink RX5 170 RX1 "number" "I" ∈ gTb := gm (List.mem_of_getElem? (i := 150) (by decide +kernel)) rfl
theorem wFL_X4_18 : Cond.fieldLink RX4 18 RX1 "house" "I" ∈ gTb := gm (List.mem_of_getElem? (i := 151) (by decide +kernel)) rfl
theorem wFL_X1_25 : Cond.fieldLink RX1 25 RX1 "house" "I" ∈ gTb := gm (List.mem_of_getElem? (i := 152) (by decide +kernel)) rfl
theorem wFL_X5_148 : Cond.fieldLink RX5 148 RX1 "house" "I" ∈ gTb := gm (List.mem_of_getElem? (i := 153) (by decide +kernel)) rfl
theorem wFL_X1_9 : Cond.fieldLink RX1 9 RX1 "cap" "I" ∈ gTb := gm (List.mem_of_getElem? (i := 154) (by decide +kernel)) rfl
theorem wFL_X5_131 : Cond.fieldLink RX5 131 RX1 "cap" "I" ∈ gTb := gm (List.mem_of_getElem? (i := 155) (by decide +kernel)) rfl
theorem wFL_X5_141 : Cond.fieldLink RX5 141 RX1 "isClosed" "Z" ∈ gTb := gm (List.mem_of_getElem? (i := 156) (by decide +kernel)) rfl
theorem wFL_X5_138 : Cond.fieldLink RX5 138 RX1 "visitors" "I" ∈ gTb := gm (List.mem_of_getElem? (i := 157) (by decide +kernel)) rfl
theorem wFL_X1_18 : Cond.fieldLink RX1 18 RX1 "queue" "Ljava/util/ArrayList;" ∈ gTb := gm (List.mem_of_getElem? (i := 158) (by decide +kernel)) rfl
theorem wFL_X5_228 : Cond.fieldLink RX5 228 RX1 "queue" "Ljava/util/ArrayList;" ∈ gTb := gm (List.mem_of_getElem? (i := 159) (by decide +kernel)) rfl
theorem wSU_X1 : Cond.superclass RX1 "java/lang/Object" ∈ gTb := gm (List.mem_of_getElem? (i := 172) (by decide +kernel)) rfl
theorem wIS_X0 : Cond.instantiable RX0 2 ∈ gTb := gm (List.mem_of_getElem? (i := 173) (by decide +kernel)) rfl
theorem wx_methodLinkNest_174 : Cond.methodLinkNest RX5 41 yX0_init RX5 ∈ lw_tbl := List.mem_of_getElem? (i := 174) (by decide +kernel)
theorem wIM_X0_init : Cond.instanceMethod yX0_init ∈ gTb := gm (List.mem_of_getElem? (i := 175) (by decide +kernel)) rfl
theorem wCO_X0_init : Cond.code yX0_init cX0_init 1 none ∈ gTb := gm (List.mem_of_getElem? (i := 176) (by decide +kernel)) rfl
theorem wML_X0_3 : Cond.methodLink RX0 3 objectInit ∈ gTb := gm (List.mem_of_getElem? (i := 177) (by decide +kernel)) rfl
theorem wFL_X0_19 : Cond.fieldLink RX0 19 RX0 "memberships" "I" ∈ gTb := gm (List.mem_of_getElem? (i := 178) (by decide +kernel)) rfl
theorem wFL_X5_121 : Cond.fieldLink RX5 121 RX0 "memberships" "I" ∈ gTb := gm (List.mem_of_getElem? (i := 179) (by decide +kernel)) rfl
theorem wFL_X0_9 : Cond.fieldLink RX0 9 RX0 "lastDay" "I" ∈ gTb := gm (List.mem_of_getElem? (i := 180) (by decide +kernel)) rfl
theorem wFL_X5_124 : Cond.fieldLink RX5 124 RX0 "lastDay" "I" ∈ gTb := gm (List.mem_of_getElem? (i := 181) (by decide +kernel)) rfl
theorem wSU_X0 : Cond.superclass RX0 "java/lang/Object" ∈ gTb := gm (List.mem_of_getElem? (i := 186) (by decide +kernel)) rfl
theorem wFL_X5_11 : Cond.fieldLink RX5 11 RX5 "tills" "[LMuseumTill$Till;" ∈ gTb := gm (List.mem_of_getElem? (i := 187) (by decide +kernel)) rfl
theorem wFL_X5_17 : Cond.fieldLink RX5 17 RX5 "rooms" "[LMuseumTill$Room;" ∈ gTb := gm (List.mem_of_getElem? (i := 188) (by decide +kernel)) rfl
theorem wFL_X5_23 : Cond.fieldLink RX5 23 RX5 "members" "[LMuseumTill$Member;" ∈ gTb := gm (List.mem_of_getElem? (i := 189) (by decide +kernel)) rfl
theorem wFL_X5_30 : Cond.fieldLink RX5 30 RX5 "allTickets" "Ljava/util/ArrayList;" ∈ gTb := gm (List.mem_of_getElem? (i := 190) (by decide +kernel)) rfl
theorem wFL_X5_34 : Cond.fieldLink RX5 34 RX5 "works" "Ljava/util/ArrayList;" ∈ gTb := gm (List.mem_of_getElem? (i := 191) (by decide +kernel)) rfl
theorem wFL_X5_65 : Cond.fieldLink RX5 65 RX5 "today" "I" ∈ gTb := gm (List.mem_of_getElem? (i := 192) (by decide +kernel)) rfl
theorem wFL_X5_278 : Cond.fieldLink RX5 278 RX5 "firstOfToday" "I" ∈ gTb := gm (List.mem_of_getElem? (i := 193) (by decide +kernel)) rfl
theorem wFL_X5_113 : Cond.fieldLink RX5 113 RX5 "paidIn" "I" ∈ gTb := gm (List.mem_of_getElem? (i := 194) (by decide +kernel)) rfl
theorem wSU_X5 : Cond.superclass RX5 "java/lang/Object" ∈ gTb := gm (List.mem_of_getElem? (i := 211) (by decide +kernel)) rfl
theorem wML_L_160 : Cond.methodLink RL 160 yX5_day ∈ gTb := gm (List.mem_of_getElem? (i := 212) (by decide +kernel)) rfl
theorem wIM_X5_day : Cond.instanceMethod yX5_day ∈ gTb := gm (List.mem_of_getElem? (i := 213) (by decide +kernel)) rfl
theorem wSE_X5_X5_day : Cond.selects RX5 yX5_day yX5_day ∈ gTb := gm (List.mem_of_getElem? (i := 214) (by decide +kernel)) rfl
theorem wCO_X5_day : Cond.code yX5_day cX5_day 1 (Option.some Jvm.ClassFile.FieldType.int) ∈ gTb := gm (List.mem_of_getElem? (i := 215) (by decide +kernel)) rfl
theorem wML_L_164 : Cond.methodLink RL 164 yX5_tickets ∈ gTb := gm (List.mem_of_getElem? (i := 216) (by decide +kernel)) rfl
theorem wIM_X5_tickets : Cond.instanceMethod yX5_tickets ∈ gTb := gm (List.mem_of_getElem? (i := 217) (by decide +kernel)) rfl
theorem wSE_X5_X5_tickets : Cond.selects RX5 yX5_tickets yX5_tickets ∈ gTb := gm (List.mem_of_getElem? (i := 218) (by decide +kernel)) rfl
theorem wCO_X5_tickets : Cond.code yX5_tickets cX5_tickets 1 (Option.some Jvm.ClassFile.FieldType.int) ∈ gTb := gm (List.mem_of_getElem? (i := 219) (by decide +kernel)) rfl
theorem wML_X5_173 : Cond.methodLink RX5 173 yJx4a65c_size_8abf5 ∈ gTb := gm (List.mem_of_getElem? (i := 220) (by decide +kernel)) rfl
theorem wIM_Jx4a65c_size_8abf5 : Cond.instanceMethod yJx4a65c_size_8abf5 ∈ gTb := gm (List.mem_of_getElem? (i := 221) (by decide +kernel)) rfl
theorem wSE_Jx4a65c_Jx4a65c_size_8abf5 : Cond.selects RJx4a65c yJx4a65c_size_8abf5 yJx4a65c_size_8abf5 ∈ gTb := gm (List.mem_of_getElem? (i := 222) (by decide +kernel)) rfl
theorem wCO_Jx4a65c_size_8abf5 : Cond.code yJx4a65c_size_8abf5 cJx4a65c_size_8abf5 1 (Option.some Jvm.ClassFile.FieldType.int) ∈ gTb := gm (List.mem_of_getElem? (i := 223) (by decide +kernel)) rfl
theorem wML_L_192 : Cond.methodLink RL 192 yX5_held ∈ gTb := gm (List.mem_of_getElem? (i := 224) (by decide +kernel)) rfl
theorem wIM_X5_held : Cond.instanceMethod yX5_held ∈ gTb := gm (List.mem_of_getElem? (i := 225) (by decide +kernel)) rfl
theorem wSE_X5_X5_held : Cond.selects RX5 yX5_held yX5_held ∈ gTb := gm (List.mem_of_getElem? (i := 226) (by decide +kernel)) rfl
theorem wCO_X5_held : Cond.code yX5_held cX5_held 4 (Option.some Jvm.ClassFile.FieldType.int) ∈ gTb := gm (List.mem_of_getElem? (i := 227) (by decide +kernel)) rfl
theorem wML_X5_234 : Cond.methodLink RX5 234 yJx4a65c_get_915e3 ∈ gTb := gm (List.mem_of_getElem? (i := 228) (by decide +kernel)) rfl
theorem wIM_Jx4a65c_get_915e3 : Cond.instanceMethod yJx4a65c_get_915e3 ∈ gTb := gm (List.mem_of_getElem? (i := 229) (by decide +kernel)) rfl
theorem wSE_Jx4a65c_Jx4a65c_get_915e3 : Cond.selects RJx4a65c yJx4a65c_get_915e3 yJx4a65c_get_915e3 ∈ gTb := gm (List.mem_of_getElem? (i := 230) (by decide +kernel)) rfl
theorem wCO_Jx4a65c_get_915e3 : Cond.code yJx4a65c_get_915e3 cJx4a65c_get_915e3 2 (Option.some (Jvm.ClassFile.FieldType.object "java/lang/Object")) ∈ gTb := gm (List.mem_of_getElem? (i := 231) (by decide +kernel)) rfl
theorem wML_Jx4a65c_118 : Cond.methodLink RJx4a65c 118 yJ15_checkIndex_7cf53 ∈ gTb := gm (List.mem_of_getElem? (i := 232) (by decide +kernel)) rfl
theorem wST_J15_checkIndex_7cf53 : Cond.static yJ15_checkIndex_7cf53 ∈ gTb := gm (List.mem_of_getElem? (i := 233) (by decide +kernel)) rfl
theorem wCO_J15_checkIndex_7cf53 : Cond.code yJ15_checkIndex_7cf53 cJ15_checkIndex_7cf53 2 (Option.some Jvm.ClassFile.FieldType.int) ∈ gTb := gm (List.mem_of_getElem? (i := 234) (by decide +kernel)) rfl
theorem wML_J15_105 : Cond.methodLink RJ15 105 yJ3_checkIndex_8e157 ∈ gTb := gm (List.mem_of_getElem? (i := 235) (by decide +kernel)) rfl
theorem wST_J3_checkIndex_8e157 : Cond.static yJ3_checkIndex_8e157 ∈ gTb := gm (List.mem_of_getElem? (i := 236) (by decide +kernel)) rfl
theorem wCO_J3_checkIndex_8e157 : Cond.code yJ3_checkIndex_8e157 cJ3_checkIndex_8e157 3 (Option.some Jvm.ClassFile.FieldType.int) ∈ gTb := gm (List.mem_of_getElem? (i := 237) (by decide +kernel)) rfl
theorem wML_Jx4a65c_123 : Cond.methodLink RJx4a65c 123 yJx4a65c_elementData_915e3 ∈ gTb := gm (List.mem_of_getElem? (i := 238) (by decide +kernel)) rfl
theorem wIM_Jx4a65c_elementData_915e3 : Cond.instanceMethod yJx4a65c_elementData_915e3 ∈ gTb := gm (List.mem_of_getElem? (i := 239) (by decide +kernel)) rfl
theorem wSE_Jx4a65c_Jx4a65c_elementData_915e3 : Cond.selects RJx4a65c yJx4a65c_elementData_915e3 yJx4a65c_elementData_915e3 ∈ gTb := gm (List.mem_of_getElem? (i := 240) (by decide +kernel)) rfl
theorem wCO_Jx4a65c_elementData_915e3 : Cond.code yJx4a65c_elementData_915e3 cJx4a65c_elementData_915e3 2 (Option.some (Jvm.ClassFile.FieldType.object "java/lang/Object")) ∈ gTb := gm (List.mem_of_getElem? (i := 241) (by decide +kernel)) rfl
theorem wCL_X5_96 : Cond.classLink RX5 96 RX2 ∈ gTb := gm (List.mem_of_getElem? (i := 242) (by decide +kernel)) rfl
theorem wML_X5_281 : Cond.methodLink RX5 281 yX0_daysLeft ∈ gTb := gm (List.mem_of_getElem? (i := 243) (by decide +kernel)) rfl
theorem wIM_X0_daysLeft : Cond.instanceMethod yX0_daysLeft ∈ gTb := gm (List.mem_of_getElem? (i := 244) (by decide +kernel)) rfl
theorem wSE_X0_X0_daysLeft : Cond.selects RX0 yX0_daysLeft yX0_daysLeft ∈ gTb := gm (List.mem_of_getElem? (i := 245) (by decide +kernel)) rfl
theorem wCO_X0_daysLeft : Cond.code yX0_daysLeft cX0_daysLeft 2 (Option.some Jvm.ClassFile.FieldType.int) ∈ gTb := gm (List.mem_of_getElem? (i := 246) (by decide +kernel)) rfl
theorem wML_X0_15 : Cond.methodLink RX0 15 yX0_belongs ∈ gTb := gm (List.mem_of_getElem? (i := 247) (by decide +kernel)) rfl
theorem wIM_X0_belongs : Cond.instanceMethod yX0_belongs ∈ gTb := gm (List.mem_of_getElem? (i := 248) (by decide +kernel)) rfl
theorem wSE_X0_X0_belongs : Cond.selects RX0 yX0_belongs yX0_belongs ∈ gTb := gm (List.mem_of_getElem? (i := 249) (by decide +kernel)) rfl
theorem wCO_X0_belongs : Cond.code yX0_belongs cX0_belongs 2 (Option.some Jvm.ClassFile.FieldType.boolean) ∈ gTb := gm (List.mem_of_getElem? (i := 250) (by decide +kernel)) rfl
theorem wML_L_196 : Cond.methodLink RL 196 yX5_takings ∈ gTb := gm (List.mem_of_getElem? (i := 251) (by decide +kernel)) rfl
theorem wIM_X5_takings : Cond.instanceMethod yX5_takings ∈ gTb := gm (List.mem_of_getElem? (i := 252) (by decide +kernel)) rfl
theorem wSE_X5_X5_takings : Cond.selects RX5 yX5_takings yX5_takings ∈ gTb := gm (List.mem_of_getElem? (i := 253) (by decide +kernel)) rfl
theorem wCO_X5_takings : Cond.code yX5_takings cX5_takings 1 (Option.some Jvm.ClassFile.FieldType.int) ∈ gTb := gm (List.mem_of_getElem? (i := 254) (by decide +kernel)) rfl
theorem wML_L_99 : Cond.methodLink RL 99 yL_setPrice ∈ gTb := gm (List.mem_of_getElem? (i := 255) (by decide +kernel)) rfl
theorem wST_L_setPrice : Cond.static yL_setPrice ∈ gTb := gm (List.mem_of_getElem? (i := 256) (by decide +kernel)) rfl
theorem wCL_L_13 : Cond.classLink RL 13 "java/lang/IndexOutOfBoundsException" ∈ gTb := gm (List.mem_of_getElem? (i := 258) (by decide +kernel)) rfl
theorem wCL_L_15 : Cond.classLink RL 15 "java/lang/IllegalArgumentException" ∈ gTb := gm (List.mem_of_getElem? (i := 259) (by decide +kernel)) rfl
theorem wML_L_7 : Cond.methodLink RL 7 yX5_setPrice ∈ gTb := gm (List.mem_of_getElem? (i := 260) (by decide +kernel)) rfl
theorem wIM_X5_setPrice : Cond.instanceMethod yX5_setPrice ∈ gTb := gm (List.mem_of_getElem? (i := 261) (by decide +kernel)) rfl
theorem wSE_X5_X5_setPrice : Cond.selects RX5 yX5_setPrice yX5_setPrice ∈ gTb := gm (List.mem_of_getElem? (i := 262) (by decide +kernel)) rfl
theorem wCO_X5_setPrice : Cond.code yX5_setPrice cX5_setPrice 5 (Option.some Jvm.ClassFile.FieldType.int) ∈ gTb := gm (List.mem_of_getElem? (i := 263) (by decide +kernel)) rfl
theorem wML_X5_42 : Cond.methodLink RX5 42 yX5_tillAt ∈ gTb := gm (List.mem_of_getElem? (i := 264) (by decide +kernel)) rfl
theorem wIM_X5_tillAt : Cond.instanceMethod yX5_tillAt ∈ gTb := gm (List.mem_of_getElem? (i := 266) (by decide +kernel)) rfl
theorem wCO_X5_tillAt : Cond.code yX5_tillAt cX5_tillAt 2 (Option.some (Jvm.ClassFile.FieldType.object "MuseumTill$Till")) ∈ gTb := gm (List.mem_of_getElem? (i := 267) (by decide +kernel)) rfl
theorem wCL_X5_284 : Cond.classLink RX5 284 "java/lang/IndexOutOfBoundsException" ∈ gTb := gm (List.mem_of_getElem? (i := 268) (by decide +kernel)) rfl
theorem wx_castable_270 : Cond.castable "java/lang/IndexOutOfBoundsException" "java/lang/IndexOutOfBoundsException" ∈ lw_tbl := List.mem_of_getElem? (i := 270) (by decide +kernel)
theorem wx_declares_271 : Cond.declares ⟨"java/lang/RuntimeException", "<init>", "()V"⟩ ∈ lw_tbl := List.mem_of_getElem? (i := 271) (by decide +kernel)
theorem wx_declares_272 : Cond.declares ⟨"java/lang/RuntimeException", "<init>", "(Ljava/lang/String;)V"⟩ ∈ lw_tbl := List.mem_of_getElem? (i := 272) (by decide +kernel)
theorem wx_declares_273 : Cond.declares ⟨"java/lang/Exception", "<init>", "()V"⟩ ∈ lw_tbl := List.mem_of_getElem? (i := 273) (by decide +kernel)
theorem wx_declares_274 : Cond.declares ⟨"java/lang/Exception", "<init>", "(Ljava/lang/String;)V"⟩ ∈ lw_tbl := List.mem_of_getElem? (i := 274) (by decide +kernel)
theorem wx_declares_275 : Cond.declares ⟨"java/lang/Throwable", "<init>", "()V"⟩ ∈ lw_tbl := List.mem_of_getElem? (i := 275) (by decide +kernel)
theorem wx_declares_276 : Cond.declares ⟨"java/lang/Throwable", "<init>", "(Ljava/lang/String;)V"⟩ ∈ lw_tbl := List.mem_of_getElem? (i := 276) (by decide +kernel)
theorem wx_laysStatic_295 : Cond.laysStatic "java/lang/Throwable" "UNASSIGNED_STACK" "[Ljava/lang/StackTraceElement;" ∈ lw_tbl := List.mem_of_getElem? (i := 295) (by decide +kernel)
theorem wx_laysStatic_297 : Cond.laysStatic "java/lang/Throwable" "SUPPRESSED_SENTINEL" "Ljava/util/List;" ∈ lw_tbl := List.mem_of_getElem? (i := 297) (by decide +kernel)
theorem wx_stringRef_309 : Cond.stringRef RX5 286 "no such house" ∈ lw_tbl := List.mem_of_getElem? (i := 309) (by decide +kernel)
theorem wAC_byte : Cond.arrayClass Jvm.ClassFile.FieldType.byte ∈ gTb := gm (List.mem_of_getElem? (i := 335) (by decide +kernel)) rfl
theorem wML_X5_46 : Cond.methodLink RX5 46 yX5_checkRange ∈ gTb := gm (List.mem_of_getElem? (i := 336) (by decide +kernel)) rfl
theorem wST_X5_checkRange : Cond.static yX5_checkRange ∈ gTb := gm (List.mem_of_getElem? (i := 337) (by decide +kernel)) rfl
theorem wCO_X5_checkRange : Cond.code yX5_checkRange cX5_checkRange 3 none ∈ gTb := gm (List.mem_of_getElem? (i := 338) (by decide +kernel)) rfl
theorem wCL_X5_299 : Cond.classLink RX5 299 "java/lang/IllegalArgumentException" ∈ gTb := gm (List.mem_of_getElem? (i := 339) (by decide +kernel)) rfl
theorem wx_castable_341 : Cond.castable "java/lang/IllegalArgumentException" "java/lang/IllegalArgumentException" ∈ lw_tbl := List.mem_of_getElem? (i := 341) (by decide +kernel)
theorem wx_stringRef_348 : Cond.stringRef RX5 301 "out of range" ∈ lw_tbl := List.mem_of_getElem? (i := 348) (by decide +kernel)
theorem wML_L_109 : Cond.methodLink RL 109 yL_buy ∈ gTb := gm (List.mem_of_getElem? (i := 355) (by decide +kernel)) rfl
theorem wST_L_buy : Cond.static yL_buy ∈ gTb := gm (List.mem_of_getElem? (i := 356) (by decide +kernel)) rfl
theorem wCL_L_21 : Cond.classLink RL 21 "java/lang/IllegalStateException" ∈ gTb := gm (List.mem_of_getElem? (i := 358) (by decide +kernel)) rfl
theorem wML_L_17 : Cond.methodLink RL 17 yX5_buy ∈ gTb := gm (List.mem_of_getElem? (i := 359) (by decide +kernel)) rfl
theorem wIM_X5_buy : Cond.instanceMethod yX5_buy ∈ gTb := gm (List.mem_of_getElem? (i := 360) (by decide +kernel)) rfl
theorem wSE_X5_X5_buy : Cond.selects RX5 yX5_buy yX5_buy ∈ gTb := gm (List.mem_of_getElem? (i := 361) (by decide +kernel)) rfl
theorem wCO_X5_buy : Cond.code yX5_buy cX5_buy 3 (Option.some Jvm.ClassFile.FieldType.int) ∈ gTb := gm (List.mem_of_getElem? (i := 362) (by decide +kernel)) rfl
theorem wML_X5_54 : Cond.methodLink RX5 54 yX5_checkTicketsLeft ∈ gTb := gm (List.mem_of_getElem? (i := 363) (by decide +kernel)) rfl
theorem wIM_X5_checkTicketsLeft : Cond.instanceMethod yX5_checkTicketsLeft ∈ gTb := gm (List.mem_of_getElem? (i := 365) (by decide +kernel)) rfl
theorem wCO_X5_checkTicketsLeft : Cond.code yX5_checkTicketsLeft cX5_checkTicketsLeft 1 none ∈ gTb := gm (List.mem_of_getElem? (i := 366) (by decide +kernel)) rfl
theorem wCL_X5_72 : Cond.classLink RX5 72 "java/lang/IllegalStateException" ∈ gTb := gm (List.mem_of_getElem? (i := 367) (by decide +kernel)) rfl
theorem wx_castable_369 : Cond.castable "java/lang/IllegalStateException" "java/lang/IllegalStateException" ∈ lw_tbl := List.mem_of_getElem? (i := 369) (by decide +kernel)
theorem wx_stringRef_376 : Cond.stringRef RX5 304 "no more tickets" ∈ lw_tbl := List.mem_of_getElem? (i := 376) (by decide +kernel)
theorem wML_X5_57 : Cond.methodLink RX5 57 yX5_issue ∈ gTb := gm (List.mem_of_getElem? (i := 383) (by decide +kernel)) rfl
theorem wIM_X5_issue : Cond.instanceMethod yX5_issue ∈ gTb := gm (List.mem_of_getElem? (i := 385) (by decide +kernel)) rfl
theorem wCO_X5_issue : Cond.code yX5_issue cX5_issue 6 (Option.some Jvm.ClassFile.FieldType.int) ∈ gTb := gm (List.mem_of_getElem? (i := 386) (by decide +kernel)) rfl
theorem wIS_X2 : Cond.instantiable RX2 9 ∈ gTb := gm (List.mem_of_getElem? (i := 387) (by decide +kernel)) rfl
theorem wML_X5_308 : Cond.methodLink RX5 308 yX2_init ∈ gTb := gm (List.mem_of_getElem? (i := 388) (by decide +kernel)) rfl
theorem wIM_X2_init : Cond.instanceMethod yX2_init ∈ gTb := gm (List.mem_of_getElem? (i := 389) (by decide +kernel)) rfl
theorem wCO_X2_init : Cond.code yX2_init cX2_init 6 none ∈ gTb := gm (List.mem_of_getElem? (i := 390) (by decide +kernel)) rfl
theorem wML_X2_3 : Cond.methodLink RX2 3 objectInit ∈ gTb := gm (List.mem_of_getElem? (i := 391) (by decide +kernel)) rfl
theorem wFL_X2_15 : Cond.fieldLink RX2 15 RX2 "number" "I" ∈ gTb := gm (List.mem_of_getElem? (i := 392) (by decide +kernel)) rfl
theorem wFL_X5_238 : Cond.fieldLink RX5 238 RX2 "number" "I" ∈ gTb := gm (List.mem_of_getElem? (i := 393) (by decide +kernel)) rfl
theorem wFL_X2_18 : Cond.fieldLink RX2 18 RX2 "sort" "I" ∈ gTb := gm (List.mem_of_getElem? (i := 394) (by decide +kernel)) rfl
theorem wFL_X1_37 : Cond.fieldLink RX1 37 RX2 "sort" "I" ∈ gTb := gm (List.mem_of_getElem? (i := 395) (by decide +kernel)) rfl
theorem wFL_X5_355 : Cond.fieldLink RX5 355 RX2 "sort" "I" ∈ gTb := gm (List.mem_of_getElem? (i := 396) (by decide +kernel)) rfl
theorem wFL_X2_21 : Cond.fieldLink RX2 21 RX2 "house" "I" ∈ gTb := gm (List.mem_of_getElem? (i := 397) (by decide +kernel)) rfl
theorem wFL_X2_24 : Cond.fieldLink RX2 24 RX2 "member" "I" ∈ gTb := gm (List.mem_of_getElem? (i := 398) (by decide +kernel)) rfl
theorem wFL_X2_27 : Cond.fieldLink RX2 27 RX2 "cost" "I" ∈ gTb := gm (List.mem_of_getElem? (i := 399) (by decide +kernel)) rfl
theorem wFL_X5_116 : Cond.fieldLink RX5 116 RX2 "cost" "I" ∈ gTb := gm (List.mem_of_getElem? (i := 400) (by decide +kernel)) rfl
theorem wFL_X2_30 : Cond.fieldLink RX2 30 RX2 "isVoid" "Z" ∈ gTb := gm (List.mem_of_getElem? (i := 401) (by decide +kernel)) rfl
theorem wFL_X5_110 : Cond.fieldLink RX5 110 RX2 "isVoid" "Z" ∈ gTb := gm (List.mem_of_getElem? (i := 402) (by decide +kernel)) rfl
theorem wFL_X5_95 : Cond.fieldLink RX5 95 RX2 "seenRooms" "I" ∈ gTb := gm (List.mem_of_getElem? (i := 403) (by decide +kernel)) rfl
theorem wFL_X2_9 : Cond.fieldLink RX2 9 RX2 "room" "I" ∈ gTb := gm (List.mem_of_getElem? (i := 404) (by decide +kernel)) rfl
theorem wFL_X1_28 : Cond.fieldLink RX1 28 RX2 "room" "I" ∈ gTb := gm (List.mem_of_getElem? (i := 405) (by decide +kernel)) rfl
theorem wFL_X5_154 : Cond.fieldLink RX5 154 RX2 "room" "I" ∈ gTb := gm (List.mem_of_getElem? (i := 406) (by decide +kernel)) rfl
theorem wFL_X1_33 : Cond.fieldLink RX1 33 RX2 "isWaiting" "Z" ∈ gTb := gm (List.mem_of_getElem? (i := 407) (by decide +kernel)) rfl
theorem wFL_X2_34 : Cond.fieldLink RX2 34 RX2 "isWaiting" "Z" ∈ gTb := gm (List.mem_of_getElem? (i := 408) (by decide +kernel)) rfl
theorem wFL_X5_100 : Cond.fieldLink RX5 100 RX2 "isWaiting" "Z" ∈ gTb := gm (List.mem_of_getElem? (i := 409) (by decide +kernel)) rfl
theorem wSU_X2 : Cond.superclass RX2 "java/lang/Object" ∈ gTb := gm (List.mem_of_getElem? (i := 428) (by decide +kernel)) rfl
theorem wML_X5_184 : Cond.methodLink RX5 184 yJx4a65c_add_9ea2d ∈ gTb := gm (List.mem_of_getElem? (i := 429) (by decide +kernel)) rfl
theorem wIM_Jx4a65c_add_9ea2d : Cond.instanceMethod yJx4a65c_add_9ea2d ∈ gTb := gm (List.mem_of_getElem? (i := 430) (by decide +kernel)) rfl
theorem wSE_Jx4a65c_Jx4a65c_add_9ea2d : Cond.selects RJx4a65c yJx4a65c_add_9ea2d yJx4a65c_add_9ea2d ∈ gTb := gm (List.mem_of_getElem? (i := 431) (by decide +kernel)) rfl
theorem wCO_Jx4a65c_add_9ea2d : Cond.code yJx4a65c_add_9ea2d cJx4a65c_add_9ea2d 2 (Option.some Jvm.ClassFile.FieldType.boolean) ∈ gTb := gm (List.mem_of_getElem? (i := 432) (by decide +kernel)) rfl
theorem wML_Jx4a65c_131 : Cond.methodLink RJx4a65c 131 yJx4a65c_add_72be8 ∈ gTb := gm (List.mem_of_getElem? (i := 433) (by decide +kernel)) rfl
theorem wIM_Jx4a65c_add_72be8 : Cond.instanceMethod yJx4a65c_add_72be8 ∈ gTb := gm (List.mem_of_getElem? (i := 435) (by decide +kernel)) rfl
theorem wCO_Jx4a65c_add_72be8 : Cond.code yJx4a65c_add_72be8 cJx4a65c_add_72be8 4 none ∈ gTb := gm (List.mem_of_getElem? (i := 436) (by decide +kernel)) rfl
theorem wML_Jx4a65c_129 : Cond.methodLink RJx4a65c 129 yJx4a65c_grow_d5877 ∈ gTb := gm (List.mem_of_getElem? (i := 437) (by decide +kernel)) rfl
theorem wIM_Jx4a65c_grow_d5877 : Cond.instanceMethod yJx4a65c_grow_d5877 ∈ gTb := gm (List.mem_of_getElem? (i := 439) (by decide +kernel)) rfl
theorem wCO_Jx4a65c_grow_d5877 : Cond.code yJx4a65c_grow_d5877 cJx4a65c_grow_d5877 1 (Option.some (Jvm.ClassFile.FieldType.array (Jvm.ClassFile.FieldType.object "java/lang/Object"))) ∈ gTb := gm (List.mem_of_getElem? (i := 440) (by decide +kernel)) rfl
theorem wML_Jx4a65c_69 : Cond.methodLink RJx4a65c 69 yJx4a65c_grow_92f84 ∈ gTb := gm (List.mem_of_getElem? (i := 441) (by decide +kernel)) rfl
theorem wIM_Jx4a65c_grow_92f84 : Cond.instanceMethod yJx4a65c_grow_92f84 ∈ gTb := gm (List.mem_of_getElem? (i := 443) (by decide +kernel)) rfl
theorem wCO_Jx4a65c_grow_92f84 : Cond.code yJx4a65c_grow_92f84 cJx4a65c_grow_92f84 4 (Option.some (Jvm.ClassFile.FieldType.array (Jvm.ClassFile.FieldType.object "java/lang/Object"))) ∈ gTb := gm (List.mem_of_getElem? (i := 444) (by decide +kernel)) rfl
theorem wML_Jx4a65c_73 : Cond.methodLink RJx4a65c 73 yJ8_newLength_cabcc ∈ gTb := gm (List.mem_of_getElem? (i := 445) (by decide +kernel)) rfl
theorem wST_J8_newLength_cabcc : Cond.static yJ8_newLength_cabcc ∈ gTb := gm (List.mem_of_getElem? (i := 446) (by decide +kernel)) rfl
theorem wCO_J8_newLength_cabcc : Cond.code yJ8_newLength_cabcc cJ8_newLength_cabcc 4 (Option.some Jvm.ClassFile.FieldType.int) ∈ gTb := gm (List.mem_of_getElem? (i := 447) (by decide +kernel)) rfl
theorem wML_J8_194 : Cond.methodLink RJ8 194 yJ9_max_7cf53 ∈ gTb := gm (List.mem_of_getElem? (i := 448) (by decide +kernel)) rfl
theorem wST_J9_max_7cf53 : Cond.static yJ9_max_7cf53 ∈ gTb := gm (List.mem_of_getElem? (i := 449) (by decide +kernel)) rfl
theorem wCO_J9_max_7cf53 : Cond.code yJ9_max_7cf53 cJ9_max_7cf53 2 (Option.some Jvm.ClassFile.FieldType.int) ∈ gTb := gm (List.mem_of_getElem? (i := 450) (by decide +kernel)) rfl
theorem wCN_J8_200 : Cond.constant RJ8 200 (2147483639) ∈ gTb := gm (List.mem_of_getElem? (i := 451) (by decide +kernel)) rfl
theorem wML_J8_201 : Cond.methodLink RJ8 201 yJ8_hugeLength_7cf53 ∈ gTb := gm (List.mem_of_getElem? (i := 452) (by decide +kernel)) rfl
theorem wST_J8_hugeLength_7cf53 : Cond.static yJ8_hugeLength_7cf53 ∈ gTb := gm (List.mem_of_getElem? (i := 453) (by decide +kernel)) rfl
theorem wCO_J8_hugeLength_7cf53 : Cond.code yJ8_hugeLength_7cf53 cJ8_hugeLength_7cf53 3 (Option.some Jvm.ClassFile.FieldType.int) ∈ gTb := gm (List.mem_of_getElem? (i := 454) (by decide +kernel)) rfl
theorem wML_Jx4a65c_66 : Cond.methodLink RJx4a65c 66 yJ7_copyOf_1904c ∈ gTb := gm (List.mem_of_getElem? (i := 455) (by decide +kernel)) rfl
theorem wST_J7_copyOf_1904c : Cond.static yJ7_copyOf_1904c ∈ gTb := gm (List.mem_of_getElem? (i := 456) (by decide +kernel)) rfl
theorem wCO_J7_copyOf_1904c : Cond.code yJ7_copyOf_1904c cJ7_copyOf_1904c 2 (Option.some (Jvm.ClassFile.FieldType.array (Jvm.ClassFile.FieldType.object "java/lang/Object"))) ∈ gTb := gm (List.mem_of_getElem? (i := 457) (by decide +kernel)) rfl
theorem wNA_474 : Cond.native ⟨"java/lang/Object", "getClass", "()Ljava/lang/Class;"⟩ ∈ gTb := gm (List.mem_of_getElem? (i := 474) (by decide +kernel)) rfl
theorem wML_J7_300 : Cond.methodLink RJ7 300 yJ7_copyOf_6403c ∈ gTb := gm (List.mem_of_getElem? (i := 475) (by decide +kernel)) rfl
theorem wST_J7_copyOf_6403c : Cond.static yJ7_copyOf_6403c ∈ gTb := gm (List.mem_of_getElem? (i := 476) (by decide +kernel)) rfl
theorem wCO_J7_copyOf_6403c : Cond.code yJ7_copyOf_6403c cJ7_copyOf_6403c 4 (Option.some (Jvm.ClassFile.FieldType.array (Jvm.ClassFile.FieldType.object "java/lang/Object"))) ∈ gTb := gm (List.mem_of_getElem? (i := 477) (by decide +kernel)) rfl
theorem wCL_J7_110 : Cond.classLink RJ7 110 "[Ljava/lang/Object;" ∈ gTb := gm (List.mem_of_getElem? (i := 478) (by decide +kernel)) rfl
theorem wx_arrayOver_479 : Cond.arrayOver (Jvm.ClassFile.FieldType.object "java/lang/Object") ∈ lw_tbl := List.mem_of_getElem? (i := 479) (by decide +kernel)
theorem wCL_J7_2 : Cond.classLink RJ7 2 "java/lang/Object" ∈ gTb := gm (List.mem_of_getElem? (i := 480) (by decide +kernel)) rfl
theorem wML_J7_304 : Cond.methodLink RJ7 304 yJ9_min_7cf53 ∈ gTb := gm (List.mem_of_getElem? (i := 481) (by decide +kernel)) rfl
theorem wST_J9_min_7cf53 : Cond.static yJ9_min_7cf53 ∈ gTb := gm (List.mem_of_getElem? (i := 482) (by decide +kernel)) rfl
theorem wCO_J9_min_7cf53 : Cond.code yJ9_min_7cf53 cJ9_min_7cf53 2 (Option.some Jvm.ClassFile.FieldType.int) ∈ gTb := gm (List.mem_of_getElem? (i := 483) (by decide +kernel)) rfl
theorem wNA_486 : Cond.native ⟨"java/lang/System", "arraycopy", "(Ljava/lang/Object;ILjava/lang/Object;II)V"⟩ ∈ gTb := gm (List.mem_of_getElem? (i := 486) (by decide +kernel)) rfl
theorem wML_Jx4a65c_79 : Cond.methodLink RJx4a65c 79 yJ9_max_7cf53 ∈ gTb := gm (List.mem_of_getElem? (i := 487) (by decide +kernel)) rfl
theorem wCL_Jx4a65c_7 : Cond.classLink RJx4a65c 7 "java/lang/Object" ∈ gTb := gm (List.mem_of_getElem? (i := 488) (by decide +kernel)) rfl
theorem wML_L_113 : Cond.methodLink RL 113 yL_admit ∈ gTb := gm (List.mem_of_getElem? (i := 489) (by decide +kernel)) rfl
theorem wST_L_admit : Cond.static yL_admit ∈ gTb := gm (List.mem_of_getElem? (i := 490) (by decide +kernel)) rfl
theorem wML_L_23 : Cond.methodLink RL 23 yX5_admit ∈ gTb := gm (List.mem_of_getElem? (i := 492) (by decide +kernel)) rfl
theorem wIM_X5_admit : Cond.instanceMethod yX5_admit ∈ gTb := gm (List.mem_of_getElem? (i := 493) (by decide +kernel)) rfl
theorem wSE_X5_X5_admit : Cond.selects RX5 yX5_admit yX5_admit ∈ gTb := gm (List.mem_of_getElem? (i := 494) (by decide +kernel)) rfl
theorem wCO_X5_admit : Cond.code yX5_admit cX5_admit 5 (Option.some Jvm.ClassFile.FieldType.int) ∈ gTb := gm (List.mem_of_getElem? (i := 495) (by decide +kernel)) rfl
theorem wML_X5_61 : Cond.methodLink RX5 61 yX5_memberAt ∈ gTb := gm (List.mem_of_getElem? (i := 496) (by decide +kernel)) rfl
theorem wIM_X5_memberAt : Cond.instanceMethod yX5_memberAt ∈ gTb := gm (List.mem_of_getElem? (i := 498) (by decide +kernel)) rfl
theorem wCO_X5_memberAt : Cond.code yX5_memberAt cX5_memberAt 2 (Option.some (Jvm.ClassFile.FieldType.object "MuseumTill$Member")) ∈ gTb := gm (List.mem_of_getElem? (i := 499) (by decide +kernel)) rfl
theorem wx_stringRef_500 : Cond.stringRef RX5 291 "no such member" ∈ lw_tbl := List.mem_of_getElem? (i := 500) (by decide +kernel)
theorem wML_X5_68 : Cond.methodLink RX5 68 yX0_belongs ∈ gTb := gm (List.mem_of_getElem? (i := 501) (by decide +kernel)) rfl
theorem wx_stringRef_502 : Cond.stringRef RX5 74 "no membership" ∈ lw_tbl := List.mem_of_getElem? (i := 502) (by decide +kernel)
theorem wML_X5_79 : Cond.methodLink RX5 79 yX5_countOfToday ∈ gTb := gm (List.mem_of_getElem? (i := 503) (by decide +kernel)) rfl
theorem wIM_X5_countOfToday : Cond.instanceMethod yX5_countOfToday ∈ gTb := gm (List.mem_of_getElem? (i := 505) (by decide +kernel)) rfl
theorem wCO_X5_countOfToday : Cond.code yX5_countOfToday cX5_countOfToday 5 (Option.some Jvm.ClassFile.FieldType.int) ∈ gTb := gm (List.mem_of_getElem? (i := 506) (by decide +kernel)) rfl
theorem wML_X5_311 : Cond.methodLink RX5 311 yX2_isOfMember ∈ gTb := gm (List.mem_of_getElem? (i := 507) (by decide +kernel)) rfl
theorem wIM_X2_isOfMember : Cond.instanceMethod yX2_isOfMember ∈ gTb := gm (List.mem_of_getElem? (i := 508) (by decide +kernel)) rfl
theorem wSE_X2_X2_isOfMember : Cond.selects RX2 yX2_isOfMember yX2_isOfMember ∈ gTb := gm (List.mem_of_getElem? (i := 509) (by decide +kernel)) rfl
theorem wCO_X2_isOfMember : Cond.code yX2_isOfMember cX2_isOfMember 3 (Option.some Jvm.ClassFile.FieldType.boolean) ∈ gTb := gm (List.mem_of_getElem? (i := 510) (by decide +kernel)) rfl
theorem wx_stringRef_511 : Cond.stringRef RX5 83 "a MEMBER ticket of today, or none" ∈ lw_tbl := List.mem_of_getElem? (i := 511) (by decide +kernel)
theorem wx_stringRef_512 : Cond.stringRef RX5 85 "no more guests today" ∈ lw_tbl := List.mem_of_getElem? (i := 512) (by decide +kernel)
theorem wML_L_117 : Cond.methodLink RL 117 yL_giveBack ∈ gTb := gm (List.mem_of_getElem? (i := 513) (by decide +kernel)) rfl
theorem wST_L_giveBack : Cond.static yL_giveBack ∈ gTb := gm (List.mem_of_getElem? (i := 514) (by decide +kernel)) rfl
theorem wML_L_27 : Cond.methodLink RL 27 yX5_giveBack ∈ gTb := gm (List.mem_of_getElem? (i := 516) (by decide +kernel)) rfl
theorem wIM_X5_giveBack : Cond.instanceMethod yX5_giveBack ∈ gTb := gm (List.mem_of_getElem? (i := 517) (by decide +kernel)) rfl
theorem wSE_X5_X5_giveBack : Cond.selects RX5 yX5_giveBack yX5_giveBack ∈ gTb := gm (List.mem_of_getElem? (i := 518) (by decide +kernel)) rfl
theorem wCO_X5_giveBack : Cond.code yX5_giveBack cX5_giveBack 3 (Option.some Jvm.ClassFile.FieldType.int) ∈ gTb := gm (List.mem_of_getElem? (i := 519) (by decide +kernel)) rfl
theorem wML_X5_87 : Cond.methodLink RX5 87 yX5_ticketAt ∈ gTb := gm (List.mem_of_getElem? (i := 520) (by decide +kernel)) rfl
theorem wIM_X5_ticketAt : Cond.instanceMethod yX5_ticketAt ∈ gTb := gm (List.mem_of_getElem? (i := 522) (by decide +kernel)) rfl
theorem wCO_X5_ticketAt : Cond.code yX5_ticketAt cX5_ticketAt 2 (Option.some (Jvm.ClassFile.FieldType.object "MuseumTill$Ticket")) ∈ gTb := gm (List.mem_of_getElem? (i := 523) (by decide +kernel)) rfl
theorem wx_stringRef_524 : Cond.stringRef RX5 293 "no such ticket" ∈ lw_tbl := List.mem_of_getElem? (i := 524) (by decide +kernel)
theorem wML_X5_91 : Cond.methodLink RX5 91 yX5_checkUsable ∈ gTb := gm (List.mem_of_getElem? (i := 525) (by decide +kernel)) rfl
theorem wIM_X5_checkUsable : Cond.instanceMethod yX5_checkUsable ∈ gTb := gm (List.mem_of_getElem? (i := 527) (by decide +kernel)) rfl
theorem wCO_X5_checkUsable : Cond.code yX5_checkUsable cX5_checkUsable 2 none ∈ gTb := gm (List.mem_of_getElem? (i := 528) (by decide +kernel)) rfl
theorem wx_stringRef_529 : Cond.stringRef RX5 306 "not of today, or void" ∈ lw_tbl := List.mem_of_getElem? (i := 529) (by decide +kernel)
theorem wML_X5_104 : Cond.methodLink RX5 104 yX5_areClosedFor ∈ gTb := gm (List.mem_of_getElem? (i := 530) (by decide +kernel)) rfl
theorem wIM_X5_areClosedFor : Cond.instanceMethod yX5_areClosedFor ∈ gTb := gm (List.mem_of_getElem? (i := 532) (by decide +kernel)) rfl
theorem wCO_X5_areClosedFor : Cond.code yX5_areClosedFor cX5_areClosedFor 3 (Option.some Jvm.ClassFile.FieldType.boolean) ∈ gTb := gm (List.mem_of_getElem? (i := 533) (by decide +kernel)) rfl
theorem wML_X5_151 : Cond.methodLink RX5 151 yX2_isFor ∈ gTb := gm (List.mem_of_getElem? (i := 534) (by decide +kernel)) rfl
theorem wIM_X2_isFor : Cond.instanceMethod yX2_isFor ∈ gTb := gm (List.mem_of_getElem? (i := 535) (by decide +kernel)) rfl
theorem wSE_X2_X2_isFor : Cond.selects RX2 yX2_isFor yX2_isFor ∈ gTb := gm (List.mem_of_getElem? (i := 536) (by decide +kernel)) rfl
theorem wCO_X2_isFor : Cond.code yX2_isFor cX2_isFor 2 (Option.some Jvm.ClassFile.FieldType.boolean) ∈ gTb := gm (List.mem_of_getElem? (i := 537) (by decide +kernel)) rfl
theorem wx_stringRef_538 : Cond.stringRef RX5 108 "cannot be given back" ∈ lw_tbl := List.mem_of_getElem? (i := 538) (by decide +kernel)
theorem wML_L_120 : Cond.methodLink RL 120 yL_join ∈ gTb := gm (List.mem_of_getElem? (i := 539) (by decide +kernel)) rfl
theorem wST_L_join : Cond.static yL_join ∈ gTb := gm (List.mem_of_getElem? (i := 540) (by decide +kernel)) rfl
theorem wML_L_30 : Cond.methodLink RL 30 yX5_join ∈ gTb := gm (List.mem_of_getElem? (i := 542) (by decide +kernel)) rfl
theorem wIM_X5_join : Cond.instanceMethod yX5_join ∈ gTb := gm (List.mem_of_getElem? (i := 543) (by decide +kernel)) rfl
theorem wSE_X5_X5_join : Cond.selects RX5 yX5_join yX5_join ∈ gTb := gm (List.mem_of_getElem? (i := 544) (by decide +kernel)) rfl
theorem wCO_X5_join : Cond.code yX5_join cX5_join 3 (Option.some Jvm.ClassFile.FieldType.int) ∈ gTb := gm (List.mem_of_getElem? (i := 545) (by decide +kernel)) rfl
theorem wx_stringRef_546 : Cond.stringRef RX5 119 "the membership is not over" ∈ lw_tbl := List.mem_of_getElem? (i := 546) (by decide +kernel)
theorem wML_L_123 : Cond.methodLink RL 123 yL_setCap ∈ gTb := gm (List.mem_of_getElem? (i := 547) (by decide +kernel)) rfl
theorem wST_L_setCap : Cond.static yL_setCap ∈ gTb := gm (List.mem_of_getElem? (i := 548) (by decide +kernel)) rfl
theorem wML_L_33 : Cond.methodLink RL 33 yX5_setCap ∈ gTb := gm (List.mem_of_getElem? (i := 550) (by decide +kernel)) rfl
theorem wIM_X5_setCap : Cond.instanceMethod yX5_setCap ∈ gTb := gm (List.mem_of_getElem? (i := 551) (by decide +kernel)) rfl
theorem wSE_X5_X5_setCap : Cond.selects RX5 yX5_setCap yX5_setCap ∈ gTb := gm (List.mem_of_getElem? (i := 552) (by decide +kernel)) rfl
theorem wCO_X5_setCap : Cond.code yX5_setCap cX5_setCap 4 (Option.some Jvm.ClassFile.FieldType.int) ∈ gTb := gm (List.mem_of_getElem? (i := 553) (by decide +kernel)) rfl
theorem wML_X5_127 : Cond.methodLink RX5 127 yX5_roomAt ∈ gTb := gm (List.mem_of_getElem? (i := 554) (by decide +kernel)) rfl
theorem wIM_X5_roomAt : Cond.instanceMethod yX5_roomAt ∈ gTb := gm (List.mem_of_getElem? (i := 556) (by decide +kernel)) rfl
theorem wCO_X5_roomAt : Cond.code yX5_roomAt cX5_roomAt 2 (Option.some (Jvm.ClassFile.FieldType.object "MuseumTill$Room")) ∈ gTb := gm (List.mem_of_getElem? (i := 557) (by decide +kernel)) rfl
theorem wx_stringRef_558 : Cond.stringRef RX5 289 "no such room" ∈ lw_tbl := List.mem_of_getElem? (i := 558) (by decide +kernel)
theorem wML_X5_134 : Cond.methodLink RX5 134 yX5_letQueueIn ∈ gTb := gm (List.mem_of_getElem? (i := 559) (by decide +kernel)) rfl
theorem wIM_X5_letQueueIn : Cond.instanceMethod yX5_letQueueIn ∈ gTb := gm (List.mem_of_getElem? (i := 561) (by decide +kernel)) rfl
theorem wCO_X5_letQueueIn : Cond.code yX5_letQueueIn cX5_letQueueIn 4 none ∈ gTb := gm (List.mem_of_getElem? (i := 562) (by decide +kernel)) rfl
theorem wML_X5_315 : Cond.methodLink RX5 315 yJx4a65c_isEmpty_aae02 ∈ gTb := gm (List.mem_of_getElem? (i := 563) (by decide +kernel)) rfl
theorem wIM_Jx4a65c_isEmpty_aae02 : Cond.instanceMethod yJx4a65c_isEmpty_aae02 ∈ gTb := gm (List.mem_of_getElem? (i := 564) (by decide +kernel)) rfl
theorem wSE_Jx4a65c_Jx4a65c_isEmpty_aae02 : Cond.selects RJx4a65c yJx4a65c_isEmpty_aae02 yJx4a65c_isEmpty_aae02 ∈ gTb := gm (List.mem_of_getElem? (i := 565) (by decide +kernel)) rfl
theorem wCO_Jx4a65c_isEmpty_aae02 : Cond.code yJx4a65c_isEmpty_aae02 cJx4a65c_isEmpty_aae02 1 (Option.some Jvm.ClassFile.FieldType.boolean) ∈ gTb := gm (List.mem_of_getElem? (i := 566) (by decide +kernel)) rfl
theorem wML_X5_319 : Cond.methodLink RX5 319 yJx4a65c_remove_915e3 ∈ gTb := gm (List.mem_of_getElem? (i := 567) (by decide +kernel)) rfl
theorem wIM_Jx4a65c_remove_915e3 : Cond.instanceMethod yJx4a65c_remove_915e3 ∈ gTb := gm (List.mem_of_getElem? (i := 568) (by decide +kernel)) rfl
theorem wSE_Jx4a65c_Jx4a65c_remove_915e3 : Cond.selects RJx4a65c yJx4a65c_remove_915e3 yJx4a65c_remove_915e3 ∈ gTb := gm (List.mem_of_getElem? (i := 569) (by decide +kernel)) rfl
theorem wCO_Jx4a65c_remove_915e3 : Cond.code yJx4a65c_remove_915e3 cJx4a65c_remove_915e3 4 (Option.some (Jvm.ClassFile.FieldType.object "java/lang/Object")) ∈ gTb := gm (List.mem_of_getElem? (i := 570) (by decide +kernel)) rfl
theorem wML_Jx4a65c_144 : Cond.methodLink RJx4a65c 144 yJx4a65c_fastRemove_b59b0 ∈ gTb := gm (List.mem_of_getElem? (i := 571) (by decide +kernel)) rfl
theorem wIM_Jx4a65c_fastRemove_b59b0 : Cond.instanceMethod yJx4a65c_fastRemove_b59b0 ∈ gTb := gm (List.mem_of_getElem? (i := 573) (by decide +kernel)) rfl
theorem wCO_Jx4a65c_fastRemove_b59b0 : Cond.code yJx4a65c_fastRemove_b59b0 cJx4a65c_fastRemove_b59b0 4 none ∈ gTb := gm (List.mem_of_getElem? (i := 574) (by decide +kernel)) rfl
theorem wML_X5_322 : Cond.methodLink RX5 322 yX5_showRoom ∈ gTb := gm (List.mem_of_getElem? (i := 576) (by decide +kernel)) rfl
theorem wIM_X5_showRoom : Cond.instanceMethod yX5_showRoom ∈ gTb := gm (List.mem_of_getElem? (i := 578) (by decide +kernel)) rfl
theorem wCO_X5_showRoom : Cond.code yX5_showRoom cX5_showRoom 6 none ∈ gTb := gm (List.mem_of_getElem? (i := 579) (by decide +kernel)) rfl
theorem wCL_X5_179 : Cond.classLink RX5 179 RX4 ∈ gTb := gm (List.mem_of_getElem? (i := 580) (by decide +kernel)) rfl
theorem wML_X5_326 : Cond.methodLink RX5 326 yX5_payFee ∈ gTb := gm (List.mem_of_getElem? (i := 581) (by decide +kernel)) rfl
theorem wIM_X5_payFee : Cond.instanceMethod yX5_payFee ∈ gTb := gm (List.mem_of_getElem? (i := 583) (by decide +kernel)) rfl
theorem wCO_X5_payFee : Cond.code yX5_payFee cX5_payFee 3 none ∈ gTb := gm (List.mem_of_getElem? (i := 584) (by decide +kernel)) rfl
theorem wML_X5_330 : Cond.methodLink RX5 330 yX3_bookFee ∈ gTb := gm (List.mem_of_getElem? (i := 585) (by decide +kernel)) rfl
theorem wIM_X3_bookFee : Cond.instanceMethod yX3_bookFee ∈ gTb := gm (List.mem_of_getElem? (i := 586) (by decide +kernel)) rfl
theorem wSE_X3_X3_bookFee : Cond.selects RX3 yX3_bookFee yX3_bookFee ∈ gTb := gm (List.mem_of_getElem? (i := 587) (by decide +kernel)) rfl
theorem wCO_X3_bookFee : Cond.code yX3_bookFee cX3_bookFee 2 none ∈ gTb := gm (List.mem_of_getElem? (i := 588) (by decide +kernel)) rfl
theorem wML_L_126 : Cond.methodLink RL 126 yL_close ∈ gTb := gm (List.mem_of_getElem? (i := 589) (by decide +kernel)) rfl
theorem wST_L_close : Cond.static yL_close ∈ gTb := gm (List.mem_of_getElem? (i := 590) (by decide +kernel)) rfl
theorem wML_L_36 : Cond.methodLink RL 36 yX5_close ∈ gTb := gm (List.mem_of_getElem? (i := 592) (by decide +kernel)) rfl
theorem wIM_X5_close : Cond.instanceMethod yX5_close ∈ gTb := gm (List.mem_of_getElem? (i := 593) (by decide +kernel)) rfl
theorem wSE_X5_X5_close : Cond.selects RX5 yX5_close yX5_close ∈ gTb := gm (List.mem_of_getElem? (i := 594) (by decide +kernel)) rfl
theorem wCO_X5_close : Cond.code yX5_close cX5_close 4 (Option.some Jvm.ClassFile.FieldType.int) ∈ gTb := gm (List.mem_of_getElem? (i := 595) (by decide +kernel)) rfl
theorem wML_X5_144 : Cond.methodLink RX5 144 yX5_sendAllOut ∈ gTb := gm (List.mem_of_getElem? (i := 596) (by decide +kernel)) rfl
theorem wIM_X5_sendAllOut : Cond.instanceMethod yX5_sendAllOut ∈ gTb := gm (List.mem_of_getElem? (i := 598) (by decide +kernel)) rfl
theorem wCO_X5_sendAllOut : Cond.code yX5_sendAllOut cX5_sendAllOut 5 (Option.some Jvm.ClassFile.FieldType.int) ∈ gTb := gm (List.mem_of_getElem? (i := 599) (by decide +kernel)) rfl
theorem wML_X5_167 : Cond.methodLink RX5 167 yX2_leaveRoom ∈ gTb := gm (List.mem_of_getElem? (i := 600) (by decide +kernel)) rfl
theorem wIM_X2_leaveRoom : Cond.instanceMethod yX2_leaveRoom ∈ gTb := gm (List.mem_of_getElem? (i := 601) (by decide +kernel)) rfl
theorem wSE_X2_X2_leaveRoom : Cond.selects RX2 yX2_leaveRoom yX2_leaveRoom ∈ gTb := gm (List.mem_of_getElem? (i := 602) (by decide +kernel)) rfl
theorem wCO_X2_leaveRoom : Cond.code yX2_leaveRoom cX2_leaveRoom 1 none ∈ gTb := gm (List.mem_of_getElem? (i := 603) (by decide +kernel)) rfl
theorem wML_X5_333 : Cond.methodLink RX5 333 yJx4a65c_clear_da8c8 ∈ gTb := gm (List.mem_of_getElem? (i := 604) (by decide +kernel)) rfl
theorem wIM_Jx4a65c_clear_da8c8 : Cond.instanceMethod yJx4a65c_clear_da8c8 ∈ gTb := gm (List.mem_of_getElem? (i := 605) (by decide +kernel)) rfl
theorem wSE_Jx4a65c_Jx4a65c_clear_da8c8 : Cond.selects RJx4a65c yJx4a65c_clear_da8c8 yJx4a65c_clear_da8c8 ∈ gTb := gm (List.mem_of_getElem? (i := 606) (by decide +kernel)) rfl
theorem wCO_Jx4a65c_clear_da8c8 : Cond.code yJx4a65c_clear_da8c8 cJx4a65c_clear_da8c8 4 none ∈ gTb := gm (List.mem_of_getElem? (i := 607) (by decide +kernel)) rfl
theorem wML_L_129 : Cond.methodLink RL 129 yL_enter ∈ gTb := gm (List.mem_of_getElem? (i := 608) (by decide +kernel)) rfl
theorem wST_L_enter : Cond.static yL_enter ∈ gTb := gm (List.mem_of_getElem? (i := 609) (by decide +kernel)) rfl
theorem wML_L_39 : Cond.methodLink RL 39 yX5_enter ∈ gTb := gm (List.mem_of_getElem? (i := 611) (by decide +kernel)) rfl
theorem wIM_X5_enter : Cond.instanceMethod yX5_enter ∈ gTb := gm (List.mem_of_getElem? (i := 612) (by decide +kernel)) rfl
theorem wSE_X5_X5_enter : Cond.selects RX5 yX5_enter yX5_enter ∈ gTb := gm (List.mem_of_getElem? (i := 613) (by decide +kernel)) rfl
theorem wCO_X5_enter : Cond.code yX5_enter cX5_enter 5 (Option.some Jvm.ClassFile.FieldType.boolean) ∈ gTb := gm (List.mem_of_getElem? (i := 614) (by decide +kernel)) rfl
theorem wx_stringRef_615 : Cond.stringRef RX5 157 "may not enter" ∈ lw_tbl := List.mem_of_getElem? (i := 615) (by decide +kernel)
theorem wML_X5_159 : Cond.methodLink RX5 159 yX1_queueUp ∈ gTb := gm (List.mem_of_getElem? (i := 616) (by decide +kernel)) rfl
theorem wIM_X1_queueUp : Cond.instanceMethod yX1_queueUp ∈ gTb := gm (List.mem_of_getElem? (i := 617) (by decide +kernel)) rfl
theorem wSE_X1_X1_queueUp : Cond.selects RX1 yX1_queueUp yX1_queueUp ∈ gTb := gm (List.mem_of_getElem? (i := 618) (by decide +kernel)) rfl
theorem wCO_X1_queueUp : Cond.code yX1_queueUp cX1_queueUp 2 none ∈ gTb := gm (List.mem_of_getElem? (i := 619) (by decide +kernel)) rfl
theorem wML_X1_40 : Cond.methodLink RX1 40 yX1_waitingMembers ∈ gTb := gm (List.mem_of_getElem? (i := 620) (by decide +kernel)) rfl
theorem wIM_X1_waitingMembers : Cond.instanceMethod yX1_waitingMembers ∈ gTb := gm (List.mem_of_getElem? (i := 622) (by decide +kernel)) rfl
theorem wCO_X1_waitingMembers : Cond.code yX1_waitingMembers cX1_waitingMembers 2 (Option.some Jvm.ClassFile.FieldType.int) ∈ gTb := gm (List.mem_of_getElem? (i := 623) (by decide +kernel)) rfl
theorem wML_X1_51 : Cond.methodLink RX1 51 yJx4a65c_size_8abf5 ∈ gTb := gm (List.mem_of_getElem? (i := 624) (by decide +kernel)) rfl
theorem wML_X1_54 : Cond.methodLink RX1 54 yJx4a65c_get_915e3 ∈ gTb := gm (List.mem_of_getElem? (i := 625) (by decide +kernel)) rfl
theorem wCL_X1_29 : Cond.classLink RX1 29 RX2 ∈ gTb := gm (List.mem_of_getElem? (i := 626) (by decide +kernel)) rfl
theorem wML_X1_44 : Cond.methodLink RX1 44 yJx4a65c_add_7a177 ∈ gTb := gm (List.mem_of_getElem? (i := 627) (by decide +kernel)) rfl
theorem wIM_Jx4a65c_add_7a177 : Cond.instanceMethod yJx4a65c_add_7a177 ∈ gTb := gm (List.mem_of_getElem? (i := 628) (by decide +kernel)) rfl
theorem wSE_Jx4a65c_Jx4a65c_add_7a177 : Cond.selects RJx4a65c yJx4a65c_add_7a177 yJx4a65c_add_7a177 ∈ gTb := gm (List.mem_of_getElem? (i := 629) (by decide +kernel)) rfl
theorem wCO_Jx4a65c_add_7a177 : Cond.code yJx4a65c_add_7a177 cJx4a65c_add_7a177 5 none ∈ gTb := gm (List.mem_of_getElem? (i := 630) (by decide +kernel)) rfl
theorem wML_Jx4a65c_135 : Cond.methodLink RJx4a65c 135 yJx4a65c_rangeCheckForAdd_d00df ∈ gTb := gm (List.mem_of_getElem? (i := 631) (by decide +kernel)) rfl
theorem wIM_Jx4a65c_rangeCheckForAdd_d00df : Cond.instanceMethod yJx4a65c_rangeCheckForAdd_d00df ∈ gTb := gm (List.mem_of_getElem? (i := 633) (by decide +kernel)) rfl
theorem wCO_Jx4a65c_rangeCheckForAdd_d00df : Cond.code yJx4a65c_rangeCheckForAdd_d00df cJx4a65c_rangeCheckForAdd_d00df 2 none ∈ gTb := gm (List.mem_of_getElem? (i := 634) (by decide +kernel)) rfl
theorem wCL_Jx4a65c_187 : Cond.classLink RJx4a65c 187 "java/lang/IndexOutOfBoundsException" ∈ gTb := gm (List.mem_of_getElem? (i := 635) (by decide +kernel)) rfl
theorem wML_Jx4a65c_198 : Cond.methodLink RJx4a65c 198 yJx4a65c_outOfBoundsMsg_b52d3 ∈ gTb := gm (List.mem_of_getElem? (i := 636) (by decide +kernel)) rfl
theorem wIM_Jx4a65c_outOfBoundsMsg_b52d3 : Cond.instanceMethod yJx4a65c_outOfBoundsMsg_b52d3 ∈ gTb := gm (List.mem_of_getElem? (i := 638) (by decide +kernel)) rfl
theorem wCO_Jx4a65c_outOfBoundsMsg_b52d3 : Cond.code yJx4a65c_outOfBoundsMsg_b52d3 cJx4a65c_outOfBoundsMsg_b52d3 2 (Option.some (Jvm.ClassFile.FieldType.object "java/lang/String")) ∈ gTb := gm (List.mem_of_getElem? (i := 639) (by decide +kernel)) rfl
theorem wCL_Jx4a65c_20 : Cond.classLink RJx4a65c 20 RJ4 ∈ gTb := gm (List.mem_of_getElem? (i := 640) (by decide +kernel)) rfl
theorem wIS_J4 : Cond.instantiable RJ4 4 ∈ gTb := gm (List.mem_of_getElem? (i := 641) (by decide +kernel)) rfl
theorem wML_Jx4a65c_22 : Cond.methodLink RJx4a65c 22 yJ4_init_da8c8 ∈ gTb := gm (List.mem_of_getElem? (i := 642) (by decide +kernel)) rfl
theorem wIM_J4_init_da8c8 : Cond.instanceMethod yJ4_init_da8c8 ∈ gTb := gm (List.mem_of_getElem? (i := 643) (by decide +kernel)) rfl
theorem wCO_J4_init_da8c8 : Cond.code yJ4_init_da8c8 cJ4_init_da8c8 1 none ∈ gTb := gm (List.mem_of_getElem? (i := 644) (by decide +kernel)) rfl
theorem wML_J4_1 : Cond.methodLink RJ4 1 yJ5_init_d00df ∈ gTb := gm (List.mem_of_getElem? (i := 645) (by decide +kernel)) rfl
theorem wIM_J5_init_d00df : Cond.instanceMethod yJ5_init_d00df ∈ gTb := gm (List.mem_of_getElem? (i := 646) (by decide +kernel)) rfl
theorem wCO_J5_init_d00df : Cond.code yJ5_init_d00df cJ5_init_d00df 2 none ∈ gTb := gm (List.mem_of_getElem? (i := 647) (by decide +kernel)) rfl
theorem wML_J5_3 : Cond.methodLink RJ5 3 objectInit ∈ gTb := gm (List.mem_of_getElem? (i := 648) (by decide +kernel)) rfl
theorem wFL_J5_18 : Cond.fieldLink RJ5 18 RJ0 "COMPACT_STRINGS" "Z" ∈ gTb := gm (List.mem_of_getElem? (i := 649) (by decide +kernel)) rfl
theorem wx_laysStatic_650 : Cond.laysStatic RJ0 "COMPACT_STRINGS" "Z" ∈ lw_tbl := List.mem_of_getElem? (i := 650) (by decide +kernel)
theorem wML_J5_26 : Cond.methodLink RJ5 26 yJ2_newBytesFor_77867 ∈ gTb := gm (List.mem_of_getElem? (i := 651) (by decide +kernel)) rfl
theorem wST_J2_newBytesFor_77867 : Cond.static yJ2_newBytesFor_77867 ∈ gTb := gm (List.mem_of_getElem? (i := 652) (by decide +kernel)) rfl
theorem wCO_J2_newBytesFor_77867 : Cond.code yJ2_newBytesFor_77867 cJ2_newBytesFor_77867 1 (Option.some (Jvm.ClassFile.FieldType.array Jvm.ClassFile.FieldType.byte)) ∈ gTb := gm (List.mem_of_getElem? (i := 653) (by decide +kernel)) rfl
theorem wML_J2_11 : Cond.methodLink RJ2 11 yJ2_newBytesLength_0f7a4 ∈ gTb := gm (List.mem_of_getElem? (i := 654) (by decide +kernel)) rfl
theorem wST_J2_newBytesLength_0f7a4 : Cond.static yJ2_newBytesLength_0f7a4 ∈ gTb := gm (List.mem_of_getElem? (i := 655) (by decide +kernel)) rfl
theorem wCO_J2_newBytesLength_0f7a4 : Cond.code yJ2_newBytesLength_0f7a4 cJ2_newBytesLength_0f7a4 1 (Option.some Jvm.ClassFile.FieldType.int) ∈ gTb := gm (List.mem_of_getElem? (i := 656) (by decide +kernel)) rfl
theorem wCN_J2_20 : Cond.constant RJ2 20 (1073741823) ∈ gTb := gm (List.mem_of_getElem? (i := 657) (by decide +kernel)) rfl
theorem wFL_J5_15 : Cond.fieldLink RJ5 15 RJ5 "value" "[B" ∈ gTb := gm (List.mem_of_getElem? (i := 658) (by decide +kernel)) rfl
theorem wFL_J5_22 : Cond.fieldLink RJ5 22 RJ5 "coder" "B" ∈ gTb := gm (List.mem_of_getElem? (i := 659) (by decide +kernel)) rfl
theorem wFL_J0_1048 : Cond.fieldLink RJ0 1048 RJ5 "maybeLatin1" "Z" ∈ gTb := gm (List.mem_of_getElem? (i := 660) (by decide +kernel)) rfl
theorem wFL_J5_79 : Cond.fieldLink RJ5 79 RJ5 "count" "I" ∈ gTb := gm (List.mem_of_getElem? (i := 661) (by decide +kernel)) rfl
theorem wSU_J4 : Cond.superclass RJ4 RJ5 ∈ gTb := gm (List.mem_of_getElem? (i := 670) (by decide +kernel)) rfl
theorem wx_stringRef_671 : Cond.stringRef RJx4a65c 201 "Index: " ∈ lw_tbl := List.mem_of_getElem? (i := 671) (by decide +kernel)
theorem wML_Jx4a65c_25 : Cond.methodLink RJx4a65c 25 yJ4_append_15ec4 ∈ gTb := gm (List.mem_of_getElem? (i := 672) (by decide +kernel)) rfl
theorem wIM_J4_append_15ec4 : Cond.instanceMethod yJ4_append_15ec4 ∈ gTb := gm (List.mem_of_getElem? (i := 673) (by decide +kernel)) rfl
theorem wSE_J4_J4_append_15ec4 : Cond.selects RJ4 yJ4_append_15ec4 yJ4_append_15ec4 ∈ gTb := gm (List.mem_of_getElem? (i := 674) (by decide +kernel)) rfl
theorem wCO_J4_append_15ec4 : Cond.code yJ4_append_15ec4 cJ4_append_15ec4 2 (Option.some (Jvm.ClassFile.FieldType.object "java/lang/StringBuilder")) ∈ gTb := gm (List.mem_of_getElem? (i := 675) (by decide +kernel)) rfl
theorem wML_J4_29 : Cond.methodLink RJ4 29 yJ5_append_cf1ce ∈ gTb := gm (List.mem_of_getElem? (i := 676) (by decide +kernel)) rfl
theorem wIM_J5_append_cf1ce : Cond.instanceMethod yJ5_append_cf1ce ∈ gTb := gm (List.mem_of_getElem? (i := 677) (by decide +kernel)) rfl
theorem wCO_J5_append_cf1ce : Cond.code yJ5_append_cf1ce cJ5_append_cf1ce 3 (Option.some (Jvm.ClassFile.FieldType.object "java/lang/AbstractStringBuilder")) ∈ gTb := gm (List.mem_of_getElem? (i := 678) (by decide +kernel)) rfl
theorem wML_J5_204 : Cond.methodLink RJ5 204 yJ5_appendNull_278bc ∈ gTb := gm (List.mem_of_getElem? (i := 679) (by decide +kernel)) rfl
theorem wIM_J5_appendNull_278bc : Cond.instanceMethod yJ5_appendNull_278bc ∈ gTb := gm (List.mem_of_getElem? (i := 681) (by decide +kernel)) rfl
theorem wCO_J5_appendNull_278bc : Cond.code yJ5_appendNull_278bc cJ5_appendNull_278bc 3 (Option.some (Jvm.ClassFile.FieldType.object "java/lang/AbstractStringBuilder")) ∈ gTb := gm (List.mem_of_getElem? (i := 682) (by decide +kernel)) rfl
theorem wML_J5_100 : Cond.methodLink RJ5 100 yJ5_ensureCapacityInternal_d00df ∈ gTb := gm (List.mem_of_getElem? (i := 683) (by decide +kernel)) rfl
theorem wIM_J5_ensureCapacityInternal_d00df : Cond.instanceMethod yJ5_ensureCapacityInternal_d00df ∈ gTb := gm (List.mem_of_getElem? (i := 685) (by decide +kernel)) rfl
theorem wCO_J5_ensureCapacityInternal_d00df : Cond.code yJ5_ensureCapacityInternal_d00df cJ5_ensureCapacityInternal_d00df 3 none ∈ gTb := gm (List.mem_of_getElem? (i := 686) (by decide +kernel)) rfl
theorem wML_J5_104 : Cond.methodLink RJ5 104 yJ5_newCapacity_0f7a4 ∈ gTb := gm (List.mem_of_getElem? (i := 687) (by decide +kernel)) rfl
theorem wIM_J5_newCapacity_0f7a4 : Cond.instanceMethod yJ5_newCapacity_0f7a4 ∈ gTb := gm (List.mem_of_getElem? (i := 689) (by decide +kernel)) rfl
theorem wCO_J5_newCapacity_0f7a4 : Cond.code yJ5_newCapacity_0f7a4 cJ5_newCapacity_0f7a4 6 (Option.some Jvm.ClassFile.FieldType.int) ∈ gTb := gm (List.mem_of_getElem? (i := 690) (by decide +kernel)) rfl
theorem wML_J5_114 : Cond.methodLink RJ5 114 yJ8_newLength_cabcc ∈ gTb := gm (List.mem_of_getElem? (i := 691) (by decide +kernel)) rfl
theorem wCN_J5_39 : Cond.constant RJ5 39 (2147483647) ∈ gTb := gm (List.mem_of_getElem? (i := 692) (by decide +kernel)) rfl
theorem wML_J5_108 : Cond.methodLink RJ5 108 yJ7_copyOf_9075b ∈ gTb := gm (List.mem_of_getElem? (i := 693) (by decide +kernel)) rfl
theorem wST_J7_copyOf_9075b : Cond.static yJ7_copyOf_9075b ∈ gTb := gm (List.mem_of_getElem? (i := 694) (by decide +kernel)) rfl
theorem wCO_J7_copyOf_9075b : Cond.code yJ7_copyOf_9075b cJ7_copyOf_9075b 3 (Option.some (Jvm.ClassFile.FieldType.array Jvm.ClassFile.FieldType.byte)) ∈ gTb := gm (List.mem_of_getElem? (i := 695) (by decide +kernel)) rfl
theorem wNA_698 : Cond.native ⟨"java/lang/Object", "clone", "()Ljava/lang/Object;"⟩ ∈ gTb := gm (List.mem_of_getElem? (i := 698) (by decide +kernel)) rfl
theorem wx_castable_701 : Cond.castable "[B" RJx8e188 ∈ lw_tbl := List.mem_of_getElem? (i := 701) (by decide +kernel)
theorem wCL_J7_311 : Cond.classLink RJ7 311 "[B" ∈ gTb := gm (List.mem_of_getElem? (i := 702) (by decide +kernel)) rfl
theorem wML_J5_83 : Cond.methodLink RJ5 83 yJ5_isLatin1_aae02 ∈ gTb := gm (List.mem_of_getElem? (i := 703) (by decide +kernel)) rfl
theorem wIM_J5_isLatin1_aae02 : Cond.instanceMethod yJ5_isLatin1_aae02 ∈ gTb := gm (List.mem_of_getElem? (i := 704) (by decide +kernel)) rfl
theorem wSM_J5_isLatin1_705 : Cond.sameMethod RJ5 RJ5 "isLatin1" "()Z" ∈ gTb := gm (List.mem_of_getElem? (i := 705) (by decide +kernel)) rfl
theorem wSE_J4_J5_isLatin1_aae02 : Cond.selects RJ4 yJ5_isLatin1_aae02 yJ5_isLatin1_aae02 ∈ gTb := gm (List.mem_of_getElem? (i := 706) (by decide +kernel)) rfl
theorem wCO_J5_isLatin1_aae02 : Cond.code yJ5_isLatin1_aae02 cJ5_isLatin1_aae02 1 (Option.some Jvm.ClassFile.FieldType.boolean) ∈ gTb := gm (List.mem_of_getElem? (i := 707) (by decide +kernel)) rfl
theorem wML_J5_226 : Cond.methodLink RJ5 226 yJ2_putCharsAt_cd4e5 ∈ gTb := gm (List.mem_of_getElem? (i := 708) (by decide +kernel)) rfl
theorem wST_J2_putCharsAt_cd4e5 : Cond.static yJ2_putCharsAt_cd4e5 ∈ gTb := gm (List.mem_of_getElem? (i := 709) (by decide +kernel)) rfl
theorem wCO_J2_putCharsAt_cd4e5 : Cond.code yJ2_putCharsAt_cd4e5 cJ2_putCharsAt_cd4e5 7 (Option.some Jvm.ClassFile.FieldType.int) ∈ gTb := gm (List.mem_of_getElem? (i := 710) (by decide +kernel)) rfl
theorem wML_J2_96 : Cond.methodLink RJ2 96 yJ2_checkBoundsBeginEnd_d044e ∈ gTb := gm (List.mem_of_getElem? (i := 711) (by decide +kernel)) rfl
theorem wST_J2_checkBoundsBeginEnd_d044e : Cond.static yJ2_checkBoundsBeginEnd_d044e ∈ gTb := gm (List.mem_of_getElem? (i := 712) (by decide +kernel)) rfl
theorem wCO_J2_checkBoundsBeginEnd_d044e : Cond.code yJ2_checkBoundsBeginEnd_d044e cJ2_checkBoundsBeginEnd_d044e 3 none ∈ gTb := gm (List.mem_of_getElem? (i := 713) (by decide +kernel)) rfl
theorem wML_J2_48 : Cond.methodLink RJ2 48 yJ2_length_9d52b ∈ gTb := gm (List.mem_of_getElem? (i := 714) (by decide +kernel)) rfl
theorem wST_J2_length_9d52b : Cond.static yJ2_length_9d52b ∈ gTb := gm (List.mem_of_getElem? (i := 715) (by decide +kernel)) rfl
theorem wCO_J2_length_9d52b : Cond.code yJ2_length_9d52b cJ2_length_9d52b 1 (Option.some Jvm.ClassFile.FieldType.int) ∈ gTb := gm (List.mem_of_getElem? (i := 716) (by decide +kernel)) rfl
theorem wML_J2_241 : Cond.methodLink RJ2 241 yJ0_checkBoundsBeginEnd_23922 ∈ gTb := gm (List.mem_of_getElem? (i := 717) (by decide +kernel)) rfl
theorem wST_J0_checkBoundsBeginEnd_23922 : Cond.static yJ0_checkBoundsBeginEnd_23922 ∈ gTb := gm (List.mem_of_getElem? (i := 718) (by decide +kernel)) rfl
theorem wCO_J0_checkBoundsBeginEnd_23922 : Cond.code yJ0_checkBoundsBeginEnd_23922 cJ0_checkBoundsBeginEnd_23922 3 none ∈ gTb := gm (List.mem_of_getElem? (i := 719) (by decide +kernel)) rfl
theorem wFL_J0_1053 : Cond.fieldLink RJ0 1053 RJ3 "SIOOBE_FORMATTER" "Ljava/util/function/BiFunction;" ∈ gTb := gm (List.mem_of_getElem? (i := 720) (by decide +kernel)) rfl
theorem wx_laysStatic_721 : Cond.laysStatic RJ3 "SIOOBE_FORMATTER" "Ljava/util/function/BiFunction;" ∈ lw_tbl := List.mem_of_getElem? (i := 721) (by decide +kernel)
theorem wML_J0_1062 : Cond.methodLink RJ0 1062 yJ3_checkFromToIndex_8c36e ∈ gTb := gm (List.mem_of_getElem? (i := 722) (by decide +kernel)) rfl
theorem wST_J3_checkFromToIndex_8c36e : Cond.static yJ3_checkFromToIndex_8c36e ∈ gTb := gm (List.mem_of_getElem? (i := 723) (by decide +kernel)) rfl
theorem wCO_J3_checkFromToIndex_8c36e : Cond.code yJ3_checkFromToIndex_8c36e cJ3_checkFromToIndex_8c36e 4 (Option.some Jvm.ClassFile.FieldType.int) ∈ gTb := gm (List.mem_of_getElem? (i := 724) (by decide +kernel)) rfl
theorem wML_J2_111 : Cond.methodLink RJ2 111 yJ2_putChar_b72d1 ∈ gTb := gm (List.mem_of_getElem? (i := 725) (by decide +kernel)) rfl
theorem wST_J2_putChar_b72d1 : Cond.static yJ2_putChar_b72d1 ∈ gTb := gm (List.mem_of_getElem? (i := 726) (by decide +kernel)) rfl
theorem wCO_J2_putChar_b72d1 : Cond.code yJ2_putChar_b72d1 cJ2_putChar_b72d1 3 none ∈ gTb := gm (List.mem_of_getElem? (i := 727) (by decide +kernel)) rfl
theorem wFL_J2_44 : Cond.fieldLink RJ2 44 RJ2 "$assertionsDisabled" "Z" ∈ gTb := gm (List.mem_of_getElem? (i := 728) (by decide +kernel)) rfl
theorem wx_laysStatic_729 : Cond.laysStatic RJ2 "$assertionsDisabled" "Z" ∈ lw_tbl := List.mem_of_getElem? (i := 729) (by decide +kernel)
theorem wFL_J2_59 : Cond.fieldLink RJ2 59 RJ2 "HI_BYTE_SHIFT" "I" ∈ gTb := gm (List.mem_of_getElem? (i := 730) (by decide +kernel)) rfl
theorem wx_laysStatic_731 : Cond.laysStatic RJ2 "HI_BYTE_SHIFT" "I" ∈ lw_tbl := List.mem_of_getElem? (i := 731) (by decide +kernel)
theorem wFL_J2_63 : Cond.fieldLink RJ2 63 RJ2 "LO_BYTE_SHIFT" "I" ∈ gTb := gm (List.mem_of_getElem? (i := 732) (by decide +kernel)) rfl
theorem wx_laysStatic_733 : Cond.laysStatic RJ2 "LO_BYTE_SHIFT" "I" ∈ lw_tbl := List.mem_of_getElem? (i := 733) (by decide +kernel)
theorem wML_J5_32 : Cond.methodLink RJ5 32 yJ0_length_8abf5 ∈ gTb := gm (List.mem_of_getElem? (i := 734) (by decide +kernel)) rfl
theorem wIM_J0_length_8abf5 : Cond.instanceMethod yJ0_length_8abf5 ∈ gTb := gm (List.mem_of_getElem? (i := 735) (by decide +kernel)) rfl
theorem wSE_J0_J0_length_8abf5 : Cond.selects RJ0 yJ0_length_8abf5 yJ0_length_8abf5 ∈ gTb := gm (List.mem_of_getElem? (i := 736) (by decide +kernel)) rfl
theorem wCO_J0_length_8abf5 : Cond.code yJ0_length_8abf5 cJ0_length_8abf5 1 (Option.some Jvm.ClassFile.FieldType.int) ∈ gTb := gm (List.mem_of_getElem? (i := 737) (by decide +kernel)) rfl
theorem wML_J0_335 : Cond.methodLink RJ0 335 yJ0_coder_7d493 ∈ gTb := gm (List.mem_of_getElem? (i := 738) (by decide +kernel)) rfl
theorem wIM_J0_coder_7d493 : Cond.instanceMethod yJ0_coder_7d493 ∈ gTb := gm (List.mem_of_getElem? (i := 739) (by decide +kernel)) rfl
theorem wSE_J0_J0_coder_7d493 : Cond.selects RJ0 yJ0_coder_7d493 yJ0_coder_7d493 ∈ gTb := gm (List.mem_of_getElem? (i := 740) (by decide +kernel)) rfl
theorem wCO_J0_coder_7d493 : Cond.code yJ0_coder_7d493 cJ0_coder_7d493 1 (Option.some Jvm.ClassFile.FieldType.byte) ∈ gTb := gm (List.mem_of_getElem? (i := 741) (by decide +kernel)) rfl
theorem wFL_J0_38 : Cond.fieldLink RJ0 38 RJ0 "COMPACT_STRINGS" "Z" ∈ gTb := gm (List.mem_of_getElem? (i := 742) (by decide +kernel)) rfl
theorem wML_J5_208 : Cond.methodLink RJ5 208 yJ5_putStringAt_47b60 ∈ gTb := gm (List.mem_of_getElem? (i := 743) (by decide +kernel)) rfl
theorem wIM_J5_putStringAt_47b60 : Cond.instanceMethod yJ5_putStringAt_47b60 ∈ gTb := gm (List.mem_of_getElem? (i := 745) (by decide +kernel)) rfl
theorem wCO_J5_putStringAt_47b60 : Cond.code yJ5_putStringAt_47b60 cJ5_putStringAt_47b60 3 none ∈ gTb := gm (List.mem_of_getElem? (i := 746) (by decide +kernel)) rfl
theorem wML_J5_397 : Cond.methodLink RJ5 397 yJ5_inflateIfNeededFor_a7421 ∈ gTb := gm (List.mem_of_getElem? (i := 747) (by decide +kernel)) rfl
theorem wIM_J5_inflateIfNeededFor_a7421 : Cond.instanceMethod yJ5_inflateIfNeededFor_a7421 ∈ gTb := gm (List.mem_of_getElem? (i := 749) (by decide +kernel)) rfl
theorem wCO_J5_inflateIfNeededFor_a7421 : Cond.code yJ5_inflateIfNeededFor_a7421 cJ5_inflateIfNeededFor_a7421 2 none ∈ gTb := gm (List.mem_of_getElem? (i := 750) (by decide +kernel)) rfl
theorem wML_J5_40 : Cond.methodLink RJ5 40 yJ0_coder_7d493 ∈ gTb := gm (List.mem_of_getElem? (i := 751) (by decide +kernel)) rfl
theorem wML_J5_195 : Cond.methodLink RJ5 195 yJ5_inflate_da8c8 ∈ gTb := gm (List.mem_of_getElem? (i := 752) (by decide +kernel)) rfl
theorem wIM_J5_inflate_da8c8 : Cond.instanceMethod yJ5_inflate_da8c8 ∈ gTb := gm (List.mem_of_getElem? (i := 754) (by decide +kernel)) rfl
theorem wCO_J5_inflate_da8c8 : Cond.code yJ5_inflate_da8c8 cJ5_inflate_da8c8 2 none ∈ gTb := gm (List.mem_of_getElem? (i := 755) (by decide +kernel)) rfl
theorem wML_J5_125 : Cond.methodLink RJ5 125 yJ1_inflate_0e8fd ∈ gTb := gm (List.mem_of_getElem? (i := 756) (by decide +kernel)) rfl
theorem wST_J1_inflate_0e8fd : Cond.static yJ1_inflate_0e8fd ∈ gTb := gm (List.mem_of_getElem? (i := 757) (by decide +kernel)) rfl
theorem wCO_J1_inflate_0e8fd : Cond.code yJ1_inflate_0e8fd cJ1_inflate_0e8fd 5 none ∈ gTb := gm (List.mem_of_getElem? (i := 758) (by decide +kernel)) rfl
theorem wML_J1_240 : Cond.methodLink RJ1 240 yJ2_inflate_0e8fd ∈ gTb := gm (List.mem_of_getElem? (i := 759) (by decide +kernel)) rfl
theorem wST_J2_inflate_0e8fd : Cond.static yJ2_inflate_0e8fd ∈ gTb := gm (List.mem_of_getElem? (i := 760) (by decide +kernel)) rfl
theorem wCO_J2_inflate_0e8fd : Cond.code yJ2_inflate_0e8fd cJ2_inflate_0e8fd 6 none ∈ gTb := gm (List.mem_of_getElem? (i := 761) (by decide +kernel)) rfl
theorem wML_J2_173 : Cond.methodLink RJ2 173 yJ2_checkBoundsOffCount_d044e ∈ gTb := gm (List.mem_of_getElem? (i := 762) (by decide +kernel)) rfl
theorem wST_J2_checkBoundsOffCount_d044e : Cond.static yJ2_checkBoundsOffCount_d044e ∈ gTb := gm (List.mem_of_getElem? (i := 763) (by decide +kernel)) rfl
theorem wCO_J2_checkBoundsOffCount_d044e : Cond.code yJ2_checkBoundsOffCount_d044e cJ2_checkBoundsOffCount_d044e 3 none ∈ gTb := gm (List.mem_of_getElem? (i := 764) (by decide +kernel)) rfl
theorem wML_J2_419 : Cond.methodLink RJ2 419 yJ0_checkBoundsOffCount_cabcc ∈ gTb := gm (List.mem_of_getElem? (i := 765) (by decide +kernel)) rfl
theorem wST_J0_checkBoundsOffCount_cabcc : Cond.static yJ0_checkBoundsOffCount_cabcc ∈ gTb := gm (List.mem_of_getElem? (i := 766) (by decide +kernel)) rfl
theorem wCO_J0_checkBoundsOffCount_cabcc : Cond.code yJ0_checkBoundsOffCount_cabcc cJ0_checkBoundsOffCount_cabcc 3 (Option.some Jvm.ClassFile.FieldType.int) ∈ gTb := gm (List.mem_of_getElem? (i := 767) (by decide +kernel)) rfl
theorem wML_J0_1065 : Cond.methodLink RJ0 1065 yJ3_checkFromIndexSize_8c36e ∈ gTb := gm (List.mem_of_getElem? (i := 768) (by decide +kernel)) rfl
theorem wST_J3_checkFromIndexSize_8c36e : Cond.static yJ3_checkFromIndexSize_8c36e ∈ gTb := gm (List.mem_of_getElem? (i := 769) (by decide +kernel)) rfl
theorem wCO_J3_checkFromIndexSize_8c36e : Cond.code yJ3_checkFromIndexSize_8c36e cJ3_checkFromIndexSize_8c36e 4 (Option.some Jvm.ClassFile.FieldType.int) ∈ gTb := gm (List.mem_of_getElem? (i := 770) (by decide +kernel)) rfl
theorem wML_J5_399 : Cond.methodLink RJ5 399 yJ0_getBytes_840e7 ∈ gTb := gm (List.mem_of_getElem? (i := 771) (by decide +kernel)) rfl
theorem wIM_J0_getBytes_840e7 : Cond.instanceMethod yJ0_getBytes_840e7 ∈ gTb := gm (List.mem_of_getElem? (i := 772) (by decide +kernel)) rfl
theorem wSE_J0_J0_getBytes_840e7 : Cond.selects RJ0 yJ0_getBytes_840e7 yJ0_getBytes_840e7 ∈ gTb := gm (List.mem_of_getElem? (i := 773) (by decide +kernel)) rfl
theorem wCO_J0_getBytes_840e7 : Cond.code yJ0_getBytes_840e7 cJ0_getBytes_840e7 4 none ∈ gTb := gm (List.mem_of_getElem? (i := 774) (by decide +kernel)) rfl
theorem wML_J0_106 : Cond.methodLink RJ0 106 yJ1_inflate_0e8fd ∈ gTb := gm (List.mem_of_getElem? (i := 776) (by decide +kernel)) rfl
theorem wML_Jx4a65c_29 : Cond.methodLink RJx4a65c 29 yJ4_append_bf812 ∈ gTb := gm (List.mem_of_getElem? (i := 777) (by decide +kernel)) rfl
theorem wIM_J4_append_bf812 : Cond.instanceMethod yJ4_append_bf812 ∈ gTb := gm (List.mem_of_getElem? (i := 778) (by decide +kernel)) rfl
theorem wSE_J4_J4_append_bf812 : Cond.selects RJ4 yJ4_append_bf812 yJ4_append_bf812 ∈ gTb := gm (List.mem_of_getElem? (i := 779) (by decide +kernel)) rfl
theorem wCO_J4_append_bf812 : Cond.code yJ4_append_bf812 cJ4_append_bf812 2 (Option.some (Jvm.ClassFile.FieldType.object "java/lang/StringBuilder")) ∈ gTb := gm (List.mem_of_getElem? (i := 780) (by decide +kernel)) rfl
theorem wML_J4_53 : Cond.methodLink RJ4 53 yJ5_append_c97b9 ∈ gTb := gm (List.mem_of_getElem? (i := 781) (by decide +kernel)) rfl
theorem wIM_J5_append_c97b9 : Cond.instanceMethod yJ5_append_c97b9 ∈ gTb := gm (List.mem_of_getElem? (i := 782) (by decide +kernel)) rfl
theorem wCO_J5_append_c97b9 : Cond.code yJ5_append_c97b9 cJ5_append_c97b9 4 (Option.some (Jvm.ClassFile.FieldType.object "java/lang/AbstractStringBuilder")) ∈ gTb := gm (List.mem_of_getElem? (i := 783) (by decide +kernel)) rfl
theorem wML_J5_245 : Cond.methodLink RJ5 245 yJ6_stringSize_0f7a4 ∈ gTb := gm (List.mem_of_getElem? (i := 784) (by decide +kernel)) rfl
theorem wST_J6_stringSize_0f7a4 : Cond.static yJ6_stringSize_0f7a4 ∈ gTb := gm (List.mem_of_getElem? (i := 785) (by decide +kernel)) rfl
theorem wCO_J6_stringSize_0f7a4 : Cond.code yJ6_stringSize_0f7a4 cJ6_stringSize_0f7a4 4 (Option.some Jvm.ClassFile.FieldType.int) ∈ gTb := gm (List.mem_of_getElem? (i := 786) (by decide +kernel)) rfl
theorem wML_J5_248 : Cond.methodLink RJ5 248 yJ6_getChars_ba4f3 ∈ gTb := gm (List.mem_of_getElem? (i := 787) (by decide +kernel)) rfl
theorem wST_J6_getChars_ba4f3 : Cond.static yJ6_getChars_ba4f3 ∈ gTb := gm (List.mem_of_getElem? (i := 788) (by decide +kernel)) rfl
theorem wCO_J6_getChars_ba4f3 : Cond.code yJ6_getChars_ba4f3 cJ6_getChars_ba4f3 7 (Option.some Jvm.ClassFile.FieldType.int) ∈ gTb := gm (List.mem_of_getElem? (i := 789) (by decide +kernel)) rfl
theorem wFL_J6_83 : Cond.fieldLink RJ6 83 RJ6 "DigitOnes" "[B" ∈ gTb := gm (List.mem_of_getElem? (i := 790) (by decide +kernel)) rfl
theorem wx_laysStatic_791 : Cond.laysStatic RJ6 "DigitOnes" "[B" ∈ lw_tbl := List.mem_of_getElem? (i := 791) (by decide +kernel)
theorem wFL_J6_87 : Cond.fieldLink RJ6 87 RJ6 "DigitTens" "[B" ∈ gTb := gm (List.mem_of_getElem? (i := 792) (by decide +kernel)) rfl
theorem wx_laysStatic_793 : Cond.laysStatic RJ6 "DigitTens" "[B" ∈ lw_tbl := List.mem_of_getElem? (i := 793) (by decide +kernel)
theorem wML_J5_251 : Cond.methodLink RJ5 251 yJ2_getChars_46870 ∈ gTb := gm (List.mem_of_getElem? (i := 794) (by decide +kernel)) rfl
theorem wST_J2_getChars_46870 : Cond.static yJ2_getChars_46870 ∈ gTb := gm (List.mem_of_getElem? (i := 795) (by decide +kernel)) rfl
theorem wCO_J2_getChars_46870 : Cond.code yJ2_getChars_46870 cJ2_getChars_46870 5 (Option.some Jvm.ClassFile.FieldType.int) ∈ gTb := gm (List.mem_of_getElem? (i := 796) (by decide +kernel)) rfl
theorem wML_J2_393 : Cond.methodLink RJ2 393 yJ2_getChars_ba4f3 ∈ gTb := gm (List.mem_of_getElem? (i := 797) (by decide +kernel)) rfl
theorem wST_J2_getChars_ba4f3 : Cond.static yJ2_getChars_ba4f3 ∈ gTb := gm (List.mem_of_getElem? (i := 798) (by decide +kernel)) rfl
theorem wCO_J2_getChars_ba4f3 : Cond.code yJ2_getChars_ba4f3 cJ2_getChars_ba4f3 7 (Option.some Jvm.ClassFile.FieldType.int) ∈ gTb := gm (List.mem_of_getElem? (i := 799) (by decide +kernel)) rfl
theorem wFL_J2_403 : Cond.fieldLink RJ2 403 RJ6 "DigitOnes" "[B" ∈ gTb := gm (List.mem_of_getElem? (i := 800) (by decide +kernel)) rfl
theorem wFL_J2_407 : Cond.fieldLink RJ2 407 RJ6 "DigitTens" "[B" ∈ gTb := gm (List.mem_of_getElem? (i := 801) (by decide +kernel)) rfl
theorem wx_stringRef_802 : Cond.stringRef RJx4a65c 203 ", Size: " ∈ lw_tbl := List.mem_of_getElem? (i := 802) (by decide +kernel)
theorem wML_Jx4a65c_32 : Cond.methodLink RJx4a65c 32 yJ4_toString_0e30d ∈ gTb := gm (List.mem_of_getElem? (i := 803) (by decide +kernel)) rfl
theorem wIM_J4_toString_0e30d : Cond.instanceMethod yJ4_toString_0e30d ∈ gTb := gm (List.mem_of_getElem? (i := 804) (by decide +kernel)) rfl
theorem wSE_J4_J4_toString_0e30d : Cond.selects RJ4 yJ4_toString_0e30d yJ4_toString_0e30d ∈ gTb := gm (List.mem_of_getElem? (i := 805) (by decide +kernel)) rfl
theorem wCO_J4_toString_0e30d : Cond.code yJ4_toString_0e30d cJ4_toString_0e30d 1 (Option.some (Jvm.ClassFile.FieldType.object "java/lang/String")) ∈ gTb := gm (List.mem_of_getElem? (i := 806) (by decide +kernel)) rfl
theorem wCL_J4_18 : Cond.classLink RJ4 18 RJ0 ∈ gTb := gm (List.mem_of_getElem? (i := 807) (by decide +kernel)) rfl
theorem wIS_J0 : Cond.instantiable RJ0 4 ∈ gTb := gm (List.mem_of_getElem? (i := 808) (by decide +kernel)) rfl
theorem wML_J4_137 : Cond.methodLink RJ4 137 yJ0_init_81219 ∈ gTb := gm (List.mem_of_getElem? (i := 809) (by decide +kernel)) rfl
theorem wIM_J0_init_81219 : Cond.instanceMethod yJ0_init_81219 ∈ gTb := gm (List.mem_of_getElem? (i := 810) (by decide +kernel)) rfl
theorem wCO_J0_init_81219 : Cond.code yJ0_init_81219 cJ0_init_81219 2 none ∈ gTb := gm (List.mem_of_getElem? (i := 811) (by decide +kernel)) rfl
theorem wML_J0_489 : Cond.methodLink RJ0 489 yJ0_init_db425 ∈ gTb := gm (List.mem_of_getElem? (i := 812) (by decide +kernel)) rfl
theorem wIM_J0_init_db425 : Cond.instanceMethod yJ0_init_db425 ∈ gTb := gm (List.mem_of_getElem? (i := 813) (by decide +kernel)) rfl
theorem wCO_J0_init_db425 : Cond.code yJ0_init_db425 cJ0_init_db425 5 none ∈ gTb := gm (List.mem_of_getElem? (i := 814) (by decide +kernel)) rfl
theorem wML_J0_1 : Cond.methodLink RJ0 1 objectInit ∈ gTb := gm (List.mem_of_getElem? (i := 815) (by decide +kernel)) rfl
theorem wML_J0_552 : Cond.methodLink RJ0 552 yJ5_getValue_6d5f1 ∈ gTb := gm (List.mem_of_getElem? (i := 816) (by decide +kernel)) rfl
theorem wIM_J5_getValue_6d5f1 : Cond.instanceMethod yJ5_getValue_6d5f1 ∈ gTb := gm (List.mem_of_getElem? (i := 817) (by decide +kernel)) rfl
theorem wSM_J5_getValue_818 : Cond.sameMethod RJ5 RJ5 "getValue" "()[B" ∈ gTb := gm (List.mem_of_getElem? (i := 818) (by decide +kernel)) rfl
theorem wSE_J4_J5_getValue_6d5f1 : Cond.selects RJ4 yJ5_getValue_6d5f1 yJ5_getValue_6d5f1 ∈ gTb := gm (List.mem_of_getElem? (i := 819) (by decide +kernel)) rfl
theorem wCO_J5_getValue_6d5f1 : Cond.code yJ5_getValue_6d5f1 cJ5_getValue_6d5f1 1 (Option.some (Jvm.ClassFile.FieldType.array Jvm.ClassFile.FieldType.byte)) ∈ gTb := gm (List.mem_of_getElem? (i := 820) (by decide +kernel)) rfl
theorem wML_J0_549 : Cond.methodLink RJ0 549 yJ5_length_8abf5 ∈ gTb := gm (List.mem_of_getElem? (i := 821) (by decide +kernel)) rfl
theorem wIM_J5_length_8abf5 : Cond.instanceMethod yJ5_length_8abf5 ∈ gTb := gm (List.mem_of_getElem? (i := 822) (by decide +kernel)) rfl
theorem wSM_J5_length_823 : Cond.sameMethod RJ5 RJ5 "length" "()I" ∈ gTb := gm (List.mem_of_getElem? (i := 823) (by decide +kernel)) rfl
theorem wSX_J4_J4_length_8abf5 : Cond.selects RJ4 yJ5_length_8abf5 yJ4_length_8abf5 ∈ gTb := gm (List.mem_of_getElem? (i := 824) (by decide +kernel)) rfl
theorem wIM_J4_length_8abf5 : Cond.instanceMethod yJ4_length_8abf5 ∈ gTb := gm (List.mem_of_getElem? (i := 825) (by decide +kernel)) rfl
theorem wCO_J4_length_8abf5 : Cond.code yJ4_length_8abf5 cJ4_length_8abf5 1 (Option.some Jvm.ClassFile.FieldType.int) ∈ gTb := gm (List.mem_of_getElem? (i := 826) (by decide +kernel)) rfl
theorem wML_J4_343 : Cond.methodLink RJ4 343 yJ5_length_8abf5 ∈ gTb := gm (List.mem_of_getElem? (i := 827) (by decide +kernel)) rfl
theorem wCO_J5_length_8abf5 : Cond.code yJ5_length_8abf5 cJ5_length_8abf5 1 (Option.some Jvm.ClassFile.FieldType.int) ∈ gTb := gm (List.mem_of_getElem? (i := 828) (by decide +kernel)) rfl
theorem wML_J0_1047 : Cond.methodLink RJ0 1047 yJ5_isLatin1_aae02 ∈ gTb := gm (List.mem_of_getElem? (i := 829) (by decide +kernel)) rfl
theorem wML_J0_54 : Cond.methodLink RJ0 54 yJ7_copyOfRange_39247 ∈ gTb := gm (List.mem_of_getElem? (i := 830) (by decide +kernel)) rfl
theorem wST_J7_copyOfRange_39247 : Cond.static yJ7_copyOfRange_39247 ∈ gTb := gm (List.mem_of_getElem? (i := 831) (by decide +kernel)) rfl
theorem wCO_J7_copyOfRange_39247 : Cond.code yJ7_copyOfRange_39247 cJ7_copyOfRange_39247 3 (Option.some (Jvm.ClassFile.FieldType.array Jvm.ClassFile.FieldType.byte)) ∈ gTb := gm (List.mem_of_getElem? (i := 832) (by decide +kernel)) rfl
theorem wML_J7_339 : Cond.methodLink RJ7 339 yJ7_copyOfRangeByte_39247 ∈ gTb := gm (List.mem_of_getElem? (i := 833) (by decide +kernel)) rfl
theorem wST_J7_copyOfRangeByte_39247 : Cond.static yJ7_copyOfRangeByte_39247 ∈ gTb := gm (List.mem_of_getElem? (i := 834) (by decide +kernel)) rfl
theorem wCO_J7_copyOfRangeByte_39247 : Cond.code yJ7_copyOfRangeByte_39247 cJ7_copyOfRangeByte_39247 5 (Option.some (Jvm.ClassFile.FieldType.array Jvm.ClassFile.FieldType.byte)) ∈ gTb := gm (List.mem_of_getElem? (i := 835) (by decide +kernel)) rfl
theorem wML_J7_343 : Cond.methodLink RJ7 343 yJ7_checkLength_df160 ∈ gTb := gm (List.mem_of_getElem? (i := 836) (by decide +kernel)) rfl
theorem wST_J7_checkLength_df160 : Cond.static yJ7_checkLength_df160 ∈ gTb := gm (List.mem_of_getElem? (i := 837) (by decide +kernel)) rfl
theorem wCO_J7_checkLength_df160 : Cond.code yJ7_checkLength_df160 cJ7_checkLength_df160 2 none ∈ gTb := gm (List.mem_of_getElem? (i := 838) (by decide +kernel)) rfl
theorem wCL_J7_43 : Cond.classLink RJ7 43 "java/lang/IllegalArgumentException" ∈ gTb := gm (List.mem_of_getElem? (i := 839) (by decide +kernel)) rfl
theorem wCL_J7_45 : Cond.classLink RJ7 45 RJ4 ∈ gTb := gm (List.mem_of_getElem? (i := 840) (by decide +kernel)) rfl
theorem wML_J7_47 : Cond.methodLink RJ7 47 yJ4_init_da8c8 ∈ gTb := gm (List.mem_of_getElem? (i := 841) (by decide +kernel)) rfl
theorem wML_J7_54 : Cond.methodLink RJ7 54 yJ4_append_bf812 ∈ gTb := gm (List.mem_of_getElem? (i := 842) (by decide +kernel)) rfl
theorem wx_stringRef_843 : Cond.stringRef RJ7 337 " > " ∈ lw_tbl := List.mem_of_getElem? (i := 843) (by decide +kernel)
theorem wML_J7_50 : Cond.methodLink RJ7 50 yJ4_append_15ec4 ∈ gTb := gm (List.mem_of_getElem? (i := 844) (by decide +kernel)) rfl
theorem wML_J7_61 : Cond.methodLink RJ7 61 yJ4_toString_0e30d ∈ gTb := gm (List.mem_of_getElem? (i := 845) (by decide +kernel)) rfl
theorem wML_J0_1051 : Cond.methodLink RJ0 1051 yJ2_compress_39247 ∈ gTb := gm (List.mem_of_getElem? (i := 847) (by decide +kernel)) rfl
theorem wST_J2_compress_39247 : Cond.static yJ2_compress_39247 ∈ gTb := gm (List.mem_of_getElem? (i := 848) (by decide +kernel)) rfl
theorem wCO_J2_compress_39247 : Cond.code yJ2_compress_39247 cJ2_compress_39247 6 (Option.some (Jvm.ClassFile.FieldType.array Jvm.ClassFile.FieldType.byte)) ∈ gTb := gm (List.mem_of_getElem? (i := 849) (by decide +kernel)) rfl
theorem wML_J2_123 : Cond.methodLink RJ2 123 yJ2_compress_5af95 ∈ gTb := gm (List.mem_of_getElem? (i := 850) (by decide +kernel)) rfl
theorem wST_J2_compress_5af95 : Cond.static yJ2_compress_5af95 ∈ gTb := gm (List.mem_of_getElem? (i := 851) (by decide +kernel)) rfl
theorem wCO_J2_compress_5af95 : Cond.code yJ2_compress_5af95 cJ2_compress_5af95 7 (Option.some Jvm.ClassFile.FieldType.int) ∈ gTb := gm (List.mem_of_getElem? (i := 852) (by decide +kernel)) rfl
theorem wML_J2_71 : Cond.methodLink RJ2 71 yJ2_getChar_3b067 ∈ gTb := gm (List.mem_of_getElem? (i := 853) (by decide +kernel)) rfl
theorem wST_J2_getChar_3b067 : Cond.static yJ2_getChar_3b067 ∈ gTb := gm (List.mem_of_getElem? (i := 854) (by decide +kernel)) rfl
theorem wCO_J2_getChar_3b067 : Cond.code yJ2_getChar_3b067 cJ2_getChar_3b067 2 (Option.some Jvm.ClassFile.FieldType.char) ∈ gTb := gm (List.mem_of_getElem? (i := 855) (by decide +kernel)) rfl
theorem wML_J2_126 : Cond.methodLink RJ2 126 yJ7_copyOfRange_39247 ∈ gTb := gm (List.mem_of_getElem? (i := 856) (by decide +kernel)) rfl
theorem wML_J0_47 : Cond.methodLink RJ0 47 yJ2_coderFromArrayLen_85cad ∈ gTb := gm (List.mem_of_getElem? (i := 857) (by decide +kernel)) rfl
theorem wST_J2_coderFromArrayLen_85cad : Cond.static yJ2_coderFromArrayLen_85cad ∈ gTb := gm (List.mem_of_getElem? (i := 858) (by decide +kernel)) rfl
theorem wCO_J2_coderFromArrayLen_85cad : Cond.code yJ2_coderFromArrayLen_85cad cJ2_coderFromArrayLen_85cad 2 (Option.some Jvm.ClassFile.FieldType.byte) ∈ gTb := gm (List.mem_of_getElem? (i := 859) (by decide +kernel)) rfl
theorem wFL_J0_9 : Cond.fieldLink RJ0 9 RJ0 "value" "[B" ∈ gTb := gm (List.mem_of_getElem? (i := 860) (by decide +kernel)) rfl
theorem wFL_J0_15 : Cond.fieldLink RJ0 15 RJ0 "coder" "B" ∈ gTb := gm (List.mem_of_getElem? (i := 861) (by decide +kernel)) rfl
theorem wSU_J0 : Cond.superclass RJ0 "java/lang/Object" ∈ gTb := gm (List.mem_of_getElem? (i := 870) (by decide +kernel)) rfl
theorem wML_X1_48 : Cond.methodLink RX1 48 yJx4a65c_add_9ea2d ∈ gTb := gm (List.mem_of_getElem? (i := 872) (by decide +kernel)) rfl
theorem wML_L_132 : Cond.methodLink RL 132 yL_goOut ∈ gTb := gm (List.mem_of_getElem? (i := 873) (by decide +kernel)) rfl
theorem wST_L_goOut : Cond.static yL_goOut ∈ gTb := gm (List.mem_of_getElem? (i := 874) (by decide +kernel)) rfl
theorem wML_L_43 : Cond.methodLink RL 43 yX5_goOut ∈ gTb := gm (List.mem_of_getElem? (i := 876) (by decide +kernel)) rfl
theorem wIM_X5_goOut : Cond.instanceMethod yX5_goOut ∈ gTb := gm (List.mem_of_getElem? (i := 877) (by decide +kernel)) rfl
theorem wSE_X5_X5_goOut : Cond.selects RX5 yX5_goOut yX5_goOut ∈ gTb := gm (List.mem_of_getElem? (i := 878) (by decide +kernel)) rfl
theorem wCO_X5_goOut : Cond.code yX5_goOut cX5_goOut 4 (Option.some Jvm.ClassFile.FieldType.int) ∈ gTb := gm (List.mem_of_getElem? (i := 879) (by decide +kernel)) rfl
theorem wx_stringRef_880 : Cond.stringRef RX5 162 "in no room and in no queue" ∈ lw_tbl := List.mem_of_getElem? (i := 880) (by decide +kernel)
theorem wML_X5_164 : Cond.methodLink RX5 164 yX1_leaveQueue ∈ gTb := gm (List.mem_of_getElem? (i := 881) (by decide +kernel)) rfl
theorem wIM_X1_leaveQueue : Cond.instanceMethod yX1_leaveQueue ∈ gTb := gm (List.mem_of_getElem? (i := 882) (by decide +kernel)) rfl
theorem wSE_X1_X1_leaveQueue : Cond.selects RX1 yX1_leaveQueue yX1_leaveQueue ∈ gTb := gm (List.mem_of_getElem? (i := 883) (by decide +kernel)) rfl
theorem wCO_X1_leaveQueue : Cond.code yX1_leaveQueue cX1_leaveQueue 3 none ∈ gTb := gm (List.mem_of_getElem? (i := 884) (by decide +kernel)) rfl
theorem wML_X1_58 : Cond.methodLink RX1 58 yJx4a65c_remove_915e3 ∈ gTb := gm (List.mem_of_getElem? (i := 885) (by decide +kernel)) rfl
theorem wML_L_135 : Cond.methodLink RL 135 yL_addWork ∈ gTb := gm (List.mem_of_getElem? (i := 886) (by decide +kernel)) rfl
theorem wST_L_addWork : Cond.static yL_addWork ∈ gTb := gm (List.mem_of_getElem? (i := 887) (by decide +kernel)) rfl
theorem wML_L_46 : Cond.methodLink RL 46 yX5_addWork ∈ gTb := gm (List.mem_of_getElem? (i := 889) (by decide +kernel)) rfl
theorem wIM_X5_addWork : Cond.instanceMethod yX5_addWork ∈ gTb := gm (List.mem_of_getElem? (i := 890) (by decide +kernel)) rfl
theorem wSE_X5_X5_addWork : Cond.selects RX5 yX5_addWork yX5_addWork ∈ gTb := gm (List.mem_of_getElem? (i := 891) (by decide +kernel)) rfl
theorem wCO_X5_addWork : Cond.code yX5_addWork cX5_addWork 4 (Option.some Jvm.ClassFile.FieldType.int) ∈ gTb := gm (List.mem_of_getElem? (i := 892) (by decide +kernel)) rfl
theorem wx_stringRef_893 : Cond.stringRef RX5 177 "no more works" ∈ lw_tbl := List.mem_of_getElem? (i := 893) (by decide +kernel)
theorem wIS_X4 : Cond.instantiable RX4 8 ∈ gTb := gm (List.mem_of_getElem? (i := 894) (by decide +kernel)) rfl
theorem wML_X5_181 : Cond.methodLink RX5 181 yX4_init ∈ gTb := gm (List.mem_of_getElem? (i := 895) (by decide +kernel)) rfl
theorem wIM_X4_init : Cond.instanceMethod yX4_init ∈ gTb := gm (List.mem_of_getElem? (i := 896) (by decide +kernel)) rfl
theorem wCO_X4_init : Cond.code yX4_init cX4_init 3 none ∈ gTb := gm (List.mem_of_getElem? (i := 897) (by decide +kernel)) rfl
theorem wML_X4_3 : Cond.methodLink RX4 3 objectInit ∈ gTb := gm (List.mem_of_getElem? (i := 898) (by decide +kernel)) rfl
theorem wFL_X4_15 : Cond.fieldLink RX4 15 RX4 "number" "I" ∈ gTb := gm (List.mem_of_getElem? (i := 899) (by decide +kernel)) rfl
theorem wFL_X5_188 : Cond.fieldLink RX5 188 RX4 "number" "I" ∈ gTb := gm (List.mem_of_getElem? (i := 900) (by decide +kernel)) rfl
theorem wFL_X4_23 : Cond.fieldLink RX4 23 RX4 "house" "I" ∈ gTb := gm (List.mem_of_getElem? (i := 901) (by decide +kernel)) rfl
theorem wFL_X5_199 : Cond.fieldLink RX5 199 RX4 "house" "I" ∈ gTb := gm (List.mem_of_getElem? (i := 902) (by decide +kernel)) rfl
theorem wFL_X4_25 : Cond.fieldLink RX4 25 RX4 "room" "I" ∈ gTb := gm (List.mem_of_getElem? (i := 903) (by decide +kernel)) rfl
theorem wFL_X5_193 : Cond.fieldLink RX5 193 RX4 "room" "I" ∈ gTb := gm (List.mem_of_getElem? (i := 904) (by decide +kernel)) rfl
theorem wFL_X5_196 : Cond.fieldLink RX5 196 RX4 "isLent" "Z" ∈ gTb := gm (List.mem_of_getElem? (i := 905) (by decide +kernel)) rfl
theorem wFL_X5_202 : Cond.fieldLink RX5 202 RX4 "fee" "I" ∈ gTb := gm (List.mem_of_getElem? (i := 906) (by decide +kernel)) rfl
theorem wFL_X5_205 : Cond.fieldLink RX5 205 RX4 "loanFees" "I" ∈ gTb := gm (List.mem_of_getElem? (i := 907) (by decide +kernel)) rfl
theorem wFL_X4_9 : Cond.fieldLink RX4 9 RX4 "share" "I" ∈ gTb := gm (List.mem_of_getElem? (i := 908) (by decide +kernel)) rfl
theorem wFL_X5_210 : Cond.fieldLink RX5 210 RX4 "share" "I" ∈ gTb := gm (List.mem_of_getElem? (i := 909) (by decide +kernel)) rfl
theorem wFL_X5_239 : Cond.fieldLink RX5 239 RX4 "timesSeen" "I" ∈ gTb := gm (List.mem_of_getElem? (i := 910) (by decide +kernel)) rfl
theorem wSU_X4 : Cond.superclass RX4 "java/lang/Object" ∈ gTb := gm (List.mem_of_getElem? (i := 927) (by decide +kernel)) rfl
theorem wML_L_138 : Cond.methodLink RL 138 yL_hang ∈ gTb := gm (List.mem_of_getElem? (i := 928) (by decide +kernel)) rfl
theorem wST_L_hang : Cond.static yL_hang ∈ gTb := gm (List.mem_of_getElem? (i := 929) (by decide +kernel)) rfl
theorem wML_L_49 : Cond.methodLink RL 49 yX5_hang ∈ gTb := gm (List.mem_of_getElem? (i := 931) (by decide +kernel)) rfl
theorem wIM_X5_hang : Cond.instanceMethod yX5_hang ∈ gTb := gm (List.mem_of_getElem? (i := 932) (by decide +kernel)) rfl
theorem wSE_X5_X5_hang : Cond.selects RX5 yX5_hang yX5_hang ∈ gTb := gm (List.mem_of_getElem? (i := 933) (by decide +kernel)) rfl
theorem wCO_X5_hang : Cond.code yX5_hang cX5_hang 6 (Option.some Jvm.ClassFile.FieldType.int) ∈ gTb := gm (List.mem_of_getElem? (i := 934) (by decide +kernel)) rfl
theorem wML_X5_189 : Cond.methodLink RX5 189 yX5_workAt ∈ gTb := gm (List.mem_of_getElem? (i := 935) (by decide +kernel)) rfl
theorem wIM_X5_workAt : Cond.instanceMethod yX5_workAt ∈ gTb := gm (List.mem_of_getElem? (i := 937) (by decide +kernel)) rfl
theorem wCO_X5_workAt : Cond.code yX5_workAt cX5_workAt 2 (Option.some (Jvm.ClassFile.FieldType.object "MuseumTill$Work")) ∈ gTb := gm (List.mem_of_getElem? (i := 938) (by decide +kernel)) rfl
theorem wx_stringRef_939 : Cond.stringRef RX5 295 "no such work" ∈ lw_tbl := List.mem_of_getElem? (i := 939) (by decide +kernel)
theorem wx_stringRef_940 : Cond.stringRef RX5 194 "another house" ∈ lw_tbl := List.mem_of_getElem? (i := 940) (by decide +kernel)
theorem wML_L_141 : Cond.methodLink RL 141 yL_lend ∈ gTb := gm (List.mem_of_getElem? (i := 941) (by decide +kernel)) rfl
theorem wST_L_lend : Cond.static yL_lend ∈ gTb := gm (List.mem_of_getElem? (i := 942) (by decide +kernel)) rfl
theorem wML_L_52 : Cond.methodLink RL 52 yX5_lend ∈ gTb := gm (List.mem_of_getElem? (i := 944) (by decide +kernel)) rfl
theorem wIM_X5_lend : Cond.instanceMethod yX5_lend ∈ gTb := gm (List.mem_of_getElem? (i := 945) (by decide +kernel)) rfl
theorem wSE_X5_X5_lend : Cond.selects RX5 yX5_lend yX5_lend ∈ gTb := gm (List.mem_of_getElem? (i := 946) (by decide +kernel)) rfl
theorem wCO_X5_lend : Cond.code yX5_lend cX5_lend 6 (Option.some Jvm.ClassFile.FieldType.int) ∈ gTb := gm (List.mem_of_getElem? (i := 947) (by decide +kernel)) rfl
theorem wx_stringRef_948 : Cond.stringRef RX5 200 "lent, or its own house" ∈ lw_tbl := List.mem_of_getElem? (i := 948) (by decide +kernel)
theorem wML_L_145 : Cond.methodLink RL 145 yL_bringHome ∈ gTb := gm (List.mem_of_getElem? (i := 949) (by decide +kernel)) rfl
theorem wST_L_bringHome : Cond.static yL_bringHome ∈ gTb := gm (List.mem_of_getElem? (i := 950) (by decide +kernel)) rfl
theorem wML_L_56 : Cond.methodLink RL 56 yX5_bringHome ∈ gTb := gm (List.mem_of_getElem? (i := 952) (by decide +kernel)) rfl
theorem wIM_X5_bringHome : Cond.instanceMethod yX5_bringHome ∈ gTb := gm (List.mem_of_getElem? (i := 953) (by decide +kernel)) rfl
theorem wSE_X5_X5_bringHome : Cond.selects RX5 yX5_bringHome yX5_bringHome ∈ gTb := gm (List.mem_of_getElem? (i := 954) (by decide +kernel)) rfl
theorem wCO_X5_bringHome : Cond.code yX5_bringHome cX5_bringHome 5 (Option.some Jvm.ClassFile.FieldType.int) ∈ gTb := gm (List.mem_of_getElem? (i := 955) (by decide +kernel)) rfl
theorem wx_stringRef_956 : Cond.stringRef RX5 208 "not lent, or not its own house" ∈ lw_tbl := List.mem_of_getElem? (i := 956) (by decide +kernel)
theorem wML_L_148 : Cond.methodLink RL 148 yL_setShare ∈ gTb := gm (List.mem_of_getElem? (i := 957) (by decide +kernel)) rfl
theorem wST_L_setShare : Cond.static yL_setShare ∈ gTb := gm (List.mem_of_getElem? (i := 958) (by decide +kernel)) rfl
theorem wML_L_59 : Cond.methodLink RL 59 yX5_setShare ∈ gTb := gm (List.mem_of_getElem? (i := 960) (by decide +kernel)) rfl
theorem wIM_X5_setShare : Cond.instanceMethod yX5_setShare ∈ gTb := gm (List.mem_of_getElem? (i := 961) (by decide +kernel)) rfl
theorem wSE_X5_X5_setShare : Cond.selects RX5 yX5_setShare yX5_setShare ∈ gTb := gm (List.mem_of_getElem? (i := 962) (by decide +kernel)) rfl
theorem wCO_X5_setShare : Cond.code yX5_setShare cX5_setShare 5 (Option.some Jvm.ClassFile.FieldType.int) ∈ gTb := gm (List.mem_of_getElem? (i := 963) (by decide +kernel)) rfl
theorem wML_L_151 : Cond.methodLink RL 151 yL_sell ∈ gTb := gm (List.mem_of_getElem? (i := 964) (by decide +kernel)) rfl
theorem wST_L_sell : Cond.static yL_sell ∈ gTb := gm (List.mem_of_getElem? (i := 965) (by decide +kernel)) rfl
theorem wML_L_62 : Cond.methodLink RL 62 yX5_sell ∈ gTb := gm (List.mem_of_getElem? (i := 967) (by decide +kernel)) rfl
theorem wIM_X5_sell : Cond.instanceMethod yX5_sell ∈ gTb := gm (List.mem_of_getElem? (i := 968) (by decide +kernel)) rfl
theorem wSE_X5_X5_sell : Cond.selects RX5 yX5_sell yX5_sell ∈ gTb := gm (List.mem_of_getElem? (i := 969) (by decide +kernel)) rfl
theorem wCO_X5_sell : Cond.code yX5_sell cX5_sell 6 (Option.some Jvm.ClassFile.FieldType.int) ∈ gTb := gm (List.mem_of_getElem? (i := 970) (by decide +kernel)) rfl
theorem wML_X5_213 : Cond.methodLink RX5 213 yX5_checkRealHouse ∈ gTb := gm (List.mem_of_getElem? (i := 971) (by decide +kernel)) rfl
theorem wST_X5_checkRealHouse : Cond.static yX5_checkRealHouse ∈ gTb := gm (List.mem_of_getElem? (i := 972) (by decide +kernel)) rfl
theorem wCO_X5_checkRealHouse : Cond.code yX5_checkRealHouse cX5_checkRealHouse 1 none ∈ gTb := gm (List.mem_of_getElem? (i := 973) (by decide +kernel)) rfl
theorem wCN_X5_216 : Cond.constant RX5 216 (100000) ∈ gTb := gm (List.mem_of_getElem? (i := 974) (by decide +kernel)) rfl
theorem wML_X5_217 : Cond.methodLink RX5 217 yX3_bookSale ∈ gTb := gm (List.mem_of_getElem? (i := 975) (by decide +kernel)) rfl
theorem wIM_X3_bookSale : Cond.instanceMethod yX3_bookSale ∈ gTb := gm (List.mem_of_getElem? (i := 976) (by decide +kernel)) rfl
theorem wSE_X3_X3_bookSale : Cond.selects RX3 yX3_bookSale yX3_bookSale ∈ gTb := gm (List.mem_of_getElem? (i := 977) (by decide +kernel)) rfl
theorem wCO_X3_bookSale : Cond.code yX3_bookSale cX3_bookSale 2 none ∈ gTb := gm (List.mem_of_getElem? (i := 978) (by decide +kernel)) rfl
theorem wML_L_154 : Cond.methodLink RL 154 yL_give ∈ gTb := gm (List.mem_of_getElem? (i := 979) (by decide +kernel)) rfl
theorem wST_L_give : Cond.static yL_give ∈ gTb := gm (List.mem_of_getElem? (i := 980) (by decide +kernel)) rfl
theorem wML_L_65 : Cond.methodLink RL 65 yX5_give ∈ gTb := gm (List.mem_of_getElem? (i := 982) (by decide +kernel)) rfl
theorem wIM_X5_give : Cond.instanceMethod yX5_give ∈ gTb := gm (List.mem_of_getElem? (i := 983) (by decide +kernel)) rfl
theorem wSE_X5_X5_give : Cond.selects RX5 yX5_give yX5_give ∈ gTb := gm (List.mem_of_getElem? (i := 984) (by decide +kernel)) rfl
theorem wCO_X5_give : Cond.code yX5_give cX5_give 6 (Option.some Jvm.ClassFile.FieldType.int) ∈ gTb := gm (List.mem_of_getElem? (i := 985) (by decide +kernel)) rfl
theorem wML_X5_220 : Cond.methodLink RX5 220 yX3_bookGift ∈ gTb := gm (List.mem_of_getElem? (i := 986) (by decide +kernel)) rfl
theorem wIM_X3_bookGift : Cond.instanceMethod yX3_bookGift ∈ gTb := gm (List.mem_of_getElem? (i := 987) (by decide +kernel)) rfl
theorem wSE_X3_X3_bookGift : Cond.selects RX3 yX3_bookGift yX3_bookGift ∈ gTb := gm (List.mem_of_getElem? (i := 988) (by decide +kernel)) rfl
theorem wCO_X3_bookGift : Cond.code yX3_bookGift cX3_bookGift 2 none ∈ gTb := gm (List.mem_of_getElem? (i := 989) (by decide +kernel)) rfl
theorem wML_L_157 : Cond.methodLink RL 157 yL_advance ∈ gTb := gm (List.mem_of_getElem? (i := 990) (by decide +kernel)) rfl
theorem wST_L_advance : Cond.static yL_advance ∈ gTb := gm (List.mem_of_getElem? (i := 991) (by decide +kernel)) rfl
theorem wML_L_68 : Cond.methodLink RL 68 yX5_advance ∈ gTb := gm (List.mem_of_getElem? (i := 993) (by decide +kernel)) rfl
theorem wIM_X5_advance : Cond.instanceMethod yX5_advance ∈ gTb := gm (List.mem_of_getElem? (i := 994) (by decide +kernel)) rfl
theorem wSE_X5_X5_advance : Cond.selects RX5 yX5_advance yX5_advance ∈ gTb := gm (List.mem_of_getElem? (i := 995) (by decide +kernel)) rfl
theorem wCO_X5_advance : Cond.code yX5_advance cX5_advance 3 (Option.some Jvm.ClassFile.FieldType.int) ∈ gTb := gm (List.mem_of_getElem? (i := 996) (by decide +kernel)) rfl
theorem wx_stringRef_997 : Cond.stringRef RX5 223 "beyond the last day" ∈ lw_tbl := List.mem_of_getElem? (i := 997) (by decide +kernel)
theorem wML_X5_225 : Cond.methodLink RX5 225 yX5_endDay ∈ gTb := gm (List.mem_of_getElem? (i := 998) (by decide +kernel)) rfl
theorem wIM_X5_endDay : Cond.instanceMethod yX5_endDay ∈ gTb := gm (List.mem_of_getElem? (i := 1000) (by decide +kernel)) rfl
theorem wCO_X5_endDay : Cond.code yX5_endDay cX5_endDay 3 none ∈ gTb := gm (List.mem_of_getElem? (i := 1001) (by decide +kernel)) rfl
theorem wML_X5_336 : Cond.methodLink RX5 336 yX5_shareOut ∈ gTb := gm (List.mem_of_getElem? (i := 1002) (by decide +kernel)) rfl
theorem wIM_X5_shareOut : Cond.instanceMethod yX5_shareOut ∈ gTb := gm (List.mem_of_getElem? (i := 1004) (by decide +kernel)) rfl
theorem wCO_X5_shareOut : Cond.code yX5_shareOut cX5_shareOut 4 none ∈ gTb := gm (List.mem_of_getElem? (i := 1005) (by decide +kernel)) rfl
theorem wML_X5_343 : Cond.methodLink RX5 343 yX5_partOf ∈ gTb := gm (List.mem_of_getElem? (i := 1006) (by decide +kernel)) rfl
theorem wST_X5_partOf : Cond.static yX5_partOf ∈ gTb := gm (List.mem_of_getElem? (i := 1007) (by decide +kernel)) rfl
theorem wCO_X5_partOf : Cond.code yX5_partOf cX5_partOf 6 (Option.some Jvm.ClassFile.FieldType.int) ∈ gTb := gm (List.mem_of_getElem? (i := 1008) (by decide +kernel)) rfl
theorem wML_X5_347 : Cond.methodLink RX5 347 yJ6_bitCount_0f7a4 ∈ gTb := gm (List.mem_of_getElem? (i := 1009) (by decide +kernel)) rfl
theorem wST_J6_bitCount_0f7a4 : Cond.static yJ6_bitCount_0f7a4 ∈ gTb := gm (List.mem_of_getElem? (i := 1010) (by decide +kernel)) rfl
theorem wCO_J6_bitCount_0f7a4 : Cond.code yJ6_bitCount_0f7a4 cJ6_bitCount_0f7a4 1 (Option.some Jvm.ClassFile.FieldType.int) ∈ gTb := gm (List.mem_of_getElem? (i := 1011) (by decide +kernel)) rfl
theorem wCN_J6_265 : Cond.constant RJ6 265 (1431655765) ∈ gTb := gm (List.mem_of_getElem? (i := 1012) (by decide +kernel)) rfl
theorem wCN_J6_266 : Cond.constant RJ6 266 (858993459) ∈ gTb := gm (List.mem_of_getElem? (i := 1013) (by decide +kernel)) rfl
theorem wCN_J6_267 : Cond.constant RJ6 267 (252645135) ∈ gTb := gm (List.mem_of_getElem? (i := 1014) (by decide +kernel)) rfl
theorem wML_X5_340 : Cond.methodLink RX5 340 yX5_seenToday ∈ gTb := gm (List.mem_of_getElem? (i := 1015) (by decide +kernel)) rfl
theorem wIM_X5_seenToday : Cond.instanceMethod yX5_seenToday ∈ gTb := gm (List.mem_of_getElem? (i := 1017) (by decide +kernel)) rfl
theorem wCO_X5_seenToday : Cond.code yX5_seenToday cX5_seenToday 3 (Option.some Jvm.ClassFile.FieldType.int) ∈ gTb := gm (List.mem_of_getElem? (i := 1018) (by decide +kernel)) rfl
theorem wML_L_168 : Cond.methodLink RL 168 yL_whereIs ∈ gTb := gm (List.mem_of_getElem? (i := 1019) (by decide +kernel)) rfl
theorem wST_L_whereIs : Cond.static yL_whereIs ∈ gTb := gm (List.mem_of_getElem? (i := 1020) (by decide +kernel)) rfl
theorem wML_L_71 : Cond.methodLink RL 71 yX5_whereIs ∈ gTb := gm (List.mem_of_getElem? (i := 1022) (by decide +kernel)) rfl
theorem wIM_X5_whereIs : Cond.instanceMethod yX5_whereIs ∈ gTb := gm (List.mem_of_getElem? (i := 1023) (by decide +kernel)) rfl
theorem wSE_X5_X5_whereIs : Cond.selects RX5 yX5_whereIs yX5_whereIs ∈ gTb := gm (List.mem_of_getElem? (i := 1024) (by decide +kernel)) rfl
theorem wCO_X5_whereIs : Cond.code yX5_whereIs cX5_whereIs 3 (Option.some Jvm.ClassFile.FieldType.int) ∈ gTb := gm (List.mem_of_getElem? (i := 1025) (by decide +kernel)) rfl
theorem wML_L_171 : Cond.methodLink RL 171 yL_seen ∈ gTb := gm (List.mem_of_getElem? (i := 1026) (by decide +kernel)) rfl
theorem wST_L_seen : Cond.static yL_seen ∈ gTb := gm (List.mem_of_getElem? (i := 1027) (by decide +kernel)) rfl
theorem wML_L_74 : Cond.methodLink RL 74 yX5_seen ∈ gTb := gm (List.mem_of_getElem? (i := 1029) (by decide +kernel)) rfl
theorem wIM_X5_seen : Cond.instanceMethod yX5_seen ∈ gTb := gm (List.mem_of_getElem? (i := 1030) (by decide +kernel)) rfl
theorem wSE_X5_X5_seen : Cond.selects RX5 yX5_seen yX5_seen ∈ gTb := gm (List.mem_of_getElem? (i := 1031) (by decide +kernel)) rfl
theorem wCO_X5_seen : Cond.code yX5_seen cX5_seen 2 (Option.some Jvm.ClassFile.FieldType.int) ∈ gTb := gm (List.mem_of_getElem? (i := 1032) (by decide +kernel)) rfl
theorem wML_L_174 : Cond.methodLink RL 174 yL_inside ∈ gTb := gm (List.mem_of_getElem? (i := 1033) (by decide +kernel)) rfl
theorem wST_L_inside : Cond.static yL_inside ∈ gTb := gm (List.mem_of_getElem? (i := 1034) (by decide +kernel)) rfl
theorem wML_L_77 : Cond.methodLink RL 77 yX5_inside ∈ gTb := gm (List.mem_of_getElem? (i := 1036) (by decide +kernel)) rfl
theorem wIM_X5_inside : Cond.instanceMethod yX5_inside ∈ gTb := gm (List.mem_of_getElem? (i := 1037) (by decide +kernel)) rfl
theorem wSE_X5_X5_inside : Cond.selects RX5 yX5_inside yX5_inside ∈ gTb := gm (List.mem_of_getElem? (i := 1038) (by decide +kernel)) rfl
theorem wCO_X5_inside : Cond.code yX5_inside cX5_inside 2 (Option.some Jvm.ClassFile.FieldType.int) ∈ gTb := gm (List.mem_of_getElem? (i := 1039) (by decide +kernel)) rfl
theorem wML_L_177 : Cond.methodLink RL 177 yL_queued ∈ gTb := gm (List.mem_of_getElem? (i := 1040) (by decide +kernel)) rfl
theorem wST_L_queued : Cond.static yL_queued ∈ gTb := gm (List.mem_of_getElem? (i := 1041) (by decide +kernel)) rfl
theorem wML_L_80 : Cond.methodLink RL 80 yX5_queued ∈ gTb := gm (List.mem_of_getElem? (i := 1043) (by decide +kernel)) rfl
theorem wIM_X5_queued : Cond.instanceMethod yX5_queued ∈ gTb := gm (List.mem_of_getElem? (i := 1044) (by decide +kernel)) rfl
theorem wSE_X5_X5_queued : Cond.selects RX5 yX5_queued yX5_queued ∈ gTb := gm (List.mem_of_getElem? (i := 1045) (by decide +kernel)) rfl
theorem wCO_X5_queued : Cond.code yX5_queued cX5_queued 4 (Option.some Jvm.ClassFile.FieldType.int) ∈ gTb := gm (List.mem_of_getElem? (i := 1046) (by decide +kernel)) rfl
theorem wML_X5_231 : Cond.methodLink RX5 231 yX5_checkPlace ∈ gTb := gm (List.mem_of_getElem? (i := 1047) (by decide +kernel)) rfl
theorem wST_X5_checkPlace : Cond.static yX5_checkPlace ∈ gTb := gm (List.mem_of_getElem? (i := 1048) (by decide +kernel)) rfl
theorem wCO_X5_checkPlace : Cond.code yX5_checkPlace cX5_checkPlace 1 none ∈ gTb := gm (List.mem_of_getElem? (i := 1049) (by decide +kernel)) rfl
theorem wx_stringRef_1050 : Cond.stringRef RX5 297 "no such place" ∈ lw_tbl := List.mem_of_getElem? (i := 1050) (by decide +kernel)
theorem wML_L_180 : Cond.methodLink RL 180 yL_views ∈ gTb := gm (List.mem_of_getElem? (i := 1051) (by decide +kernel)) rfl
theorem wST_L_views : Cond.static yL_views ∈ gTb := gm (List.mem_of_getElem? (i := 1052) (by decide +kernel)) rfl
theorem wML_L_83 : Cond.methodLink RL 83 yX5_views ∈ gTb := gm (List.mem_of_getElem? (i := 1054) (by decide +kernel)) rfl
theorem wIM_X5_views : Cond.instanceMethod yX5_views ∈ gTb := gm (List.mem_of_getElem? (i := 1055) (by decide +kernel)) rfl
theorem wSE_X5_X5_views : Cond.selects RX5 yX5_views yX5_views ∈ gTb := gm (List.mem_of_getElem? (i := 1056) (by decide +kernel)) rfl
theorem wCO_X5_views : Cond.code yX5_views cX5_views 2 (Option.some Jvm.ClassFile.FieldType.int) ∈ gTb := gm (List.mem_of_getElem? (i := 1057) (by decide +kernel)) rfl
theorem wML_L_183 : Cond.methodLink RL 183 yL_titleAt ∈ gTb := gm (List.mem_of_getElem? (i := 1058) (by decide +kernel)) rfl
theorem wST_L_titleAt : Cond.static yL_titleAt ∈ gTb := gm (List.mem_of_getElem? (i := 1059) (by decide +kernel)) rfl
theorem wML_L_86 : Cond.methodLink RL 86 yX5_titleAt ∈ gTb := gm (List.mem_of_getElem? (i := 1061) (by decide +kernel)) rfl
theorem wIM_X5_titleAt : Cond.instanceMethod yX5_titleAt ∈ gTb := gm (List.mem_of_getElem? (i := 1062) (by decide +kernel)) rfl
theorem wSE_X5_X5_titleAt : Cond.selects RX5 yX5_titleAt yX5_titleAt ∈ gTb := gm (List.mem_of_getElem? (i := 1063) (by decide +kernel)) rfl
theorem wCO_X5_titleAt : Cond.code yX5_titleAt cX5_titleAt 5 (Option.some Jvm.ClassFile.FieldType.int) ∈ gTb := gm (List.mem_of_getElem? (i := 1064) (by decide +kernel)) rfl
theorem wCL_X5_242 : Cond.classLink RX5 242 RJ4 ∈ gTb := gm (List.mem_of_getElem? (i := 1065) (by decide +kernel)) rfl
theorem wML_X5_244 : Cond.methodLink RX5 244 yJ4_init_da8c8 ∈ gTb := gm (List.mem_of_getElem? (i := 1066) (by decide +kernel)) rfl
theorem wML_X5_245 : Cond.methodLink RX5 245 yJ4_append_cf468 ∈ gTb := gm (List.mem_of_getElem? (i := 1067) (by decide +kernel)) rfl
theorem wIM_J4_append_cf468 : Cond.instanceMethod yJ4_append_cf468 ∈ gTb := gm (List.mem_of_getElem? (i := 1068) (by decide +kernel)) rfl
theorem wSE_J4_J4_append_cf468 : Cond.selects RJ4 yJ4_append_cf468 yJ4_append_cf468 ∈ gTb := gm (List.mem_of_getElem? (i := 1069) (by decide +kernel)) rfl
theorem wCO_J4_append_cf468 : Cond.code yJ4_append_cf468 cJ4_append_cf468 2 (Option.some (Jvm.ClassFile.FieldType.object "java/lang/StringBuilder")) ∈ gTb := gm (List.mem_of_getElem? (i := 1070) (by decide +kernel)) rfl
theorem wML_J4_50 : Cond.methodLink RJ4 50 yJ5_append_3fe6f ∈ gTb := gm (List.mem_of_getElem? (i := 1071) (by decide +kernel)) rfl
theorem wIM_J5_append_3fe6f : Cond.instanceMethod yJ5_append_3fe6f ∈ gTb := gm (List.mem_of_getElem? (i := 1072) (by decide +kernel)) rfl
theorem wCO_J5_append_3fe6f : Cond.code yJ5_append_3fe6f cJ5_append_3fe6f 2 (Option.some (Jvm.ClassFile.FieldType.object "java/lang/AbstractStringBuilder")) ∈ gTb := gm (List.mem_of_getElem? (i := 1073) (by decide +kernel)) rfl
theorem wML_J5_191 : Cond.methodLink RJ5 191 yJ1_canEncode_fc78d ∈ gTb := gm (List.mem_of_getElem? (i := 1074) (by decide +kernel)) rfl
theorem wST_J1_canEncode_fc78d : Cond.static yJ1_canEncode_fc78d ∈ gTb := gm (List.mem_of_getElem? (i := 1075) (by decide +kernel)) rfl
theorem wCO_J1_canEncode_fc78d : Cond.code yJ1_canEncode_fc78d cJ1_canEncode_fc78d 1 (Option.some Jvm.ClassFile.FieldType.boolean) ∈ gTb := gm (List.mem_of_getElem? (i := 1076) (by decide +kernel)) rfl
theorem wML_J5_197 : Cond.methodLink RJ5 197 yJ2_putCharSB_b72d1 ∈ gTb := gm (List.mem_of_getElem? (i := 1077) (by decide +kernel)) rfl
theorem wST_J2_putCharSB_b72d1 : Cond.static yJ2_putCharSB_b72d1 ∈ gTb := gm (List.mem_of_getElem? (i := 1078) (by decide +kernel)) rfl
theorem wCO_J2_putCharSB_b72d1 : Cond.code yJ2_putCharSB_b72d1 cJ2_putCharSB_b72d1 3 none ∈ gTb := gm (List.mem_of_getElem? (i := 1079) (by decide +kernel)) rfl
theorem wML_J2_67 : Cond.methodLink RJ2 67 yJ2_checkIndex_2214a ∈ gTb := gm (List.mem_of_getElem? (i := 1080) (by decide +kernel)) rfl
theorem wST_J2_checkIndex_2214a : Cond.static yJ2_checkIndex_2214a ∈ gTb := gm (List.mem_of_getElem? (i := 1081) (by decide +kernel)) rfl
theorem wCO_J2_checkIndex_2214a : Cond.code yJ2_checkIndex_2214a cJ2_checkIndex_2214a 2 none ∈ gTb := gm (List.mem_of_getElem? (i := 1082) (by decide +kernel)) rfl
theorem wML_J2_414 : Cond.methodLink RJ2 414 yJ0_checkIndex_df160 ∈ gTb := gm (List.mem_of_getElem? (i := 1083) (by decide +kernel)) rfl
theorem wST_J0_checkIndex_df160 : Cond.static yJ0_checkIndex_df160 ∈ gTb := gm (List.mem_of_getElem? (i := 1084) (by decide +kernel)) rfl
theorem wCO_J0_checkIndex_df160 : Cond.code yJ0_checkIndex_df160 cJ0_checkIndex_df160 2 none ∈ gTb := gm (List.mem_of_getElem? (i := 1085) (by decide +kernel)) rfl
theorem wML_J0_1059 : Cond.methodLink RJ0 1059 yJ3_checkIndex_8e157 ∈ gTb := gm (List.mem_of_getElem? (i := 1086) (by decide +kernel)) rfl
theorem wML_X5_249 : Cond.methodLink RX5 249 yJ4_append_bf812 ∈ gTb := gm (List.mem_of_getElem? (i := 1087) (by decide +kernel)) rfl
theorem wML_X5_252 : Cond.methodLink RX5 252 yJ4_length_8abf5 ∈ gTb := gm (List.mem_of_getElem? (i := 1088) (by decide +kernel)) rfl
theorem wML_X5_255 : Cond.methodLink RX5 255 yJ4_charAt_5068e ∈ gTb := gm (List.mem_of_getElem? (i := 1089) (by decide +kernel)) rfl
theorem wIM_J4_charAt_5068e : Cond.instanceMethod yJ4_charAt_5068e ∈ gTb := gm (List.mem_of_getElem? (i := 1090) (by decide +kernel)) rfl
theorem wSE_J4_J4_charAt_5068e : Cond.selects RJ4 yJ4_charAt_5068e yJ4_charAt_5068e ∈ gTb := gm (List.mem_of_getElem? (i := 1091) (by decide +kernel)) rfl
theorem wCO_J4_charAt_5068e : Cond.code yJ4_charAt_5068e cJ4_charAt_5068e 2 (Option.some Jvm.ClassFile.FieldType.char) ∈ gTb := gm (List.mem_of_getElem? (i := 1092) (by decide +kernel)) rfl
theorem wML_J4_329 : Cond.methodLink RJ4 329 yJ5_charAt_5068e ∈ gTb := gm (List.mem_of_getElem? (i := 1093) (by decide +kernel)) rfl
theorem wIM_J5_charAt_5068e : Cond.instanceMethod yJ5_charAt_5068e ∈ gTb := gm (List.mem_of_getElem? (i := 1094) (by decide +kernel)) rfl
theorem wCO_J5_charAt_5068e : Cond.code yJ5_charAt_5068e cJ5_charAt_5068e 5 (Option.some Jvm.ClassFile.FieldType.char) ∈ gTb := gm (List.mem_of_getElem? (i := 1095) (by decide +kernel)) rfl
theorem wML_J5_138 : Cond.methodLink RJ5 138 yJ9_min_7cf53 ∈ gTb := gm (List.mem_of_getElem? (i := 1096) (by decide +kernel)) rfl
theorem wML_J5_144 : Cond.methodLink RJ5 144 yJ0_checkIndex_df160 ∈ gTb := gm (List.mem_of_getElem? (i := 1097) (by decide +kernel)) rfl
theorem wML_J5_148 : Cond.methodLink RJ5 148 yJ2_getChar_3b067 ∈ gTb := gm (List.mem_of_getElem? (i := 1098) (by decide +kernel)) rfl
theorem wML_L_186 : Cond.methodLink RL 186 yL_money ∈ gTb := gm (List.mem_of_getElem? (i := 1099) (by decide +kernel)) rfl
theorem wST_L_money : Cond.static yL_money ∈ gTb := gm (List.mem_of_getElem? (i := 1100) (by decide +kernel)) rfl
theorem wML_L_89 : Cond.methodLink RL 89 yX5_money ∈ gTb := gm (List.mem_of_getElem? (i := 1102) (by decide +kernel)) rfl
theorem wIM_X5_money : Cond.instanceMethod yX5_money ∈ gTb := gm (List.mem_of_getElem? (i := 1103) (by decide +kernel)) rfl
theorem wSE_X5_X5_money : Cond.selects RX5 yX5_money yX5_money ∈ gTb := gm (List.mem_of_getElem? (i := 1104) (by decide +kernel)) rfl
theorem wCO_X5_money : Cond.code yX5_money cX5_money 2 (Option.some Jvm.ClassFile.FieldType.int) ∈ gTb := gm (List.mem_of_getElem? (i := 1105) (by decide +kernel)) rfl
theorem wML_L_189 : Cond.methodLink RL 189 yL_moneyBySeen ∈ gTb := gm (List.mem_of_getElem? (i := 1106) (by decide +kernel)) rfl
theorem wST_L_moneyBySeen : Cond.static yL_moneyBySeen ∈ gTb := gm (List.mem_of_getElem? (i := 1107) (by decide +kernel)) rfl
theorem wML_L_92 : Cond.methodLink RL 92 yX5_moneyBySeen ∈ gTb := gm (List.mem_of_getElem? (i := 1109) (by decide +kernel)) rfl
theorem wIM_X5_moneyBySeen : Cond.instanceMethod yX5_moneyBySeen ∈ gTb := gm (List.mem_of_getElem? (i := 1110) (by decide +kernel)) rfl
theorem wSE_X5_X5_moneyBySeen : Cond.selects RX5 yX5_moneyBySeen yX5_moneyBySeen ∈ gTb := gm (List.mem_of_getElem? (i := 1111) (by decide +kernel)) rfl
theorem wCO_X5_moneyBySeen : Cond.code yX5_moneyBySeen cX5_moneyBySeen 3 (Option.some Jvm.ClassFile.FieldType.int) ∈ gTb := gm (List.mem_of_getElem? (i := 1112) (by decide +kernel)) rfl
theorem wML_X5_271 : Cond.methodLink RX5 271 yX5_broughtByTickets ∈ gTb := gm (List.mem_of_getElem? (i := 1113) (by decide +kernel)) rfl
theorem wIM_X5_broughtByTickets : Cond.instanceMethod yX5_broughtByTickets ∈ gTb := gm (List.mem_of_getElem? (i := 1115) (by decide +kernel)) rfl
theorem wCO_X5_broughtByTickets : Cond.code yX5_broughtByTickets cX5_broughtByTickets 5 (Option.some Jvm.ClassFile.FieldType.int) ∈ gTb := gm (List.mem_of_getElem? (i := 1116) (by decide +kernel)) rfl
theorem wML_X5_275 : Cond.methodLink RX5 275 yX5_broughtByMemberships ∈ gTb := gm (List.mem_of_getElem? (i := 1117) (by decide +kernel)) rfl
theorem wIM_X5_broughtByMemberships : Cond.instanceMethod yX5_broughtByMemberships ∈ gTb := gm (List.mem_of_getElem? (i := 1119) (by decide +kernel)) rfl
theorem wCO_X5_broughtByMemberships : Cond.code yX5_broughtByMemberships cX5_broughtByMemberships 6 (Option.some Jvm.ClassFile.FieldType.int) ∈ gTb := gm (List.mem_of_getElem? (i := 1120) (by decide +kernel)) rfl
theorem wML_X5_352 : Cond.methodLink RX5 352 yX0_daysEnded ∈ gTb := gm (List.mem_of_getElem? (i := 1121) (by decide +kernel)) rfl
theorem wIM_X0_daysEnded : Cond.instanceMethod yX0_daysEnded ∈ gTb := gm (List.mem_of_getElem? (i := 1122) (by decide +kernel)) rfl
theorem wSE_X0_X0_daysEnded : Cond.selects RX0 yX0_daysEnded yX0_daysEnded ∈ gTb := gm (List.mem_of_getElem? (i := 1123) (by decide +kernel)) rfl
theorem wCO_X0_daysEnded : Cond.code yX0_daysEnded cX0_daysEnded 2 (Option.some Jvm.ClassFile.FieldType.int) ∈ gTb := gm (List.mem_of_getElem? (i := 1124) (by decide +kernel)) rfl
theorem wML_X0_22 : Cond.methodLink RX0 22 yX0_daysLeft ∈ gTb := gm (List.mem_of_getElem? (i := 1125) (by decide +kernel)) rfl
theorem wCL_L_96 : Cond.classLink RL 96 RX6 ∈ gTb := gm (List.mem_of_getElem? (i := 1126) (by decide +kernel)) rfl
theorem wIS_X6 : Cond.instantiable RX6 30 ∈ gTb := gm (List.mem_of_getElem? (i := 1127) (by decide +kernel)) rfl
theorem wML_L_98 : Cond.methodLink RL 98 yX6_init ∈ gTb := gm (List.mem_of_getElem? (i := 1128) (by decide +kernel)) rfl
theorem wIM_X6_init : Cond.instanceMethod yX6_init ∈ gTb := gm (List.mem_of_getElem? (i := 1129) (by decide +kernel)) rfl
theorem wCO_X6_init : Cond.code yX6_init cX6_init 2 none ∈ gTb := gm (List.mem_of_getElem? (i := 1130) (by decide +kernel)) rfl
theorem wML_X6_1 : Cond.methodLink RX6 1 objectInit ∈ gTb := gm (List.mem_of_getElem? (i := 1131) (by decide +kernel)) rfl
theorem wFL_X6_7 : Cond.fieldLink RX6 7 RX6 "prices" "[I" ∈ gTb := gm (List.mem_of_getElem? (i := 1132) (by decide +kernel)) rfl
theorem wFL_X6_77 : Cond.fieldLink RX6 77 RX6 "dayPrice" "I" ∈ gTb := gm (List.mem_of_getElem? (i := 1133) (by decide +kernel)) rfl
theorem wFL_X6_13 : Cond.fieldLink RX6 13 RX6 "lastDays" "[I" ∈ gTb := gm (List.mem_of_getElem? (i := 1134) (by decide +kernel)) rfl
theorem wFL_X6_88 : Cond.fieldLink RX6 88 RX6 "ticketMany" "I" ∈ gTb := gm (List.mem_of_getElem? (i := 1135) (by decide +kernel)) rfl
theorem wFL_X6_16 : Cond.fieldLink RX6 16 RX6 "sorts" "[I" ∈ gTb := gm (List.mem_of_getElem? (i := 1136) (by decide +kernel)) rfl
theorem wFL_X6_19 : Cond.fieldLink RX6 19 RX6 "houseOf" "[I" ∈ gTb := gm (List.mem_of_getElem? (i := 1137) (by decide +kernel)) rfl
theorem wFL_X6_22 : Cond.fieldLink RX6 22 RX6 "memberOf" "[I" ∈ gTb := gm (List.mem_of_getElem? (i := 1138) (by decide +kernel)) rfl
theorem wFL_X6_25 : Cond.fieldLink RX6 25 RX6 "dayOf" "[I" ∈ gTb := gm (List.mem_of_getElem? (i := 1139) (by decide +kernel)) rfl
theorem wFL_X6_28 : Cond.fieldLink RX6 28 RX6 "costs" "[I" ∈ gTb := gm (List.mem_of_getElem? (i := 1140) (by decide +kernel)) rfl
theorem wFL_X6_31 : Cond.fieldLink RX6 31 RX6 "isVoid" "[Z" ∈ gTb := gm (List.mem_of_getElem? (i := 1141) (by decide +kernel)) rfl
theorem wFL_X6_35 : Cond.fieldLink RX6 35 RX6 "places" "[I" ∈ gTb := gm (List.mem_of_getElem? (i := 1142) (by decide +kernel)) rfl
theorem wFL_X6_38 : Cond.fieldLink RX6 38 RX6 "cameAt" "[I" ∈ gTb := gm (List.mem_of_getElem? (i := 1143) (by decide +kernel)) rfl
theorem wFL_X6_152 : Cond.fieldLink RX6 152 RX6 "cameMany" "I" ∈ gTb := gm (List.mem_of_getElem? (i := 1144) (by decide +kernel)) rfl
theorem wFL_X6_41 : Cond.fieldLink RX6 41 RX6 "seenRooms" "[I" ∈ gTb := gm (List.mem_of_getElem? (i := 1145) (by decide +kernel)) rfl
theorem wFL_X6_44 : Cond.fieldLink RX6 44 RX6 "caps" "[I" ∈ gTb := gm (List.mem_of_getElem? (i := 1146) (by decide +kernel)) rfl
theorem wFL_X6_47 : Cond.fieldLink RX6 47 RX6 "isClosed" "[Z" ∈ gTb := gm (List.mem_of_getElem? (i := 1147) (by decide +kernel)) rfl
theorem wFL_X6_91 : Cond.fieldLink RX6 91 RX6 "workMany" "I" ∈ gTb := gm (List.mem_of_getElem? (i := 1148) (by decide +kernel)) rfl
theorem wFL_X6_50 : Cond.fieldLink RX6 50 RX6 "homes" "[I" ∈ gTb := gm (List.mem_of_getElem? (i := 1149) (by decide +kernel)) rfl
theorem wFL_X6_53 : Cond.fieldLink RX6 53 RX6 "hangs" "[I" ∈ gTb := gm (List.mem_of_getElem? (i := 1150) (by decide +kernel)) rfl
theorem wFL_X6_56 : Cond.fieldLink RX6 56 RX6 "isLent" "[Z" ∈ gTb := gm (List.mem_of_getElem? (i := 1151) (by decide +kernel)) rfl
theorem wFL_X6_59 : Cond.fieldLink RX6 59 RX6 "fees" "[I" ∈ gTb := gm (List.mem_of_getElem? (i := 1152) (by decide +kernel)) rfl
theorem wFL_X6_62 : Cond.fieldLink RX6 62 RX6 "broughtIn" "[I" ∈ gTb := gm (List.mem_of_getElem? (i := 1153) (by decide +kernel)) rfl
theorem wFL_X6_65 : Cond.fieldLink RX6 65 RX6 "shares" "[I" ∈ gTb := gm (List.mem_of_getElem? (i := 1154) (by decide +kernel)) rfl
theorem wFL_X6_68 : Cond.fieldLink RX6 68 RX6 "viewMany" "[I" ∈ gTb := gm (List.mem_of_getElem? (i := 1155) (by decide +kernel)) rfl
theorem wFL_X6_71 : Cond.fieldLink RX6 71 RX6 "accounts" "[I" ∈ gTb := gm (List.mem_of_getElem? (i := 1156) (by decide +kernel)) rfl
theorem wFL_X6_101 : Cond.fieldLink RX6 101 RX6 "paidIn" "I" ∈ gTb := gm (List.mem_of_getElem? (i := 1157) (by decide +kernel)) rfl
theorem wFL_X6_94 : Cond.fieldLink RX6 94 RX6 "now" "I" ∈ gTb := gm (List.mem_of_getElem? (i := 1158) (by decide +kernel)) rfl
theorem wFL_X6_81 : Cond.fieldLink RX6 81 RX6 "thrown" "I" ∈ gTb := gm (List.mem_of_getElem? (i := 1159) (by decide +kernel)) rfl
theorem wFL_X6_74 : Cond.fieldLink RX6 74 RX6 "title" "[I" ∈ gTb := gm (List.mem_of_getElem? (i := 1160) (by decide +kernel)) rfl
theorem wFL_X6_171 : Cond.fieldLink RX6 171 RX6 "titleMany" "I" ∈ gTb := gm (List.mem_of_getElem? (i := 1161) (by decide +kernel)) rfl
theorem wSU_X6 : Cond.superclass RX6 "java/lang/Object" ∈ gTb := gm (List.mem_of_getElem? (i := 1222) (by decide +kernel)) rfl
theorem wAC_int : Cond.arrayClass Jvm.ClassFile.FieldType.int ∈ gTb := gm (List.mem_of_getElem? (i := 1223) (by decide +kernel)) rfl
theorem wAC_boolean : Cond.arrayClass Jvm.ClassFile.FieldType.boolean ∈ gTb := gm (List.mem_of_getElem? (i := 1224) (by decide +kernel)) rfl
theorem wML_L_105 : Cond.methodLink RL 105 yX6_thrown ∈ gTb := gm (List.mem_of_getElem? (i := 1225) (by decide +kernel)) rfl
theorem wIM_X6_thrown : Cond.instanceMethod yX6_thrown ∈ gTb := gm (List.mem_of_getElem? (i := 1226) (by decide +kernel)) rfl
theorem wSE_X6_X6_thrown : Cond.selects RX6 yX6_thrown yX6_thrown ∈ gTb := gm (List.mem_of_getElem? (i := 1227) (by decide +kernel)) rfl
theorem wCO_X6_thrown : Cond.code yX6_thrown cX6_thrown 1 (Option.some Jvm.ClassFile.FieldType.int) ∈ gTb := gm (List.mem_of_getElem? (i := 1228) (by decide +kernel)) rfl
theorem wML_L_104 : Cond.methodLink RL 104 yX6_setPrice ∈ gTb := gm (List.mem_of_getElem? (i := 1229) (by decide +kernel)) rfl
theorem wIM_X6_setPrice : Cond.instanceMethod yX6_setPrice ∈ gTb := gm (List.mem_of_getElem? (i := 1230) (by decide +kernel)) rfl
theorem wSE_X6_X6_setPrice : Cond.selects RX6 yX6_setPrice yX6_setPrice ∈ gTb := gm (List.mem_of_getElem? (i := 1231) (by decide +kernel)) rfl
theorem wCO_X6_setPrice : Cond.code yX6_setPrice cX6_setPrice 4 (Option.some Jvm.ClassFile.FieldType.int) ∈ gTb := gm (List.mem_of_getElem? (i := 1232) (by decide +kernel)) rfl
theorem wML_X6_97 : Cond.methodLink RX6 97 yX6_isHouse ∈ gTb := gm (List.mem_of_getElem? (i := 1233) (by decide +kernel)) rfl
theorem wST_X6_isHouse : Cond.static yX6_isHouse ∈ gTb := gm (List.mem_of_getElem? (i := 1234) (by decide +kernel)) rfl
theorem wCO_X6_isHouse : Cond.code yX6_isHouse cX6_isHouse 1 (Option.some Jvm.ClassFile.FieldType.boolean) ∈ gTb := gm (List.mem_of_getElem? (i := 1235) (by decide +kernel)) rfl
theorem wML_X6_84 : Cond.methodLink RX6 84 yX6_in ∈ gTb := gm (List.mem_of_getElem? (i := 1236) (by decide +kernel)) rfl
theorem wST_X6_in : Cond.static yX6_in ∈ gTb := gm (List.mem_of_getElem? (i := 1237) (by decide +kernel)) rfl
theorem wCO_X6_in : Cond.code yX6_in cX6_in 3 (Option.some Jvm.ClassFile.FieldType.boolean) ∈ gTb := gm (List.mem_of_getElem? (i := 1238) (by decide +kernel)) rfl
theorem wML_L_112 : Cond.methodLink RL 112 yX6_buy ∈ gTb := gm (List.mem_of_getElem? (i := 1239) (by decide +kernel)) rfl
theorem wIM_X6_buy : Cond.instanceMethod yX6_buy ∈ gTb := gm (List.mem_of_getElem? (i := 1240) (by decide +kernel)) rfl
theorem wSE_X6_X6_buy : Cond.selects RX6 yX6_buy yX6_buy ∈ gTb := gm (List.mem_of_getElem? (i := 1241) (by decide +kernel)) rfl
theorem wCO_X6_buy : Cond.code yX6_buy cX6_buy 2 (Option.some Jvm.ClassFile.FieldType.int) ∈ gTb := gm (List.mem_of_getElem? (i := 1242) (by decide +kernel)) rfl
theorem wML_X6_104 : Cond.methodLink RX6 104 yX6_make ∈ gTb := gm (List.mem_of_getElem? (i := 1243) (by decide +kernel)) rfl
theorem wIM_X6_make : Cond.instanceMethod yX6_make ∈ gTb := gm (List.mem_of_getElem? (i := 1245) (by decide +kernel)) rfl
theorem wCO_X6_make : Cond.code yX6_make cX6_make 5 (Option.some Jvm.ClassFile.FieldType.int) ∈ gTb := gm (List.mem_of_getElem? (i := 1246) (by decide +kernel)) rfl
theorem wML_L_116 : Cond.methodLink RL 116 yX6_admit ∈ gTb := gm (List.mem_of_getElem? (i := 1247) (by decide +kernel)) rfl
theorem wIM_X6_admit : Cond.instanceMethod yX6_admit ∈ gTb := gm (List.mem_of_getElem? (i := 1248) (by decide +kernel)) rfl
theorem wSE_X6_X6_admit : Cond.selects RX6 yX6_admit yX6_admit ∈ gTb := gm (List.mem_of_getElem? (i := 1249) (by decide +kernel)) rfl
theorem wCO_X6_admit : Cond.code yX6_admit cX6_admit 4 (Option.some Jvm.ClassFile.FieldType.int) ∈ gTb := gm (List.mem_of_getElem? (i := 1250) (by decide +kernel)) rfl
theorem wML_X6_111 : Cond.methodLink RX6 111 yX6_isMember ∈ gTb := gm (List.mem_of_getElem? (i := 1251) (by decide +kernel)) rfl
theorem wST_X6_isMember : Cond.static yX6_isMember ∈ gTb := gm (List.mem_of_getElem? (i := 1252) (by decide +kernel)) rfl
theorem wCO_X6_isMember : Cond.code yX6_isMember cX6_isMember 1 (Option.some Jvm.ClassFile.FieldType.boolean) ∈ gTb := gm (List.mem_of_getElem? (i := 1253) (by decide +kernel)) rfl
theorem wML_X6_114 : Cond.methodLink RX6 114 yX6_has ∈ gTb := gm (List.mem_of_getElem? (i := 1254) (by decide +kernel)) rfl
theorem wIM_X6_has : Cond.instanceMethod yX6_has ∈ gTb := gm (List.mem_of_getElem? (i := 1256) (by decide +kernel)) rfl
theorem wCO_X6_has : Cond.code yX6_has cX6_has 5 (Option.some Jvm.ClassFile.FieldType.int) ∈ gTb := gm (List.mem_of_getElem? (i := 1257) (by decide +kernel)) rfl
theorem wML_X6_108 : Cond.methodLink RX6 108 yX6_isNow ∈ gTb := gm (List.mem_of_getElem? (i := 1258) (by decide +kernel)) rfl
theorem wIM_X6_isNow : Cond.instanceMethod yX6_isNow ∈ gTb := gm (List.mem_of_getElem? (i := 1260) (by decide +kernel)) rfl
theorem wCO_X6_isNow : Cond.code yX6_isNow cX6_isNow 2 (Option.some Jvm.ClassFile.FieldType.boolean) ∈ gTb := gm (List.mem_of_getElem? (i := 1261) (by decide +kernel)) rfl
theorem wML_X6_118 : Cond.methodLink RX6 118 yX6_isValid ∈ gTb := gm (List.mem_of_getElem? (i := 1262) (by decide +kernel)) rfl
theorem wIM_X6_isValid : Cond.instanceMethod yX6_isValid ∈ gTb := gm (List.mem_of_getElem? (i := 1264) (by decide +kernel)) rfl
theorem wCO_X6_isValid : Cond.code yX6_isValid cX6_isValid 2 (Option.some Jvm.ClassFile.FieldType.boolean) ∈ gTb := gm (List.mem_of_getElem? (i := 1265) (by decide +kernel)) rfl
theorem wML_L_119 : Cond.methodLink RL 119 yX6_giveBack ∈ gTb := gm (List.mem_of_getElem? (i := 1266) (by decide +kernel)) rfl
theorem wIM_X6_giveBack : Cond.instanceMethod yX6_giveBack ∈ gTb := gm (List.mem_of_getElem? (i := 1267) (by decide +kernel)) rfl
theorem wSE_X6_X6_giveBack : Cond.selects RX6 yX6_giveBack yX6_giveBack ∈ gTb := gm (List.mem_of_getElem? (i := 1268) (by decide +kernel)) rfl
theorem wCO_X6_giveBack : Cond.code yX6_giveBack cX6_giveBack 3 (Option.some Jvm.ClassFile.FieldType.int) ∈ gTb := gm (List.mem_of_getElem? (i := 1269) (by decide +kernel)) rfl
theorem wML_X6_121 : Cond.methodLink RX6 121 yX6_isTicket ∈ gTb := gm (List.mem_of_getElem? (i := 1270) (by decide +kernel)) rfl
theorem wIM_X6_isTicket : Cond.instanceMethod yX6_isTicket ∈ gTb := gm (List.mem_of_getElem? (i := 1272) (by decide +kernel)) rfl
theorem wCO_X6_isTicket : Cond.code yX6_isTicket cX6_isTicket 2 (Option.some Jvm.ClassFile.FieldType.boolean) ∈ gTb := gm (List.mem_of_getElem? (i := 1273) (by decide +kernel)) rfl
theorem wML_X6_124 : Cond.methodLink RX6 124 yX6_isFor ∈ gTb := gm (List.mem_of_getElem? (i := 1274) (by decide +kernel)) rfl
theorem wIM_X6_isFor : Cond.instanceMethod yX6_isFor ∈ gTb := gm (List.mem_of_getElem? (i := 1276) (by decide +kernel)) rfl
theorem wCO_X6_isFor : Cond.code yX6_isFor cX6_isFor 3 (Option.some Jvm.ClassFile.FieldType.boolean) ∈ gTb := gm (List.mem_of_getElem? (i := 1277) (by decide +kernel)) rfl
theorem wML_L_122 : Cond.methodLink RL 122 yX6_join ∈ gTb := gm (List.mem_of_getElem? (i := 1278) (by decide +kernel)) rfl
theorem wIM_X6_join : Cond.instanceMethod yX6_join ∈ gTb := gm (List.mem_of_getElem? (i := 1279) (by decide +kernel)) rfl
theorem wSE_X6_X6_join : Cond.selects RX6 yX6_join yX6_join ∈ gTb := gm (List.mem_of_getElem? (i := 1280) (by decide +kernel)) rfl
theorem wCO_X6_join : Cond.code yX6_join cX6_join 2 (Option.some Jvm.ClassFile.FieldType.int) ∈ gTb := gm (List.mem_of_getElem? (i := 1281) (by decide +kernel)) rfl
theorem wML_L_125 : Cond.methodLink RL 125 yX6_setCap ∈ gTb := gm (List.mem_of_getElem? (i := 1282) (by decide +kernel)) rfl
theorem wIM_X6_setCap : Cond.instanceMethod yX6_setCap ∈ gTb := gm (List.mem_of_getElem? (i := 1283) (by decide +kernel)) rfl
theorem wSE_X6_X6_setCap : Cond.selects RX6 yX6_setCap yX6_setCap ∈ gTb := gm (List.mem_of_getElem? (i := 1284) (by decide +kernel)) rfl
theorem wCO_X6_setCap : Cond.code yX6_setCap cX6_setCap 3 (Option.some Jvm.ClassFile.FieldType.int) ∈ gTb := gm (List.mem_of_getElem? (i := 1285) (by decide +kernel)) rfl
theorem wML_X6_142 : Cond.methodLink RX6 142 yX6_isRoom ∈ gTb := gm (List.mem_of_getElem? (i := 1286) (by decide +kernel)) rfl
theorem wST_X6_isRoom : Cond.static yX6_isRoom ∈ gTb := gm (List.mem_of_getElem? (i := 1287) (by decide +kernel)) rfl
theorem wCO_X6_isRoom : Cond.code yX6_isRoom cX6_isRoom 1 (Option.some Jvm.ClassFile.FieldType.boolean) ∈ gTb := gm (List.mem_of_getElem? (i := 1288) (by decide +kernel)) rfl
theorem wML_X6_145 : Cond.methodLink RX6 145 yX6_letIn ∈ gTb := gm (List.mem_of_getElem? (i := 1289) (by decide +kernel)) rfl
theorem wIM_X6_letIn : Cond.instanceMethod yX6_letIn ∈ gTb := gm (List.mem_of_getElem? (i := 1291) (by decide +kernel)) rfl
theorem wCO_X6_letIn : Cond.code yX6_letIn cX6_letIn 3 none ∈ gTb := gm (List.mem_of_getElem? (i := 1292) (by decide +kernel)) rfl
theorem wML_X6_131 : Cond.methodLink RX6 131 yX6_inQueue ∈ gTb := gm (List.mem_of_getElem? (i := 1293) (by decide +kernel)) rfl
theorem wIM_X6_inQueue : Cond.instanceMethod yX6_inQueue ∈ gTb := gm (List.mem_of_getElem? (i := 1295) (by decide +kernel)) rfl
theorem wCO_X6_inQueue : Cond.code yX6_inQueue cX6_inQueue 6 (Option.some Jvm.ClassFile.FieldType.int) ∈ gTb := gm (List.mem_of_getElem? (i := 1296) (by decide +kernel)) rfl
theorem wML_X6_128 : Cond.methodLink RX6 128 yX6_isAhead ∈ gTb := gm (List.mem_of_getElem? (i := 1297) (by decide +kernel)) rfl
theorem wIM_X6_isAhead : Cond.instanceMethod yX6_isAhead ∈ gTb := gm (List.mem_of_getElem? (i := 1299) (by decide +kernel)) rfl
theorem wCO_X6_isAhead : Cond.code yX6_isAhead cX6_isAhead 5 (Option.some Jvm.ClassFile.FieldType.boolean) ∈ gTb := gm (List.mem_of_getElem? (i := 1300) (by decide +kernel)) rfl
theorem wML_X6_134 : Cond.methodLink RX6 134 yX6_insideOf ∈ gTb := gm (List.mem_of_getElem? (i := 1301) (by decide +kernel)) rfl
theorem wIM_X6_insideOf : Cond.instanceMethod yX6_insideOf ∈ gTb := gm (List.mem_of_getElem? (i := 1303) (by decide +kernel)) rfl
theorem wCO_X6_insideOf : Cond.code yX6_insideOf cX6_insideOf 4 (Option.some Jvm.ClassFile.FieldType.int) ∈ gTb := gm (List.mem_of_getElem? (i := 1304) (by decide +kernel)) rfl
theorem wML_X6_138 : Cond.methodLink RX6 138 yX6_see ∈ gTb := gm (List.mem_of_getElem? (i := 1305) (by decide +kernel)) rfl
theorem wIM_X6_see : Cond.instanceMethod yX6_see ∈ gTb := gm (List.mem_of_getElem? (i := 1307) (by decide +kernel)) rfl
theorem wCO_X6_see : Cond.code yX6_see cX6_see 4 none ∈ gTb := gm (List.mem_of_getElem? (i := 1308) (by decide +kernel)) rfl
theorem wML_L_128 : Cond.methodLink RL 128 yX6_close ∈ gTb := gm (List.mem_of_getElem? (i := 1309) (by decide +kernel)) rfl
theorem wIM_X6_close : Cond.instanceMethod yX6_close ∈ gTb := gm (List.mem_of_getElem? (i := 1310) (by decide +kernel)) rfl
theorem wSE_X6_X6_close : Cond.selects RX6 yX6_close yX6_close ∈ gTb := gm (List.mem_of_getElem? (i := 1311) (by decide +kernel)) rfl
theorem wCO_X6_close : Cond.code yX6_close cX6_close 3 (Option.some Jvm.ClassFile.FieldType.int) ∈ gTb := gm (List.mem_of_getElem? (i := 1312) (by decide +kernel)) rfl
theorem wML_X6_149 : Cond.methodLink RX6 149 yX6_clear ∈ gTb := gm (List.mem_of_getElem? (i := 1313) (by decide +kernel)) rfl
theorem wIM_X6_clear : Cond.instanceMethod yX6_clear ∈ gTb := gm (List.mem_of_getElem? (i := 1315) (by decide +kernel)) rfl
theorem wCO_X6_clear : Cond.code yX6_clear cX6_clear 4 (Option.some Jvm.ClassFile.FieldType.int) ∈ gTb := gm (List.mem_of_getElem? (i := 1316) (by decide +kernel)) rfl
theorem wML_L_131 : Cond.methodLink RL 131 yX6_enter ∈ gTb := gm (List.mem_of_getElem? (i := 1317) (by decide +kernel)) rfl
theorem wIM_X6_enter : Cond.instanceMethod yX6_enter ∈ gTb := gm (List.mem_of_getElem? (i := 1318) (by decide +kernel)) rfl
theorem wSE_X6_X6_enter : Cond.selects RX6 yX6_enter yX6_enter ∈ gTb := gm (List.mem_of_getElem? (i := 1319) (by decide +kernel)) rfl
theorem wCO_X6_enter : Cond.code yX6_enter cX6_enter 4 (Option.some Jvm.ClassFile.FieldType.boolean) ∈ gTb := gm (List.mem_of_getElem? (i := 1320) (by decide +kernel)) rfl
theorem wML_L_134 : Cond.methodLink RL 134 yX6_goOut ∈ gTb := gm (List.mem_of_getElem? (i := 1321) (by decide +kernel)) rfl
theorem wIM_X6_goOut : Cond.instanceMethod yX6_goOut ∈ gTb := gm (List.mem_of_getElem? (i := 1322) (by decide +kernel)) rfl
theorem wSE_X6_X6_goOut : Cond.selects RX6 yX6_goOut yX6_goOut ∈ gTb := gm (List.mem_of_getElem? (i := 1323) (by decide +kernel)) rfl
theorem wCO_X6_goOut : Cond.code yX6_goOut cX6_goOut 3 (Option.some Jvm.ClassFile.FieldType.int) ∈ gTb := gm (List.mem_of_getElem? (i := 1324) (by decide +kernel)) rfl
theorem wML_L_137 : Cond.methodLink RL 137 yX6_addWork ∈ gTb := gm (List.mem_of_getElem? (i := 1325) (by decide +kernel)) rfl
theorem wIM_X6_addWork : Cond.instanceMethod yX6_addWork ∈ gTb := gm (List.mem_of_getElem? (i := 1326) (by decide +kernel)) rfl
theorem wSE_X6_X6_addWork : Cond.selects RX6 yX6_addWork yX6_addWork ∈ gTb := gm (List.mem_of_getElem? (i := 1327) (by decide +kernel)) rfl
theorem wCO_X6_addWork : Cond.code yX6_addWork cX6_addWork 2 (Option.some Jvm.ClassFile.FieldType.int) ∈ gTb := gm (List.mem_of_getElem? (i := 1328) (by decide +kernel)) rfl
theorem wML_L_140 : Cond.methodLink RL 140 yX6_hang ∈ gTb := gm (List.mem_of_getElem? (i := 1329) (by decide +kernel)) rfl
theorem wIM_X6_hang : Cond.instanceMethod yX6_hang ∈ gTb := gm (List.mem_of_getElem? (i := 1330) (by decide +kernel)) rfl
theorem wSE_X6_X6_hang : Cond.selects RX6 yX6_hang yX6_hang ∈ gTb := gm (List.mem_of_getElem? (i := 1331) (by decide +kernel)) rfl
theorem wCO_X6_hang : Cond.code yX6_hang cX6_hang 4 (Option.some Jvm.ClassFile.FieldType.int) ∈ gTb := gm (List.mem_of_getElem? (i := 1332) (by decide +kernel)) rfl
theorem wML_X6_158 : Cond.methodLink RX6 158 yX6_areOne ∈ gTb := gm (List.mem_of_getElem? (i := 1333) (by decide +kernel)) rfl
theorem wIM_X6_areOne : Cond.instanceMethod yX6_areOne ∈ gTb := gm (List.mem_of_getElem? (i := 1335) (by decide +kernel)) rfl
theorem wCO_X6_areOne : Cond.code yX6_areOne cX6_areOne 3 (Option.some Jvm.ClassFile.FieldType.boolean) ∈ gTb := gm (List.mem_of_getElem? (i := 1336) (by decide +kernel)) rfl
theorem wML_X6_155 : Cond.methodLink RX6 155 yX6_isWork ∈ gTb := gm (List.mem_of_getElem? (i := 1337) (by decide +kernel)) rfl
theorem wIM_X6_isWork : Cond.instanceMethod yX6_isWork ∈ gTb := gm (List.mem_of_getElem? (i := 1339) (by decide +kernel)) rfl
theorem wCO_X6_isWork : Cond.code yX6_isWork cX6_isWork 2 (Option.some Jvm.ClassFile.FieldType.boolean) ∈ gTb := gm (List.mem_of_getElem? (i := 1340) (by decide +kernel)) rfl
theorem wML_L_144 : Cond.methodLink RL 144 yX6_lend ∈ gTb := gm (List.mem_of_getElem? (i := 1341) (by decide +kernel)) rfl
theorem wIM_X6_lend : Cond.instanceMethod yX6_lend ∈ gTb := gm (List.mem_of_getElem? (i := 1342) (by decide +kernel)) rfl
theorem wSE_X6_X6_lend : Cond.selects RX6 yX6_lend yX6_lend ∈ gTb := gm (List.mem_of_getElem? (i := 1343) (by decide +kernel)) rfl
theorem wCO_X6_lend : Cond.code yX6_lend cX6_lend 4 (Option.some Jvm.ClassFile.FieldType.int) ∈ gTb := gm (List.mem_of_getElem? (i := 1344) (by decide +kernel)) rfl
theorem wML_L_147 : Cond.methodLink RL 147 yX6_bringHome ∈ gTb := gm (List.mem_of_getElem? (i := 1345) (by decide +kernel)) rfl
theorem wIM_X6_bringHome : Cond.instanceMethod yX6_bringHome ∈ gTb := gm (List.mem_of_getElem? (i := 1346) (by decide +kernel)) rfl
theorem wSE_X6_X6_bringHome : Cond.selects RX6 yX6_bringHome yX6_bringHome ∈ gTb := gm (List.mem_of_getElem? (i := 1347) (by decide +kernel)) rfl
theorem wCO_X6_bringHome : Cond.code yX6_bringHome cX6_bringHome 3 (Option.some Jvm.ClassFile.FieldType.int) ∈ gTb := gm (List.mem_of_getElem? (i := 1348) (by decide +kernel)) rfl
theorem wML_L_150 : Cond.methodLink RL 150 yX6_setShare ∈ gTb := gm (List.mem_of_getElem? (i := 1349) (by decide +kernel)) rfl
theorem wIM_X6_setShare : Cond.instanceMethod yX6_setShare ∈ gTb := gm (List.mem_of_getElem? (i := 1350) (by decide +kernel)) rfl
theorem wSE_X6_X6_setShare : Cond.selects RX6 yX6_setShare yX6_setShare ∈ gTb := gm (List.mem_of_getElem? (i := 1351) (by decide +kernel)) rfl
theorem wCO_X6_setShare : Cond.code yX6_setShare cX6_setShare 4 (Option.some Jvm.ClassFile.FieldType.int) ∈ gTb := gm (List.mem_of_getElem? (i := 1352) (by decide +kernel)) rfl
theorem wML_L_153 : Cond.methodLink RL 153 yX6_sell ∈ gTb := gm (List.mem_of_getElem? (i := 1353) (by decide +kernel)) rfl
theorem wIM_X6_sell : Cond.instanceMethod yX6_sell ∈ gTb := gm (List.mem_of_getElem? (i := 1354) (by decide +kernel)) rfl
theorem wSE_X6_X6_sell : Cond.selects RX6 yX6_sell yX6_sell ∈ gTb := gm (List.mem_of_getElem? (i := 1355) (by decide +kernel)) rfl
theorem wCO_X6_sell : Cond.code yX6_sell cX6_sell 5 (Option.some Jvm.ClassFile.FieldType.int) ∈ gTb := gm (List.mem_of_getElem? (i := 1356) (by decide +kernel)) rfl
theorem wCN_X6_161 : Cond.constant RX6 161 (100000) ∈ gTb := gm (List.mem_of_getElem? (i := 1357) (by decide +kernel)) rfl
theorem wML_L_156 : Cond.methodLink RL 156 yX6_give ∈ gTb := gm (List.mem_of_getElem? (i := 1358) (by decide +kernel)) rfl
theorem wIM_X6_give : Cond.instanceMethod yX6_give ∈ gTb := gm (List.mem_of_getElem? (i := 1359) (by decide +kernel)) rfl
theorem wSE_X6_X6_give : Cond.selects RX6 yX6_give yX6_give ∈ gTb := gm (List.mem_of_getElem? (i := 1360) (by decide +kernel)) rfl
theorem wCO_X6_give : Cond.code yX6_give cX6_give 5 (Option.some Jvm.ClassFile.FieldType.int) ∈ gTb := gm (List.mem_of_getElem? (i := 1361) (by decide +kernel)) rfl
theorem wML_L_159 : Cond.methodLink RL 159 yX6_advance ∈ gTb := gm (List.mem_of_getElem? (i := 1362) (by decide +kernel)) rfl
theorem wIM_X6_advance : Cond.instanceMethod yX6_advance ∈ gTb := gm (List.mem_of_getElem? (i := 1363) (by decide +kernel)) rfl
theorem wSE_X6_X6_advance : Cond.selects RX6 yX6_advance yX6_advance ∈ gTb := gm (List.mem_of_getElem? (i := 1364) (by decide +kernel)) rfl
theorem wCO_X6_advance : Cond.code yX6_advance cX6_advance 3 (Option.some Jvm.ClassFile.FieldType.int) ∈ gTb := gm (List.mem_of_getElem? (i := 1365) (by decide +kernel)) rfl
theorem wML_X6_168 : Cond.methodLink RX6 168 yX6_endDay ∈ gTb := gm (List.mem_of_getElem? (i := 1366) (by decide +kernel)) rfl
theorem wIM_X6_endDay : Cond.instanceMethod yX6_endDay ∈ gTb := gm (List.mem_of_getElem? (i := 1368) (by decide +kernel)) rfl
theorem wCO_X6_endDay : Cond.code yX6_endDay cX6_endDay 4 none ∈ gTb := gm (List.mem_of_getElem? (i := 1369) (by decide +kernel)) rfl
theorem wML_X6_165 : Cond.methodLink RX6 165 yX6_share ∈ gTb := gm (List.mem_of_getElem? (i := 1370) (by decide +kernel)) rfl
theorem wIM_X6_share : Cond.instanceMethod yX6_share ∈ gTb := gm (List.mem_of_getElem? (i := 1372) (by decide +kernel)) rfl
theorem wCO_X6_share : Cond.code yX6_share cX6_share 6 none ∈ gTb := gm (List.mem_of_getElem? (i := 1373) (by decide +kernel)) rfl
theorem wML_X6_162 : Cond.methodLink RX6 162 yX6_bits ∈ gTb := gm (List.mem_of_getElem? (i := 1374) (by decide +kernel)) rfl
theorem wST_X6_bits : Cond.static yX6_bits ∈ gTb := gm (List.mem_of_getElem? (i := 1375) (by decide +kernel)) rfl
theorem wCO_X6_bits : Cond.code yX6_bits cX6_bits 3 (Option.some Jvm.ClassFile.FieldType.int) ∈ gTb := gm (List.mem_of_getElem? (i := 1376) (by decide +kernel)) rfl
theorem wML_L_163 : Cond.methodLink RL 163 yX6_day ∈ gTb := gm (List.mem_of_getElem? (i := 1377) (by decide +kernel)) rfl
theorem wIM_X6_day : Cond.instanceMethod yX6_day ∈ gTb := gm (List.mem_of_getElem? (i := 1378) (by decide +kernel)) rfl
theorem wSE_X6_X6_day : Cond.selects RX6 yX6_day yX6_day ∈ gTb := gm (List.mem_of_getElem? (i := 1379) (by decide +kernel)) rfl
theorem wCO_X6_day : Cond.code yX6_day cX6_day 1 (Option.some Jvm.ClassFile.FieldType.int) ∈ gTb := gm (List.mem_of_getElem? (i := 1380) (by decide +kernel)) rfl
theorem wML_L_167 : Cond.methodLink RL 167 yX6_tickets ∈ gTb := gm (List.mem_of_getElem? (i := 1381) (by decide +kernel)) rfl
theorem wIM_X6_tickets : Cond.instanceMethod yX6_tickets ∈ gTb := gm (List.mem_of_getElem? (i := 1382) (by decide +kernel)) rfl
theorem wSE_X6_X6_tickets : Cond.selects RX6 yX6_tickets yX6_tickets ∈ gTb := gm (List.mem_of_getElem? (i := 1383) (by decide +kernel)) rfl
theorem wCO_X6_tickets : Cond.code yX6_tickets cX6_tickets 1 (Option.some Jvm.ClassFile.FieldType.int) ∈ gTb := gm (List.mem_of_getElem? (i := 1384) (by decide +kernel)) rfl
theorem wML_L_170 : Cond.methodLink RL 170 yX6_whereIs ∈ gTb := gm (List.mem_of_getElem? (i := 1385) (by decide +kernel)) rfl
theorem wIM_X6_whereIs : Cond.instanceMethod yX6_whereIs ∈ gTb := gm (List.mem_of_getElem? (i := 1386) (by decide +kernel)) rfl
theorem wSE_X6_X6_whereIs : Cond.selects RX6 yX6_whereIs yX6_whereIs ∈ gTb := gm (List.mem_of_getElem? (i := 1387) (by decide +kernel)) rfl
theorem wCO_X6_whereIs : Cond.code yX6_whereIs cX6_whereIs 2 (Option.some Jvm.ClassFile.FieldType.int) ∈ gTb := gm (List.mem_of_getElem? (i := 1388) (by decide +kernel)) rfl
theorem wML_L_173 : Cond.methodLink RL 173 yX6_seen ∈ gTb := gm (List.mem_of_getElem? (i := 1389) (by decide +kernel)) rfl
theorem wIM_X6_seen : Cond.instanceMethod yX6_seen ∈ gTb := gm (List.mem_of_getElem? (i := 1390) (by decide +kernel)) rfl
theorem wSE_X6_X6_seen : Cond.selects RX6 yX6_seen yX6_seen ∈ gTb := gm (List.mem_of_getElem? (i := 1391) (by decide +kernel)) rfl
theorem wCO_X6_seen : Cond.code yX6_seen cX6_seen 2 (Option.some Jvm.ClassFile.FieldType.int) ∈ gTb := gm (List.mem_of_getElem? (i := 1392) (by decide +kernel)) rfl
theorem wML_L_176 : Cond.methodLink RL 176 yX6_inside ∈ gTb := gm (List.mem_of_getElem? (i := 1393) (by decide +kernel)) rfl
theorem wIM_X6_inside : Cond.instanceMethod yX6_inside ∈ gTb := gm (List.mem_of_getElem? (i := 1394) (by decide +kernel)) rfl
theorem wSE_X6_X6_inside : Cond.selects RX6 yX6_inside yX6_inside ∈ gTb := gm (List.mem_of_getElem? (i := 1395) (by decide +kernel)) rfl
theorem wCO_X6_inside : Cond.code yX6_inside cX6_inside 2 (Option.some Jvm.ClassFile.FieldType.int) ∈ gTb := gm (List.mem_of_getElem? (i := 1396) (by decide +kernel)) rfl
theorem wML_L_179 : Cond.methodLink RL 179 yX6_queued ∈ gTb := gm (List.mem_of_getElem? (i := 1397) (by decide +kernel)) rfl
theorem wIM_X6_queued : Cond.instanceMethod yX6_queued ∈ gTb := gm (List.mem_of_getElem? (i := 1398) (by decide +kernel)) rfl
theorem wSE_X6_X6_queued : Cond.selects RX6 yX6_queued yX6_queued ∈ gTb := gm (List.mem_of_getElem? (i := 1399) (by decide +kernel)) rfl
theorem wCO_X6_queued : Cond.code yX6_queued cX6_queued 3 (Option.some Jvm.ClassFile.FieldType.int) ∈ gTb := gm (List.mem_of_getElem? (i := 1400) (by decide +kernel)) rfl
theorem wML_L_182 : Cond.methodLink RL 182 yX6_views ∈ gTb := gm (List.mem_of_getElem? (i := 1401) (by decide +kernel)) rfl
theorem wIM_X6_views : Cond.instanceMethod yX6_views ∈ gTb := gm (List.mem_of_getElem? (i := 1402) (by decide +kernel)) rfl
theorem wSE_X6_X6_views : Cond.selects RX6 yX6_views yX6_views ∈ gTb := gm (List.mem_of_getElem? (i := 1403) (by decide +kernel)) rfl
theorem wCO_X6_views : Cond.code yX6_views cX6_views 2 (Option.some Jvm.ClassFile.FieldType.int) ∈ gTb := gm (List.mem_of_getElem? (i := 1404) (by decide +kernel)) rfl
theorem wML_L_185 : Cond.methodLink RL 185 yX6_titleAt ∈ gTb := gm (List.mem_of_getElem? (i := 1405) (by decide +kernel)) rfl
theorem wIM_X6_titleAt : Cond.instanceMethod yX6_titleAt ∈ gTb := gm (List.mem_of_getElem? (i := 1406) (by decide +kernel)) rfl
theorem wSE_X6_X6_titleAt : Cond.selects RX6 yX6_titleAt yX6_titleAt ∈ gTb := gm (List.mem_of_getElem? (i := 1407) (by decide +kernel)) rfl
theorem wCO_X6_titleAt : Cond.code yX6_titleAt cX6_titleAt 3 (Option.some Jvm.ClassFile.FieldType.int) ∈ gTb := gm (List.mem_of_getElem? (i := 1408) (by decide +kernel)) rfl
theorem wML_X6_174 : Cond.methodLink RX6 174 yX6_put ∈ gTb := gm (List.mem_of_getElem? (i := 1409) (by decide +kernel)) rfl
theorem wIM_X6_put : Cond.instanceMethod yX6_put ∈ gTb := gm (List.mem_of_getElem? (i := 1411) (by decide +kernel)) rfl
theorem wCO_X6_put : Cond.code yX6_put cX6_put 2 none ∈ gTb := gm (List.mem_of_getElem? (i := 1412) (by decide +kernel)) rfl
theorem wML_X6_177 : Cond.methodLink RX6 177 yX6_putNumber ∈ gTb := gm (List.mem_of_getElem? (i := 1413) (by decide +kernel)) rfl
theorem wIM_X6_putNumber : Cond.instanceMethod yX6_putNumber ∈ gTb := gm (List.mem_of_getElem? (i := 1415) (by decide +kernel)) rfl
theorem wCO_X6_putNumber : Cond.code yX6_putNumber cX6_putNumber 3 none ∈ gTb := gm (List.mem_of_getElem? (i := 1416) (by decide +kernel)) rfl
theorem wML_L_188 : Cond.methodLink RL 188 yX6_money ∈ gTb := gm (List.mem_of_getElem? (i := 1417) (by decide +kernel)) rfl
theorem wIM_X6_money : Cond.instanceMethod yX6_money ∈ gTb := gm (List.mem_of_getElem? (i := 1418) (by decide +kernel)) rfl
theorem wSE_X6_X6_money : Cond.selects RX6 yX6_money yX6_money ∈ gTb := gm (List.mem_of_getElem? (i := 1419) (by decide +kernel)) rfl
theorem wCO_X6_money : Cond.code yX6_money cX6_money 2 (Option.some Jvm.ClassFile.FieldType.int) ∈ gTb := gm (List.mem_of_getElem? (i := 1420) (by decide +kernel)) rfl
theorem wML_L_191 : Cond.methodLink RL 191 yX6_moneyBySeen ∈ gTb := gm (List.mem_of_getElem? (i := 1421) (by decide +kernel)) rfl
theorem wIM_X6_moneyBySeen : Cond.instanceMethod yX6_moneyBySeen ∈ gTb := gm (List.mem_of_getElem? (i := 1422) (by decide +kernel)) rfl
theorem wSE_X6_X6_moneyBySeen : Cond.selects RX6 yX6_moneyBySeen yX6_moneyBySeen ∈ gTb := gm (List.mem_of_getElem? (i := 1423) (by decide +kernel)) rfl
theorem wCO_X6_moneyBySeen : Cond.code yX6_moneyBySeen cX6_moneyBySeen 2 (Option.some Jvm.ClassFile.FieldType.int) ∈ gTb := gm (List.mem_of_getElem? (i := 1424) (by decide +kernel)) rfl
theorem wML_X6_180 : Cond.methodLink RX6 180 yX6_money ∈ gTb := gm (List.mem_of_getElem? (i := 1425) (by decide +kernel)) rfl
theorem wML_L_195 : Cond.methodLink RL 195 yX6_held ∈ gTb := gm (List.mem_of_getElem? (i := 1426) (by decide +kernel)) rfl
theorem wIM_X6_held : Cond.instanceMethod yX6_held ∈ gTb := gm (List.mem_of_getElem? (i := 1427) (by decide +kernel)) rfl
theorem wSE_X6_X6_held : Cond.selects RX6 yX6_held yX6_held ∈ gTb := gm (List.mem_of_getElem? (i := 1428) (by decide +kernel)) rfl
theorem wCO_X6_held : Cond.code yX6_held cX6_held 3 (Option.some Jvm.ClassFile.FieldType.int) ∈ gTb := gm (List.mem_of_getElem? (i := 1429) (by decide +kernel)) rfl
theorem wML_L_199 : Cond.methodLink RL 199 yX6_takings ∈ gTb := gm (List.mem_of_getElem? (i := 1430) (by decide +kernel)) rfl
theorem wIM_X6_takings : Cond.instanceMethod yX6_takings ∈ gTb := gm (List.mem_of_getElem? (i := 1431) (by decide +kernel)) rfl
theorem wSE_X6_X6_takings : Cond.selects RX6 yX6_takings yX6_takings ∈ gTb := gm (List.mem_of_getElem? (i := 1432) (by decide +kernel)) rfl
theorem wCO_X6_takings : Cond.code yX6_takings cX6_takings 1 (Option.some Jvm.ClassFile.FieldType.int) ∈ gTb := gm (List.mem_of_getElem? (i := 1433) (by decide +kernel)) rfl
theorem wAC_long : Cond.arrayClass Jvm.ClassFile.FieldType.long ∈ gTb := gm (List.mem_of_getElem? (i := 1434) (by decide +kernel)) rfl
theorem wSM_J5_append_1436 : Cond.sameMethod RJ5 RJ5 "append" "(Ljava/lang/String;)Ljava/lang/AbstractStringBuilder;" ∈ gTb := gm (List.mem_of_getElem? (i := 1436) (by decide +kernel)) rfl
theorem wSM_J5_appendNull_1437 : Cond.sameMethod RJ5 RJ5 "appendNull" "()Ljava/lang/AbstractStringBuilder;" ∈ gTb := gm (List.mem_of_getElem? (i := 1437) (by decide +kernel)) rfl
theorem wSM_J5_ensureCapacityInternal_1438 : Cond.sameMethod RJ5 RJ5 "ensureCapacityInternal" "(I)V" ∈ gTb := gm (List.mem_of_getElem? (i := 1438) (by decide +kernel)) rfl
theorem wSM_J5_newCapacity_1439 : Cond.sameMethod RJ5 RJ5 "newCapacity" "(I)I" ∈ gTb := gm (List.mem_of_getElem? (i := 1439) (by decide +kernel)) rfl
theorem wSM_J5_putStringAt_1440 : Cond.sameMethod RJ5 RJ5 "putStringAt" "(ILjava/lang/String;)V" ∈ gTb := gm (List.mem_of_getElem? (i := 1440) (by decide +kernel)) rfl
theorem wSM_J5_inflateIfNeededFor_1441 : Cond.sameMethod RJ5 RJ5 "inflateIfNeededFor" "(Ljava/lang/String;)V" ∈ gTb := gm (List.mem_of_getElem? (i := 1441) (by decide +kernel)) rfl
theorem wSM_J5_inflate_1442 : Cond.sameMethod RJ5 RJ5 "inflate" "()V" ∈ gTb := gm (List.mem_of_getElem? (i := 1442) (by decide +kernel)) rfl
theorem wSM_J5_append_1443 : Cond.sameMethod RJ5 RJ5 "append" "(I)Ljava/lang/AbstractStringBuilder;" ∈ gTb := gm (List.mem_of_getElem? (i := 1443) (by decide +kernel)) rfl
theorem wSM_J5_append_1444 : Cond.sameMethod RJ5 RJ5 "append" "(C)Ljava/lang/AbstractStringBuilder;" ∈ gTb := gm (List.mem_of_getElem? (i := 1444) (by decide +kernel)) rfl
theorem wSE_J4_J4_length_8abf5 : Cond.selects RJ4 yJ4_length_8abf5 yJ4_length_8abf5 ∈ gTb := gm (List.mem_of_getElem? (i := 1445) (by decide +kernel)) rfl
theorem wSM_J5_charAt_1446 : Cond.sameMethod RJ5 RJ5 "charAt" "(I)C" ∈ gTb := gm (List.mem_of_getElem? (i := 1446) (by decide +kernel)) rfl
theorem wx_castable_1447 : Cond.castable RX3 "java/lang/Object" ∈ lw_tbl := List.mem_of_getElem? (i := 1447) (by decide +kernel)
theorem wx_castable_1448 : Cond.castable RX1 "java/lang/Object" ∈ lw_tbl := List.mem_of_getElem? (i := 1448) (by decide +kernel)
theorem wx_castable_1449 : Cond.castable RX0 "java/lang/Object" ∈ lw_tbl := List.mem_of_getElem? (i := 1449) (by decide +kernel)
theorem wx_castable_1450 : Cond.castable RX5 "java/lang/Object" ∈ lw_tbl := List.mem_of_getElem? (i := 1450) (by decide +kernel)
theorem wx_castable_1451 : Cond.castable RJx4a65c "java/lang/Object" ∈ lw_tbl := List.mem_of_getElem? (i := 1451) (by decide +kernel)
theorem wx_castable_1452 : Cond.castable RX6 "java/lang/Object" ∈ lw_tbl := List.mem_of_getElem? (i := 1452) (by decide +kernel)
theorem wx_castable_1453 : Cond.castable "java/lang/IndexOutOfBoundsException" "java/lang/Object" ∈ lw_tbl := List.mem_of_getElem? (i := 1453) (by decide +kernel)
theorem wx_castable_1454 : Cond.castable "java/lang/IllegalArgumentException" "java/lang/Object" ∈ lw_tbl := List.mem_of_getElem? (i := 1454) (by decide +kernel)
theorem wx_castable_1455 : Cond.castable "java/lang/IllegalStateException" "java/lang/Object" ∈ lw_tbl := List.mem_of_getElem? (i := 1455) (by decide +kernel)
theorem wx_castable_1456 : Cond.castable RX2 "java/lang/Object" ∈ lw_tbl := List.mem_of_getElem? (i := 1456) (by decide +kernel)
theorem wx_castable_1457 : Cond.castable RJ4 "java/lang/Object" ∈ lw_tbl := List.mem_of_getElem? (i := 1457) (by decide +kernel)
theorem wx_castable_1458 : Cond.castable RJ0 "java/lang/Object" ∈ lw_tbl := List.mem_of_getElem? (i := 1458) (by decide +kernel)
theorem wx_castable_1459 : Cond.castable RX4 "java/lang/Object" ∈ lw_tbl := List.mem_of_getElem? (i := 1459) (by decide +kernel)
theorem wx_castable_1460 : Cond.castable "java/lang/Throwable" "java/lang/Object" ∈ lw_tbl := List.mem_of_getElem? (i := 1460) (by decide +kernel)
theorem wx_declares_1463 : Cond.declares ⟨"java/lang/Object", "getClass", "()Ljava/lang/Class;"⟩ ∈ lw_tbl := List.mem_of_getElem? (i := 1463) (by decide +kernel)
theorem wx_castable_1464 : Cond.castable "[LMuseumTill$Till;" "java/lang/Object" ∈ lw_tbl := List.mem_of_getElem? (i := 1464) (by decide +kernel)
theorem wx_castable_1465 : Cond.castable "[LMuseumTill$Room;" "java/lang/Object" ∈ lw_tbl := List.mem_of_getElem? (i := 1465) (by decide +kernel)
theorem wx_castable_1466 : Cond.castable "[LMuseumTill$Member;" "java/lang/Object" ∈ lw_tbl := List.mem_of_getElem? (i := 1466) (by decide +kernel)
theorem wx_castable_1467 : Cond.castable "[B" "java/lang/Object" ∈ lw_tbl := List.mem_of_getElem? (i := 1467) (by decide +kernel)
theorem wx_castable_1468 : Cond.castable "[Ljava/lang/Object;" "java/lang/Object" ∈ lw_tbl := List.mem_of_getElem? (i := 1468) (by decide +kernel)
theorem wx_castable_1469 : Cond.castable "[I" "java/lang/Object" ∈ lw_tbl := List.mem_of_getElem? (i := 1469) (by decide +kernel)
theorem wx_castable_1470 : Cond.castable "[Z" "java/lang/Object" ∈ lw_tbl := List.mem_of_getElem? (i := 1470) (by decide +kernel)
theorem wx_castable_1471 : Cond.castable "[J" "java/lang/Object" ∈ lw_tbl := List.mem_of_getElem? (i := 1471) (by decide +kernel)
theorem inG_X0 : ∀ w ∈ u_ws RX0 TX0 2, w ∈ gTb := fun w h => gm ((by decide +kernel : ∀ w ∈ u_ws RX0 TX0 2, w ∈ lw_tbl) w h) ((by decide +kernel : ∀ w ∈ u_ws RX0 TX0 2, goodWord w = true) w h)
theorem inG_X1 : ∀ w ∈ u_ws RX1 TX1 6, w ∈ gTb := fun w h => gm ((by decide +kernel : ∀ w ∈ u_ws RX1 TX1 6, w ∈ lw_tbl) w h) ((by decide +kernel : ∀ w ∈ u_ws RX1 TX1 6, goodWord w = true) w h)
theorem inG_X2 : ∀ w ∈ u_ws RX2 TX2 9, w ∈ gTb := fun w h => gm ((by decide +kernel : ∀ w ∈ u_ws RX2 TX2 9, w ∈ lw_tbl) w h) ((by decide +kernel : ∀ w ∈ u_ws RX2 TX2 9, goodWord w = true) w h)
theorem inG_X3 : ∀ w ∈ u_ws RX3 TX3 5, w ∈ gTb := fun w h => gm ((by decide +kernel : ∀ w ∈ u_ws RX3 TX3 5, w ∈ lw_tbl) w h) ((by decide +kernel : ∀ w ∈ u_ws RX3 TX3 5, goodWord w = true) w h)
theorem inG_X4 : ∀ w ∈ u_ws RX4 TX4 8, w ∈ gTb := fun w h => gm ((by decide +kernel : ∀ w ∈ u_ws RX4 TX4 8, w ∈ lw_tbl) w h) ((by decide +kernel : ∀ w ∈ u_ws RX4 TX4 8, goodWord w = true) w h)
theorem inG_X5 : ∀ w ∈ u_ws RX5 TX5 8, w ∈ gTb := fun w h => gm ((by decide +kernel : ∀ w ∈ u_ws RX5 TX5 8, w ∈ lw_tbl) w h) ((by decide +kernel : ∀ w ∈ u_ws RX5 TX5 8, goodWord w = true) w h)
theorem inG_X6 : ∀ w ∈ u_ws RX6 TX6 30, w ∈ gTb := fun w h => gm ((by decide +kernel : ∀ w ∈ u_ws RX6 TX6 30, w ∈ lw_tbl) w h) ((by decide +kernel : ∀ w ∈ u_ws RX6 TX6 30, goodWord w = true) w h)
theorem inG_J4 : ∀ w ∈ u_ws RJ4 TJ4 4, w ∈ gTb := fun w h => gm ((by decide +kernel : ∀ w ∈ u_ws RJ4 TJ4 4, w ∈ lw_tbl) w h) ((by decide +kernel : ∀ w ∈ u_ws RJ4 TJ4 4, goodWord w = true) w h)
theorem inG_Jx4a65c : ∀ w ∈ u_ws RJx4a65c TJx4a65c 3, w ∈ gTb := fun w h => gm ((by decide +kernel : ∀ w ∈ u_ws RJx4a65c TJx4a65c 3, w ∈ lw_tbl) w h) ((by decide +kernel : ∀ w ∈ u_ws RJx4a65c TJx4a65c 3, goodWord w = true) w h)
end
section
/-! more words: those of members of the JDK that have names of their own -/
theorem wML_X5_288 : Cond.methodLink RX5 288 ⟨"java/lang/IndexOutOfBoundsException", "<init>", "(Ljava/lang/String;)V"⟩ ∈ gTb := gm (List.mem_of_getElem? (i := 310) (by decide +kernel)) rfl
theorem wML_X5_303 : Cond.methodLink RX5 303 ⟨"java/lang/IllegalArgumentException", "<init>", "(Ljava/lang/String;)V"⟩ ∈ gTb := gm (List.mem_of_getElem? (i := 349) (by decide +kernel)) rfl
theorem wML_X5_76 : Cond.methodLink RX5 76 ⟨"java/lang/IllegalStateException", "<init>", "(Ljava/lang/String;)V"⟩ ∈ gTb := gm (List.mem_of_getElem? (i := 377) (by decide +kernel)) rfl
theorem wML_J7_86 : Cond.methodLink RJ7 86 ⟨"java/lang/Object", "getClass", "()Ljava/lang/Class;"⟩ ∈ gTb := gm (List.mem_of_getElem? (i := 458) (by decide +kernel)) rfl
theorem w_instanceMethod_459 : Cond.instanceMethod ⟨"java/lang/Object", "getClass", "()Ljava/lang/Class;"⟩ ∈ gTb := gm (List.mem_of_getElem? (i := 459) (by decide +kernel)) rfl
theorem w_selects_468 : Cond.selects "java/lang/IllegalArgumentException" ⟨"java/lang/Object", "getClass", "()Ljava/lang/Class;"⟩ ⟨"java/lang/Object", "getClass", "()Ljava/lang/Class;"⟩ ∈ gTb := gm (List.mem_of_getElem? (i := 468) (by decide +kernel)) rfl
theorem w_selects_469 : Cond.selects "java/lang/IllegalStateException" ⟨"java/lang/Object", "getClass", "()Ljava/lang/Class;"⟩ ⟨"java/lang/Object", "getClass", "()Ljava/lang/Class;"⟩ ∈ gTb := gm (List.mem_of_getElem? (i := 469) (by decide +kernel)) rfl
theorem w_selects_470 : Cond.selects "java/lang/IndexOutOfBoundsException" ⟨"java/lang/Object", "getClass", "()Ljava/lang/Class;"⟩ ⟨"java/lang/Object", "getClass", "()Ljava/lang/Class;"⟩ ∈ gTb := gm (List.mem_of_getElem? (i := 470) (by decide +kernel)) rfl
theorem wML_J7_150 : Cond.methodLink RJ7 150 ⟨"java/lang/System", "arraycopy", "(Ljava/lang/Object;ILjava/lang/Object;II)V"⟩ ∈ gTb := gm (List.mem_of_getElem? (i := 484) (by decide +kernel)) rfl
theorem w_static_485 : Cond.static ⟨"java/lang/System", "arraycopy", "(Ljava/lang/Object;ILjava/lang/Object;II)V"⟩ ∈ gTb := gm (List.mem_of_getElem? (i := 485) (by decide +kernel)) rfl
theorem wML_Jx4a65c_112 : Cond.methodLink RJx4a65c 112 ⟨"java/lang/System", "arraycopy", "(Ljava/lang/Object;ILjava/lang/Object;II)V"⟩ ∈ gTb := gm (List.mem_of_getElem? (i := 575) (by decide +kernel)) rfl
theorem wML_J7_310 : Cond.methodLink RJ7 310 ⟨"[B", "clone", "()Ljava/lang/Object;"⟩ ∈ gTb := gm (List.mem_of_getElem? (i := 696) (by decide +kernel)) rfl
theorem w_instanceMethod_699 : Cond.instanceMethod ⟨"java/lang/Object", "clone", "()Ljava/lang/Object;"⟩ ∈ gTb := gm (List.mem_of_getElem? (i := 699) (by decide +kernel)) rfl
theorem wML_J7_65 : Cond.methodLink RJ7 65 ⟨"java/lang/IllegalArgumentException", "<init>", "(Ljava/lang/String;)V"⟩ ∈ gTb := gm (List.mem_of_getElem? (i := 846) (by decide +kernel)) rfl
theorem wML_Jx4a65c_193 : Cond.methodLink RJx4a65c 193 ⟨"java/lang/IndexOutOfBoundsException", "<init>", "(Ljava/lang/String;)V"⟩ ∈ gTb := gm (List.mem_of_getElem? (i := 871) (by decide +kernel)) rfl
theorem w_selects_1462 : Cond.selects "[Ljava/lang/Object;" ⟨"java/lang/Object", "getClass", "()Ljava/lang/Class;"⟩ ⟨"java/lang/Object", "getClass", "()Ljava/lang/Class;"⟩ ∈ gTb := gm (List.mem_of_getElem? (i := 1462) (by decide +kernel)) rfl
theorem wMM_J8_194 : Cond.methodLink RJ8 194 Lib.Math.max.name ∈ gTb := gm (List.mem_of_getElem? (i := 448) (by decide +kernel)) rfl
theorem wST_Math_max : Cond.static Lib.Math.max.name ∈ gTb := gm (List.mem_of_getElem? (i := 449) (by decide +kernel)) rfl
theorem wCO_Math_max : Cond.code Lib.Math.max.name Lib.Math.max.code 2 (some .int) ∈ gTb := gm (List.mem_of_getElem? (i := 450) (by decide +kernel)) rfl
theorem wMM_Jx4a65c_79 : Cond.methodLink RJx4a65c 79 Lib.Math.max.name ∈ gTb := gm (List.mem_of_getElem? (i := 487) (by decide +kernel)) rfl
theorem wMM_J7_304 : Cond.methodLink RJ7 304 Lib.Math.min.name ∈ gTb := gm (List.mem_of_getElem? (i := 481) (by decide +kernel)) rfl
theorem wST_Math_min : Cond.static Lib.Math.min.name ∈ gTb := gm (List.mem_of_getElem? (i := 482) (by decide +kernel)) rfl
theorem wCO_Math_min : Cond.code Lib.Math.min.name Lib.Math.min.code 2 (some .int) ∈ gTb := gm (List.mem_of_getElem? (i := 483) (by decide +kernel)) rfl
theorem wMM_J5_138 : Cond.methodLink RJ5 138 Lib.Math.min.name ∈ gTb := gm (List.mem_of_getElem? (i := 1096) (by decide +kernel)) rfl
theorem wINs_J9 : Cond.initialized "java/lang/Math" ∈ gTb := gm (List.mem_of_getElem? (i := 62) (by decide +kernel)) rfl
theorem wINs_J10 : Cond.initialized "java/lang/System" ∈ gTb := gm (List.mem_of_getElem? (i := 64) (by decide +kernel)) rfl
theorem wMA_J7_150 : Cond.methodLink RJ7 150 arraycopyName ∈ gTb := gm (List.mem_of_getElem? (i := 484) (by decide +kernel)) rfl
theorem wST_arraycopy : Cond.static arraycopyName ∈ gTb := gm (List.mem_of_getElem? (i := 485) (by decide +kernel)) rfl
theorem wNA_arraycopy : Cond.native arraycopyName ∈ gTb := gm (List.mem_of_getElem? (i := 486) (by decide +kernel)) rfl
theorem wMA_Jx4a65c_112 : Cond.methodLink RJx4a65c 112 arraycopyName ∈ gTb := gm (List.mem_of_getElem? (i := 575) (by decide +kernel)) rfl
theorem wMA_J0_212 : Cond.methodLink RJ0 212 arraycopyName ∈ gTb := gm (List.mem_of_getElem? (i := 775) (by decide +kernel)) rfl
end
section
/-! THE CORE: one list of words for all methods, one environment, contracts of one form -/
theorem gpay {s : State} {args : Array Value} (ht : ∀ w ∈ gTb, w.before args s = true) : ∀ w ∈ gTb, ∀ (a' : Array Value) (U : State), s.WarmedH U.vm → w.before a' U = true := fun w hw _ _ hW => word_at hW (good_of_word (List.mem_filter.mp hw).2) (ht w hw)
/-- the classes: 0 StringBuilder, 1 ArrayList, 2 Member, 3 Room, 4 Ticket, 5 Till, 6 Work, 7 MuseumTill, 8 the reference -/
abbrev mcl : List vw_C := [(RJ4, TJ4, 4), (RJx4a65c, TJx4a65c, 3), (RX0, TX0, 2), (RX1, TX1, 6), (RX2, TX2, 9), (RX3, TX3, 5), (RX4, TX4, 8), (RX5, TX5, 8), (RX6, TX6, 30)]
/-- the classes of arrays -/
abbrev kTy (cy : Nat → ClassId) : List (ClassId × FieldType) := [(cy 0, .int), (cy 1, .boolean), (cy 2, .object RX0), (cy 3, .object RX1), (cy 4, .object RX3), (cy 5, .object "java/lang/Object"), (cy 6, .long), (cy 7, .byte)]
/-- classes' numbers and slots; array classes; the empty array that new lists share; the tables of decimal signs -/
abbrev GE : Type := va_G × (Nat → ClassId) × Nat × Nat × Nat
def dgO (j : Nat) : Value := .int (nI (48 + j % 10))
def dgT (j : Nat) : Value := .int (nI (48 + j / 10))
/-- texts of exceptions: class, entry, text -/
def xTx : List (String × Nat × String) := [(RX5, 286, "no such house"), (RX5, 301, "out of range"), (RX5, 304, "no more tickets"), (RX5, 291, "no such member"), (RX5, 74, "no membership"), (RX5, 83, "a MEMBER ticket of today, or none"), (RX5, 85, "no more guests today"), (RX5, 293, "no such ticket"), (RX5, 306, "not of today, or void"), (RX5, 108, "cannot be given back"), (RX5, 119, "the membership is not over"), (RX5, 289, "no such room"), (RX5, 157, "may not enter"), (RX5, 162, "in no room and in no queue"), (RX5, 177, "no more works"), (RX5, 295, "no such work"), (RX5, 194, "another house"), (RX5, 200, "lent, or its own house"), (RX5, 208, "not lent, or not its own house"), (RX5, 223, "beyond the last day"), (RX5, 297, "no such place")]
def nwCast : List (String × String) := [(RX2, "java/lang/Object"), (RX4, "java/lang/Object"), ("java/lang/IndexOutOfBoundsException", "java/lang/IndexOutOfBoundsException"), ("java/lang/IllegalArgumentException", "java/lang/IllegalArgumentException"), ("java/lang/IllegalStateException", "java/lang/IllegalStateException")]
def nwDecl : List MethodName := [⟨"java/lang/Object", "getClass", "()Ljava/lang/Class;"⟩, ⟨"java/lang/RuntimeException", "<init>", "()V"⟩, ⟨"java/lang/RuntimeException", "<init>", "(Ljava/lang/String;)V"⟩, ⟨"java/lang/Exception", "<init>", "()V"⟩, ⟨"java/lang/Exception", "<init>", "(Ljava/lang/String;)V"⟩, ⟨"java/lang/Throwable", "<init>", "()V"⟩, ⟨"java/lang/Throwable", "<init>", "(Ljava/lang/String;)V"⟩]
def nwArr : List String := [RX3, RX1, RX0, "java/lang/Object"]
/-- what holds of the tables beyond the words that keep themselves -/
def NW (U : State) : Prop := (∀ q ∈ nwCast, va_Nw (.castable q.1 q.2) U) ∧ (∀ x ∈ nwDecl, va_Nw (.declares x) U) ∧ (∀ C ∈ nwArr, va_AO C U) ∧ va_Nw (.methodLinkNest RX5 41 yX0_init RX5) U ∧ (∀ q ∈ xTx, ∃ a, vk_R q.1 q.2.1 q.2.2 a U) ∧ ∃ mi, va_Mi "[Ljava/lang/Object;" mi U
theorem NW.warm {s U : State} (hW : s.WarmedH U.vm) (h : NW s) : NW U := by
  obtain ⟨h1, h2, h3, h4, h5, mi, h6⟩ := h
  exact ⟨fun q hq => va_Nw.warmC hW (h1 q hq), fun x hx => va_Nw.warmD hW (h2 x hx), fun C hC => (h3 C hC).moved hW.alike, va_Nw.warmM hW h4, fun q hq => by obtain ⟨a, ha⟩ := h5 q hq; exact ⟨a, ha.warm hW⟩, mi, h6.moved hW.alike⟩
def EN (A : Nat → Prop) (G : GE) (U : State) (H : Heap) : Prop :=
  (va_K G.1 mcl (kTy G.2.1) U ∧ NW U) ∧ (vx_Zq Bundle.tN "UNASSIGNED_STACK" Bundle.steD A U H ∧ vx_Zq Bundle.tN "SUPPRESSED_SENTINEL" Bundle.listD A U H) ∧
  (va_Z "java/util/ArrayList" "DEFAULTCAPACITY_EMPTY_ELEMENTDATA" "[Ljava/lang/Object;" (.ref G.2.2.1) A U H ∧ va_T (.object "java/lang/Object") G.2.2.1 0 (fun _ => .null) A U H) ∧
  va_Z "java/lang/String" "COMPACT_STRINGS" "Z" (.int 1) A U H ∧
  (va_Z "java/lang/Integer" "DigitOnes" "[B" (.ref G.2.2.2.1) A U H ∧ va_T .byte G.2.2.2.1 100 dgO A U H) ∧
  (va_Z "java/lang/Integer" "DigitTens" "[B" (.ref G.2.2.2.2) A U H ∧ va_T .byte G.2.2.2.2 100 dgT A U H)
theorem EN.warm {A : Nat → Prop} {G : GE} {s U : State} {H : Heap} (hW : s.WarmedH U.vm) (h : EN A G s H) : EN A G U H := by
  obtain ⟨⟨h1, h2⟩, ⟨h3, h4⟩, ⟨h5, h6⟩, h7, ⟨h8, h9⟩, h10, h11⟩ := h
  have hv := hW.alike
  exact ⟨⟨h1.moved hv, h2.warm hW⟩, ⟨h3.moved hv, h4.moved hv⟩, ⟨h5.moved hv, h6.moved hv⟩, h7.moved hv, ⟨h8.moved hv, h9.moved hv⟩, h10.moved hv, h11.moved hv⟩
theorem EN.kept {A : Nat → Prop} {G : GE} {U : State} {H H1 : Heap} (h : EN A G U H) (hq : ∀ a : Nat, a < H.size → ¬ A a → H1[a]? = H[a]?) : EN A G U H1 := by
  obtain ⟨h1, ⟨h3, h4⟩, ⟨h5, h6⟩, h7, ⟨h8, h9⟩, h10, h11⟩ := h
  exact ⟨h1, ⟨h3.kept hq, h4.kept hq⟩, ⟨h5.kept hq, h6.kept hq⟩, h7.kept hq, ⟨h8.kept hq, h9.kept hq⟩, h10.kept hq, h11.kept hq⟩
theorem EN.narrow {A B : Nat → Prop} {G : GE} {U : State} {H : Heap} (h : EN A G U H) (hAB : ∀ q, B q → A q) : EN B G U H := by
  obtain ⟨h1, ⟨h3, h4⟩, ⟨h5, h6⟩, h7, ⟨h8, h9⟩, h10, h11⟩ := h
  exact ⟨h1, ⟨h3.narrow hAB, h4.narrow hAB⟩, ⟨h5.narrow hAB, h6.narrow hAB⟩, h7.narrow hAB, ⟨h8.narrow hAB, h9.narrow hAB⟩, h10.narrow hAB, h11.narrow hAB⟩
/-- nothing outside A has changed, and nothing went -/
def KF (A : Nat → Prop) (H H1 : Heap) : Prop := H.size ≤ H1.size ∧ ∀ q : Nat, q < H.size → ¬ A q → H1[q]? = H[q]?
theorem KF.old {H H1 : Heap} {z : Nat} (hz : H.size ≤ z) (h : KF (fun q => z ≤ q) H H1) {q : Nat} (hq : q < H.size) : H1[q]? = H[q]? := h.2 q hq (fun k => by omega)
/-- a room for k levels of calls -/
abbrev rmL (k mc ms : Nat) : Room := { frames := 8 * k, cells := mc, slots := ms, locals := 200 * k }
def KP (av : List Value) (A : Nat → Prop) (G : GE) (P : Heap → Prop) : Array Value → State → Prop := va_Pc av (fun U => EN A G U U.heap ∧ (∀ q, U.heap.size ≤ q → A q) ∧ P U.heap)
def KQc (A : Nat → Prop) (Q : Option Value → Heap → Prop) : Array Value → State → Outcome → State → Prop := fun _ st o t => (∃ v, o = .returned v ∧ Q v t.heap) ∧ va_F A st t
def KXc (A : Nat → Prop) (X : String → Heap → Prop) : String → State → State → Prop := fun E st t => X E t.heap ∧ va_F A st t
/-- A CONTRACT: from every heap with P the method returns v with Q v, or throws an exception of class E with X E; what isn't in A stays -/
def KM (l : Launch) (G : GE) (A : Nat → Prop) (y : MethodName) (cc : ByteArray) (n : Nat) (ret : Option FieldType) (rm : Room) (av : List Value) (P : Heap → Prop) (Q : Option Value → Heap → Prop) (X : String → Heap → Prop) : Prop :=
  vx_Met l y (.code y cc n ret :: gTb) rm (KP av A G P) (KQc A Q) (KXc A X) rm.cells rm.slots A
/-- where a method's walk ends -/
def KE (below : List Frame) (A : Nat → Prop) (Q : Option Value → Heap → Prop) (X : String → Heap → Prop) (args : Array Value) (s : State) (rm : Room) : State → Prop := vx_MQ below (KQc A Q) (KXc A X) args s rm.cells rm.slots A
/-- what a walk stands on -/
def FX (l : Launch) (p : Program) (m : MethodId) (meth : Method) (c : Code) (cc : ByteArray) (n : Nat) (ret : Option FieldType) (s : State) (args : Array Value) (y : MethodName) (A : Nat → Prop) (G : GE) : Prop :=
  CallFix p m c cc n s args gTb y.cls ∧ meth.sig.returnType = ret ∧ meth.locks = false ∧ meth.name = y.name ∧ (∀ x ∈ c.exceptionTable.toList, False) ∧ EN A G s s.heap ∧ (∀ q, s.heap.size ≤ q → A q)
theorem KM.of {l : Launch} {G : GE} {A : Nat → Prop} {y : MethodName} {cc : ByteArray} {n : Nat} {ret : Option FieldType} {rm : Room} {av : List Value} {P : Heap → Prop} {Q : Option Value → Heap → Prop} {X : String → Heap → Prop} (hy : plainName y.cls = true) (hn : (lg_sl av).length ≤ n)
    (body : ∀ (p : Program) (e : Env) (s : State) (m : MethodId) (args : Array Value) (below : List Frame) (meth : Method) (c : Code), FX l p m meth c cc n ret s args y A G → P s.heap → ∀ ls : Array Slot, lv_has ls n (lv_args 0 av) →
      W p l e rm s m args below meth c s.heap [] 0 0 (KE below A Q X args s rm) (F0 m 0 ls [])) : KM l G A y cc n ret rm av P Q X := by
  refine vx_ofW (cc := cc) (maxL := n) (ret := ret) hy rfl ?_
  intro p e s m args below meth c s₁ B hml hno hv
  obtain ⟨rfl, hE, hA, hP⟩ := hv
  have hts := atoms_spec (ws := .code y cc n ret :: gTb) B.pre
  have hown : s.vm.findClass y.cls = some m.cls := findClass_of_methodNamed B.named
  have hin : meth.name = y.name := (name_of_methodNamed B.named B.method).1
  have hl := lv_entry av hn
  rw [lg_entry_eq]
  exact body p e s m _ below meth c ⟨⟨B.exec, B.bytes, hml, hown, fun w hw => hts w (List.mem_cons_of_mem _ hw)⟩, B.returns, B.notSynchronized, hin, hno, hE, hA⟩ hP _ hl
theorem at1 {D : va_G} {cl : List vw_C} {q : Nat × va_E} {H : Heap} (h : va_at D cl q H) : va_P D cl [q] H := by
  intro k x hx
  cases k with
  | zero => cases hx; exact h
  | succ k => simp at hx
theorem atK {D : va_G} {cl : List vw_C} {q : Nat × va_E} {H H1 : Heap} {A : Nat → Prop} (h : va_at D cl q H) (k : KF A H H1) (hq : ¬ A q.1) : va_at D cl q H1 := h.kept (k.2 _ h.lt hq)
theorem EN.at {A : Nat → Prop} {G : GE} {s : State} {H : Heap} {locs : List Loc} (h : EN A G s s.heap) (hS : va_S A s.heap H locs) : EN A G s H := h.kept hS.2.1
section ROWS
variable {p : Program} {l : Launch} {e : Env} {R : Room} {s : State} {m : MethodId} {args : Array Value} {below : List Frame} {meth : Method} {c : Code} {H : Heap} {locs : List Loc} {cells slots : Nat} {Q : State → Prop}
variable {cc : ByteArray} {pc : Nat} {ls : Array Slot} {rest : List Value} {D : va_G} {cl : List vw_C} {A : Nat → Prop} {a : Nat} {tys : List (ClassId × FieldType)} {H0 : Heap}
theorem xget (hexec : p.tables.exec = Jvm.exec) (hb : c.code = cc) {own ref C : String} {T : u_T} {N ci index : Nat} {Ts : List Cond} (hts : ∀ w ∈ Ts, w.before args s = true) (hin : ∀ w ∈ u_ws C T N, w ∈ Ts) (hown : s.vm.findClass own = some m.cls) (hK : va_K D cl tys s) {fs : List Value} (he : va_at D cl (a, .inr (ci, fs)) H) (hc : cl[ci]? = some (C, T, N)) (k : Nat) (hk : k < N) (hlink : Cond.fieldLink own index ref (T k).2.1 (T k).2.2.1 ∈ Ts) (hsame : ∀ x, s.fieldFound? (T k).1 (T k).2.1 (T k).2.2.1 = some x → s.fieldFound? ref (T k).2.1 (T k).2.2.1 = some x) {v : Value} (hv : fs[k]? = some v) (hdg : decode cc pc = .ok (.getfield index, 3))
    (kk : W p l e R s m args below meth c H locs cells slots Q (F0 m (pc + 3) ls (v :: rest))) : W p l e R s m args below meth c H locs cells slots Q (F0 m pc ls (.ref a :: rest)) :=
  va_get (ws := [(a, .inr (ci, fs))]) hexec hb hts hin hown hK (at1 he) 0 rfl hc k hk (hts _ hlink) hsame hv hdg kk
theorem xput (hexec : p.tables.exec = Jvm.exec) (hb : c.code = cc) {own ref C : String} {T : u_T} {N ci index : Nat} {Ts : List Cond} (hts : ∀ w ∈ Ts, w.before args s = true) (hin : ∀ w ∈ u_ws C T N, w ∈ Ts) (ty0 : Nat → FieldType) (hty : ∀ k, k < N → parseFieldDescriptor (T k).2.2.1 = some (ty0 k)) (hnm : ∀ a, a < N → ∀ b, b < N → a ≠ b → (T a).2.1 ≠ (T b).2.1) (hown : s.vm.findClass own = some m.cls) (hK : va_K D cl tys s) (hS0 : va_S A H0 H locs) {fs : List Value} (he : va_at D cl (a, .inr (ci, fs)) H) (hA : A a) (hc : cl[ci]? = some (C, T, N)) (k : Nat) (hk : k < N) (hlink : Cond.fieldLink own index ref (T k).2.1 (T k).2.2.1 ∈ Ts) (hsame : ∀ x, s.fieldFound? (T k).1 (T k).2.1 (T k).2.2.1 = some x → s.fieldFound? ref (T k).2.1 (T k).2.2.1 = some x) (hfin : (T k).2.2.2 = false) {v : Value} (hd : parseFieldDescriptor (T k).2.2.1 = some (ty0 k)) (hn : narrow (ty0 k) v = v) (hfit : fits (ty0 k) v = true) (hl : k < fs.length)
    (hdg : decode cc pc = .ok (.putfield index, 3)) (kk : ∀ (H1 : Heap) (locs1 : List Loc), va_at D cl (a, .inr (ci, fs.set k v)) H1 → H1.size = H.size → (∀ q, q ≠ a → H1[q]? = H[q]?) → va_S A H0 H1 locs1 → W p l e R s m args below meth c H1 locs1 cells slots Q (F0 m (pc + 3) ls rest)) : W p l e R s m args below meth c H locs cells slots Q (F0 m pc ls (v :: .ref a :: rest)) := by
  have hap := va_apart (own := own) hts hin ty0 hty hnm hK hc
  obtain ⟨r, h1, cell, q1, q2, q3, q4⟩ := he
  have hr : r = (C, T, N) := Option.some.inj (h1.symm.trans hc)
  subst hr
  obtain ⟨hS, hfc, kC, hkC, hkind⟩ := hK.1 ci _ hc
  obtain ⟨cf, kf, fi, f, hi, hsl⟩ := hS k hk
  have hlay := hts _ (hin _ (u_in_lay hk))
  unfold u_lay at hlay
  rw [if_neg (by rw [hfin]; decide)] at hlay
  have hst := (u_facts hfc hkC (u_lays hts hin hk) hi).1
  have h6 := u_store hfc hkC hkind hlay hi hd hn hfit
  refine W.putK hexec hb (f := f) ⟨hown, hts _ hlink, ⟨_, _, _, hsame _ hi⟩, hst⟩ (by rw [q2]; exact h6) q1 q3 (by rw [hsl]; exact k2_hasslot (q4 k hk)) rfl rfl hdg fun H' e1 e2 e3 => ?_
  rw [hsl] at e1 ⊢
  exact kk H' _ ⟨_, hc, t_OB.to (V := updV (vp_V fs) k v) ⟨_, e1, q2, q3, t_set q4 hap hk v⟩ (fun j _ => vp_updV_set hl v j)⟩ e2 e3 (hS0.put e2 e3 hA)
theorem xputF (hexec : p.tables.exec = Jvm.exec) (hb : c.code = cc) {own ref C : String} {T : u_T} {N ci index : Nat} {Ts : List Cond} (hts : ∀ w ∈ Ts, w.before args s = true) (hin : ∀ w ∈ u_ws C T N, w ∈ Ts) (ty0 : Nat → FieldType) (hty : ∀ k, k < N → parseFieldDescriptor (T k).2.2.1 = some (ty0 k)) (hnm : ∀ a, a < N → ∀ b, b < N → a ≠ b → (T a).2.1 ≠ (T b).2.1) (hown : s.vm.findClass own = some m.cls) (hK : va_K D cl tys s) (hS0 : va_S A H0 H locs) {fs : List Value} (he : va_at D cl (a, .inr (ci, fs)) H) (hA : A a) (hc : cl[ci]? = some (C, T, N)) (k : Nat) (hk : k < N) (hlink : Cond.fieldLink own index ref (T k).2.1 (T k).2.2.1 ∈ Ts) (hsame : ∀ x, s.fieldFound? (T k).1 (T k).2.1 (T k).2.2.1 = some x → s.fieldFound? ref (T k).2.1 (T k).2.2.1 = some x) (hfin : (T k).2.2.2 = true) (hin2 : meth.name = "<init>") (hdecl : (T k).1 = own) {v : Value} (hd : parseFieldDescriptor (T k).2.2.1 = some (ty0 k)) (hn : narrow (ty0 k) v = v) (hfit : fits (ty0 k) v = true) (hl : k < fs.length)
    (hdg : decode cc pc = .ok (.putfield index, 3)) (kk : ∀ (H1 : Heap) (locs1 : List Loc), va_at D cl (a, .inr (ci, fs.set k v)) H1 → H1.size = H.size → (∀ q, q ≠ a → H1[q]? = H[q]?) → va_S A H0 H1 locs1 → W p l e R s m args below meth c H1 locs1 cells slots Q (F0 m (pc + 3) ls rest)) : W p l e R s m args below meth c H locs cells slots Q (F0 m pc ls (v :: .ref a :: rest)) := by
  have hap := va_apart (own := own) hts hin ty0 hty hnm hK hc
  obtain ⟨r, h1, cell, q1, q2, q3, q4⟩ := he
  have hr : r = (C, T, N) := Option.some.inj (h1.symm.trans hc)
  subst hr
  obtain ⟨hS, hfc, kC, hkC, hkind⟩ := hK.1 ci _ hc
  obtain ⟨cf, kf, fi, f, hi, hsl⟩ := hS k hk
  have hlay := hts _ (hin _ (u_in_lay hk))
  unfold u_lay at hlay
  rw [if_pos hfin] at hlay
  have hst := (u_facts hfc hkC (u_lays hts hin hk) hi).1
  have hcf : m.cls = cf := by
    obtain ⟨_, _, c', _, _, _, -, -, hf', -, -, -, hown2, -⟩ := Cond.laysFinal_spec hlay
    have e1 : c' = cf := by have := hi.symm.trans hf'; simp at this; exact this.1.symm
    rw [hdecl] at hown2
    rw [← e1]; exact Option.some.inj (hown.symm.trans hown2)
  have h6 := u_fits hfc hkC hkind (Or.inr hlay) hi hd hn hfit
  refine W.putFinK hexec hb hown (hts _ hlink) (hsame _ hi) hst hcf hin2 (by rw [q2]; exact h6) q1 q3 (by rw [hsl]; exact k2_hasslot (q4 k hk)) rfl rfl hdg fun H' e1 e2 e3 => ?_
  rw [hsl] at e1 ⊢
  exact kk H' _ ⟨_, hc, t_OB.to (V := updV (vp_V fs) k v) ⟨_, e1, q2, q3, t_set q4 hap hk v⟩ (fun j _ => vp_updV_set hl v j)⟩ e2 e3 (hS0.put e2 e3 hA)
theorem xiald (hexec : p.tables.exec = Jvm.exec) (hb : c.code = cc) (hK : va_K D cl tys s) {cA : ClassId} {n : Nat} {f : Nat → Int32} (ha : va_at D cl (a, .inl (cA, n, .inl f)) H) (t0 : Nat) (ht : tys[t0]? = some (cA, .int)) {k : Nat} {i : Int32} (hi : i = nI k) (hk : k < n) (hn : n < 2 ^ 31) (hdg : decode cc pc = .ok (.iaload, 1))
    (kk : W p l e R s m args below meth c H locs cells slots Q (F0 m (pc + 1) ls (.int (f k) :: rest))) : W p l e R s m args below meth c H locs cells slots Q (F0 m pc ls (.int i :: .ref a :: rest)) := by
  subst hi
  refine va_iald (ws := [(a, .inl (cA, n, .inl f))]) hexec hb hK (at1 ha) 0 t0 rfl ht (vp_in_nI hk hn) hdg ?_
  rw [nI_clamp (by omega)]
  exact kk
theorem xzald (hexec : p.tables.exec = Jvm.exec) (hb : c.code = cc) (hK : va_K D cl tys s) {cA : ClassId} {n : Nat} {f : Nat → Int32} (ha : va_at D cl (a, .inl (cA, n, .inl f)) H) (t0 : Nat) (ht : tys[t0]? = some (cA, .boolean)) {k : Nat} {i : Int32} (hi : i = nI k) (hk : k < n) (hn : n < 2 ^ 31) (hdg : decode cc pc = .ok (.baload, 1))
    (kk : W p l e R s m args below meth c H locs cells slots Q (F0 m (pc + 1) ls (.int (f k) :: rest))) : W p l e R s m args below meth c H locs cells slots Q (F0 m pc ls (.int i :: .ref a :: rest)) := by
  subst hi
  refine va_zald (ws := [(a, .inl (cA, n, .inl f))]) hexec hb hK (at1 ha) 0 t0 rfl ht (vp_in_nI hk hn) hdg ?_
  rw [nI_clamp (by omega)]
  exact kk
theorem xaald (hexec : p.tables.exec = Jvm.exec) (hb : c.code = cc) (hK : va_K D cl tys s) {cA : ClassId} {C : String} {n : Nat} {f : Nat → Option Nat} (ha : va_at D cl (a, .inl (cA, n, .inr (.inr (.inr (.inr f))))) H) (t0 : Nat) (ht : tys[t0]? = some (cA, .object C)) {k y : Nat} {i : Int32} (hi : i = nI k) (hk : k < n) (hn : n < 2 ^ 31) (hy : f k = some y) (hdg : decode cc pc = .ok (.aaload, 1))
    (kk : W p l e R s m args below meth c H locs cells slots Q (F0 m (pc + 1) ls (.ref y :: rest))) : W p l e R s m args below meth c H locs cells slots Q (F0 m pc ls (.int i :: .ref a :: rest)) := by
  subst hi
  refine va_aldq (ws := [(a, .inl (cA, n, .inr (.inr (.inr (.inr f)))))]) hexec hb hK (at1 ha) 0 t0 rfl ht (vp_in_nI hk hn) hdg ?_
  rw [nI_clamp (by omega), hy]
  exact kk
theorem xalen (hexec : p.tables.exec = Jvm.exec) (hb : c.code = cc) (hK : va_K D cl tys s) {cA : ClassId} {x : vp_A} (ha : va_at D cl (a, .inl (cA, x)) H) (t0 : Nat) {ty : FieldType} (ht : tys[t0]? = some (cA, ty)) (hdg : decode cc pc = .ok (.arraylength, 1))
    (kk : W p l e R s m args below meth c H locs cells slots Q (F0 m (pc + 1) ls (.int (nI x.1) :: rest))) : W p l e R s m args below meth c H locs cells slots Q (F0 m pc ls (.ref a :: rest)) :=
  va_alen (ws := [(a, .inl (cA, x))]) hexec hb hK (at1 ha) 0 t0 rfl ht rfl hdg kk
theorem xiast (hexec : p.tables.exec = Jvm.exec) (hb : c.code = cc) (hK : va_K D cl tys s) (hS : va_S A H0 H locs) {cA : ClassId} {n : Nat} {f : Nat → Int32} (ha : va_at D cl (a, .inl (cA, n, .inl f)) H) (hA : A a) (t0 : Nat) (ht : tys[t0]? = some (cA, .int)) {k : Nat} {i x : Int32} (hi : i = nI k) (hk : k < n) (hn : n < 2 ^ 31) (hdg : decode cc pc = .ok (.iastore, 1))
    (kk : ∀ (H1 : Heap) (locs1 : List Loc), va_at D cl (a, .inl (cA, n, .inl (upd f k x))) H1 → H1.size = H.size → (∀ q, q ≠ a → H1[q]? = H[q]?) → va_S A H0 H1 locs1 → W p l e R s m args below meth c H1 locs1 cells slots Q (F0 m (pc + 1) ls rest)) : W p l e R s m args below meth c H locs cells slots Q (F0 m pc ls (.int x :: .int i :: .ref a :: rest)) := by
  subst hi
  have hin := vp_in_nI hk hn
  refine W.iast hexec hb ha ((hK.2 t0 _ ht).1 n (fun j => .int (f j))) (fun q => by cases q) (by show ¬ (nI k < 0 ∨ (arrV _ _ _).slots.size ≤ _); rw [arrV_size]; exact hin) rfl rfl hdg fun H1 e z oq => ?_
  refine kk H1 _ ?_ z oq (hS.put z oq hA)
  show H1[a]? = some (vp_cell _ _)
  rw [e]
  rw [vp_cell_i, vp_cell_i, arrV_store, nI_clamp (by omega)]
  congr 2
  funext q
  by_cases hq : q = k
  · subst hq
    simp [updV, upd]
  · simp [updV, upd, hq]
theorem xzast (hexec : p.tables.exec = Jvm.exec) (hb : c.code = cc) (hK : va_K D cl tys s) (hS : va_S A H0 H locs) {cA : ClassId} {n : Nat} {f : Nat → Int32} (ha : va_at D cl (a, .inl (cA, n, .inl f)) H) (hA : A a) (t0 : Nat) (ht : tys[t0]? = some (cA, .boolean)) {k : Nat} {i x : Int32} (hi : i = nI k) (hk : k < n) (hn : n < 2 ^ 31) (hx : x = 0 ∨ x = 1) (hdg : decode cc pc = .ok (.bastore, 1))
    (kk : ∀ (H1 : Heap) (locs1 : List Loc), va_at D cl (a, .inl (cA, n, .inl (upd f k x))) H1 → H1.size = H.size → (∀ q, q ≠ a → H1[q]? = H[q]?) → va_S A H0 H1 locs1 → W p l e R s m args below meth c H1 locs1 cells slots Q (F0 m (pc + 1) ls rest)) : W p l e R s m args below meth c H locs cells slots Q (F0 m pc ls (.int x :: .int i :: .ref a :: rest)) := by
  subst hi
  have hin := vp_in_nI hk hn
  have hnz : narrow .boolean (.int x) = .int x := by rcases hx with h | h <;> subst h <;> rfl
  refine W.zast hexec hb ha ((hK.2 t0 _ ht).1 n (fun j => .int (f j))) (fun q => by cases q) (by show ¬ (nI k < 0 ∨ (arrV _ _ _).slots.size ≤ _); rw [arrV_size]; exact hin) rfl rfl hdg fun H1 e z oq => ?_
  refine kk H1 _ ?_ z oq (hS.put z oq hA)
  show H1[a]? = some (vp_cell _ _)
  rw [e, hnz]
  rw [vp_cell_i, vp_cell_i, arrV_store, nI_clamp (by omega)]
  congr 2
  funext q
  by_cases hq : q = k
  · subst hq
    simp [updV, upd]
  · simp [updV, upd, hq]
end ROWS
section ENDS
variable {p : Program} {l : Launch} {e : Env} {R : Room} {s : State} {m : MethodId} {args : Array Value} {below : List Frame} {meth : Method} {c : Code} {H : Heap} {locs : List Loc} {cells slots : Nat}
variable {cc : ByteArray} {pc : Nat} {ls : Array Slot} {rest : List Value} {A : Nat → Prop} {Q : Option Value → Heap → Prop} {X : String → Heap → Prop} {rm : Room}
theorem kiret {v : Int32} (hx : p.tables.exec = Jvm.exec) (hb : c.code = cc) (hr : meth.sig.returnType = some .int) (hlocks : meth.locks = false) (hS : va_S A s.heap H locs) (hc : cells ≤ rm.cells) (hs : slots ≤ rm.slots) (hdg : decode cc pc = .ok (.ireturn, 1)) (hq : Q (some (.int v)) H) : W p l e R s m args below meth c H locs cells slots (KE below A Q X args s rm) (F0 m pc ls [.int v]) :=
  W.widen hc hs (vx_ret (W.iret hx hb hr (fun t ht _ => ⟨⟨_, rfl, by rw [ht]; exact hq⟩, hS.F ht⟩) hS.2.2 hdg hlocks))
theorem kzret {v : Int32} (hx : p.tables.exec = Jvm.exec) (hb : c.code = cc) (hr : meth.sig.returnType = some .boolean) (hlocks : meth.locks = false) (hS : va_S A s.heap H locs) (hc : cells ≤ rm.cells) (hs : slots ≤ rm.slots) (hv : v = 0 ∨ v = 1) (hdg : decode cc pc = .ok (.ireturn, 1)) (hq : Q (some (.int v)) H) : W p l e R s m args below meth c H locs cells slots (KE below A Q X args s rm) (F0 m pc ls [.int v]) :=
  W.widen hc hs (vx_ret (W.zret hx hb hr (by rcases hv with h | h <;> subst h <;> rfl) (fun t ht _ => ⟨⟨_, rfl, by rw [ht]; exact hq⟩, hS.F ht⟩) hS.2.2 hdg hlocks))
theorem knret {v : Int32} {ty : FieldType} (hx : p.tables.exec = Jvm.exec) (hb : c.code = cc) (hr : meth.sig.returnType = some ty) (hn : narrow ty (.int v) = .int v) (hlocks : meth.locks = false) (hS : va_S A s.heap H locs) (hc : cells ≤ rm.cells) (hs : slots ≤ rm.slots) (hdg : decode cc pc = .ok (.ireturn, 1)) (hq : Q (some (.int v)) H) : W p l e R s m args below meth c H locs cells slots (KE below A Q X args s rm) (F0 m pc ls [.int v]) :=
  W.widen hc hs (vx_ret (W.zret hx hb hr hn (fun t ht _ => ⟨⟨_, rfl, by rw [ht]; exact hq⟩, hS.F ht⟩) hS.2.2 hdg hlocks))
theorem kvret (hx : p.tables.exec = Jvm.exec) (hb : c.code = cc) (hr : meth.sig.returnType = none) (hlocks : meth.locks = false) (hS : va_S A s.heap H locs) (hc : cells ≤ rm.cells) (hs : slots ≤ rm.slots) (hdg : decode cc pc = .ok (.return_, 1)) (hq : Q none H) : W p l e R s m args below meth c H locs cells slots (KE below A Q X args s rm) (F0 m pc ls []) :=
  W.widen hc hs (vx_ret (W.vret hx hb hr (fun t ht _ => ⟨⟨_, rfl, by rw [ht]; exact hq⟩, hS.F ht⟩) hS.2.2 hdg hlocks))
theorem karet {a : Nat} {n : String} (hx : p.tables.exec = Jvm.exec) (hb : c.code = cc) (hr : meth.sig.returnType = some (.object n)) (hlocks : meth.locks = false) (hS : va_S A s.heap H locs) (hc : cells ≤ rm.cells) (hs : slots ≤ rm.slots) (hdg : decode cc pc = .ok (.areturn, 1)) (hq : Q (some (.ref a)) H) : W p l e R s m args below meth c H locs cells slots (KE below A Q X args s rm) (F0 m pc ls [.ref a]) :=
  W.widen hc hs (vx_ret (W.aret hx hb hr (Or.inl ⟨_, rfl⟩) (Or.inr ⟨_, rfl⟩) (fun t ht _ => ⟨⟨_, rfl, by rw [ht]; exact hq⟩, hS.F ht⟩) hS.2.2 hdg hlocks))
theorem karetA {a : Nat} {n : FieldType} (hx : p.tables.exec = Jvm.exec) (hb : c.code = cc) (hr : meth.sig.returnType = some (.array n)) (hlocks : meth.locks = false) (hS : va_S A s.heap H locs) (hc : cells ≤ rm.cells) (hs : slots ≤ rm.slots) (hdg : decode cc pc = .ok (.areturn, 1)) (hq : Q (some (.ref a)) H) : W p l e R s m args below meth c H locs cells slots (KE below A Q X args s rm) (F0 m pc ls [.ref a]) :=
  W.widen hc hs (vx_ret (W.aret hx hb hr (Or.inr ⟨_, rfl⟩) (Or.inr ⟨_, rfl⟩) (fun t ht _ => ⟨⟨_, rfl, by rw [ht]; exact hq⟩, hS.F ht⟩) hS.2.2 hdg hlocks))
/-- an exception goes on to the caller -/
theorem kout {G : GE} {E : String} {ce : Cell} {q : Addr} (hno : ∀ x ∈ c.exceptionTable.toList, False) (hlocks : meth.locks = false) (hS : va_S A s.heap H locs) (hc : cells ≤ rm.cells) (hs : slots ≤ rm.slots) (hcell : H[q]? = some ce) (hv : ce.vm = .none) (hcl : s.vm.findClass E = some ce.cls) (hq : X E H) : vx_W p l e R s m args below meth c H locs cells slots (KE below A Q X args s rm) (F0 m pc ls rest) q :=
  vx_out (fun x hx => (hno x hx).elim) hlocks hcell hv hcl (fun t ht _ => ⟨by rw [ht]; exact hq, hS.F ht⟩) hS.2.2 hc hs
end ENDS
theorem KP.blind {av : List Value} {A : Nat → Prop} {G : GE} {P : Heap → Prop} : FrameBlind (KP av A G P) := by
  intro a U g mk h
  obtain ⟨h1, h2, h3, h4⟩ := h
  exact ⟨h1, EN.warm (s := U) (U := U.calling g mk a) (State.WarmedH.refl U) h2, h3, h4⟩
section CALLS
variable {p : Program} {l : Launch} {e : Env} {R : Room} {s : State} {m : MethodId} {args : Array Value} {below : List Frame} {meth : Method} {c : Code} {H : Heap} {locs : List Loc} {cells slots : Nat} {Qw : State → Prop}
variable {pc : Nat} {ls : Array Slot} {rest st0 : List Value} {a : Array Value} {A A1 : Nat → Prop} {Q : Option Value → Heap → Prop} {X : String → Heap → Prop} {rm : Room} {G : GE} {P : Heap → Prop}
theorem kpre {As : List Value} (hE : EN A G s s.heap) (hS : va_S A s.heap H locs) (h1 : ∀ q, A1 q → A q) (h2 : ∀ q, H.size ≤ q → A1 q) (hP : P H) (U : State) (hU : U.heap = H) (hW : s.WarmedH U.vm) : KP As A1 G P As.toArray U :=
  ⟨rfl, by rw [hU]; exact ((hE.at hS).narrow h1).warm hW, by rw [hU]; exact h2, by rw [hU]; exact hP⟩
/-- behind a call -/
theorem kgo {mc ms : Nat} (hr : vx_Run p l e R s m args below meth c H locs cells slots mc ms (F0 m pc ls st0) rest (KQc A1 Q a) (KXc A1 X) A1) (hS : va_S A s.heap H locs) (h1 : ∀ q, A1 q → A q)
    (kx : ∀ (E : String) (ce : Cell) (q9 : Addr) (H1 : Heap) (locs1 : List Loc), X E H1 → KF A1 H H1 → va_S A s.heap H1 locs1 → H1[q9]? = some ce → ce.vm = .none → s.vm.findClass E = some ce.cls → vx_W p l e R s m args below meth c H1 locs1 (cells + mc) (slots + ms) Qw (F0 m pc ls rest) q9)
    (kk : ∀ (v : Option Value) (H1 : Heap) (locs1 : List Loc), Q v H1 → KF A1 H H1 → va_S A s.heap H1 locs1 → W p l e R s m args below meth c H1 locs1 (cells + mc) (slots + ms) Qw (F0 m (pc + 3) ls (v.toList ++ rest))) : W p l e R s m args below meth c H locs cells slots Qw (F0 m pc ls st0) := by
  have keep : ∀ (t T' : State) (L : List Loc), T'.heap = t.heap → (∀ q ∈ L, A1 q.base) → H.size ≤ t.heap.size → (∀ q : Nat, q < H.size → ¬ A1 q → t.heap[q]? = H[q]?) → KF A1 H T'.heap ∧ va_S A s.heap T'.heap (locs ++ L) := by
    intro t T' L e1 hL hz hk
    refine ⟨⟨by rw [e1]; exact hz, fun q g1 g2 => by rw [e1]; exact hk q g1 g2⟩, ⟨Nat.le_trans hS.1 (by rw [e1]; exact hz), fun q g1 g2 => ?_, fun q hq => ?_⟩⟩
    · rw [e1, hk q (Nat.lt_of_lt_of_le g1 hS.1) (fun z => g2 (h1 q z))]
      exact hS.2.1 q g1 g2
    · rcases List.mem_append.mp hq with h | h
      · exact hS.2.2 q h
      · exact h1 _ (hL q h)
  intro T hT X9
  rcases hr T hT X9 with ⟨v, st₀, t, T', L, h0, X', hL, e1, e2, hqq, st⟩ | ⟨q, st₀, t, T', L, E, ce, h0, X', hL, e1, e2, hxx, hce, hcv, hcl, st⟩
  · obtain ⟨⟨v', hv, hq⟩, hz, hk⟩ := hqq
    cases hv
    rw [h0] at hz hk
    obtain ⟨k1, k2⟩ := keep t T' L e1 hL hz hk
    obtain ⟨t2, a1, b1⟩ := kk v T'.heap (locs ++ L) (by rw [e1]; exact hq) k1 k2 T' rfl X'
    exact ⟨t2, st t2 a1, b1⟩
  · obtain ⟨hx, hz, hk⟩ := hxx
    rw [h0] at hz hk
    obtain ⟨k1, k2⟩ := keep t T' L e1 hL hz hk
    obtain ⟨t2, a1, b1⟩ := kx E ce q T'.heap (locs ++ L) (by rw [e1]; exact hx) k1 k2 (by rw [e1]; exact hce) hcv hcl T' rfl X'
    exact ⟨t2, st.trans a1, b1⟩
variable {y : MethodName} {bytes cc : ByteArray} {maxL nL n index : Nat} {ret : Option FieldType} {own : String} {b : Addr} {As : List Value}
theorem kB (hts : ∀ w ∈ gTb, w.before args s = true) (w1 : Cond.methodLink own index y ∈ gTb) (w4 : Cond.initialized y.cls ∈ gTb) (w5 : Cond.code y bytes maxL ret ∈ gTb) (hd : y.cls ≠ "java/lang/invoke/MethodHandle" ∧ y.cls ≠ "java/lang/invoke/VarHandle" ∧ (parseMethodDescriptor y.desc).map (fun d => d.parameters.length) = some n) (hR : rm.frames + 1 ≤ R.frames ∧ 8 + (maxL + 11) + rm.locals ≤ R.locals) :
    CallB R s args own index y bytes maxL ret (.code y bytes maxL ret :: gTb) rm rm.cells rm.slots n := by
  refine ⟨rfl, rfl, hR.1, hR.2, ?_, List.mem_cons_self, hts _ w5, hts _ w4, ⟨hd.1, hd.2.1⟩, fun sig h => ?_, hts _ w1⟩
  · intro w hw a' U hW
    rcases List.mem_cons.mp hw with h | h
    · subst h
      exact gpay hts _ w5 a' U hW
    · exact gpay hts _ h a' U hW
  · have h2 := hd.2.2
    rw [h] at h2
    exact (Option.some.inj h2).symm
theorem kcallV {ret0 : Option FieldType} {y0 : MethodName} (F : FX l p m meth c cc nL ret0 s args y0 A G) (hM : KM l G A1 y bytes maxL ret rm (.ref b :: As) P Q X)
    (w1 : Cond.methodLink y0.cls index y ∈ gTb) (w2 : Cond.instanceMethod y ∈ gTb) (w3 : Cond.selects y.cls y y ∈ gTb) (w4 : Cond.initialized y.cls ∈ gTb) (w5 : Cond.code y bytes maxL ret ∈ gTb)
    (hd : y.cls ≠ "java/lang/invoke/MethodHandle" ∧ y.cls ≠ "java/lang/invoke/VarHandle" ∧ (parseMethodDescriptor y.desc).map (fun d => d.parameters.length) = some As.length) (hR : rm.frames + 1 ≤ R.frames ∧ 8 + (maxL + 11) + rm.locals ≤ R.locals)
    (hrec : ∃ cell : Cell, H[b]? = some cell ∧ cell.vm.isStatics = false ∧ s.vm.findClass y.cls = some cell.cls) (hS : va_S A s.heap H locs) (h1 : ∀ q, A1 q → A q) (h2 : ∀ q, H.size ≤ q → A1 q) (hP : P H)
    (hst : st0 = As.reverse ++ .ref b :: rest) (hls : ls.size = nL) (hW : (rest.map fun v => v.category).sum ≤ 8) (hdg : decode cc pc = .ok (.invokevirtual index, 3)) (hf : cells + rm.cells ≤ R.cells ∧ slots + rm.slots ≤ R.slots)
    (kx : ∀ (E : String) (ce : Cell) (q9 : Addr) (H1 : Heap) (locs1 : List Loc), X E H1 → KF A1 H H1 → va_S A s.heap H1 locs1 → H1[q9]? = some ce → ce.vm = .none → s.vm.findClass E = some ce.cls → vx_W p l e R s m args below meth c H1 locs1 (cells + rm.cells) (slots + rm.slots) Qw (F0 m pc ls rest) q9)
    (kk : ∀ (v : Option Value) (H1 : Heap) (locs1 : List Loc), Q v H1 → KF A1 H H1 → va_S A s.heap H1 locs1 → W p l e R s m args below meth c H1 locs1 (cells + rm.cells) (slots + rm.slots) Qw (F0 m (pc + 3) ls (v.toList ++ rest))) : W p l e R s m args below meth c H locs cells slots Qw (F0 m pc ls st0) := by
  obtain ⟨C, hr, hlocks, hnm, hno, hE, hA⟩ := F
  have hts := C.2.2.2.2
  exact kgo (vx_runV (As := As) (rest := rest) C hM ⟨kB hts w1 w4 w5 hd hR, hts _ w2, hts _ w3⟩ ⟨KP.blind, hrec, kpre hE hS h1 h2 hP⟩ rfl rfl hls hst (by show 2 * 0 + _ ≤ 8; omega) hdg hf) hS h1 kx kk
theorem kcallS {ret0 : Option FieldType} {y0 : MethodName} (F : FX l p m meth c cc nL ret0 s args y0 A G) (hM : KM l G A1 y bytes maxL ret rm As P Q X)
    (w1 : Cond.methodLink y0.cls index y ∈ gTb) (w2 : Cond.static y ∈ gTb) (w4 : Cond.initialized y.cls ∈ gTb) (w5 : Cond.code y bytes maxL ret ∈ gTb)
    (hd : y.cls ≠ "java/lang/invoke/MethodHandle" ∧ y.cls ≠ "java/lang/invoke/VarHandle" ∧ (parseMethodDescriptor y.desc).map (fun d => d.parameters.length) = some As.length) (hR : rm.frames + 1 ≤ R.frames ∧ 8 + (maxL + 11) + rm.locals ≤ R.locals)
    (hS : va_S A s.heap H locs) (h1 : ∀ q, A1 q → A q) (h2 : ∀ q, H.size ≤ q → A1 q) (hP : P H)
    (hst : st0 = As.reverse ++ rest) (hls : ls.size = nL) (hW : (rest.map fun v => v.category).sum ≤ 8) (hdg : decode cc pc = .ok (.invokestatic index, 3)) (hf : cells + rm.cells ≤ R.cells ∧ slots + rm.slots ≤ R.slots)
    (kx : ∀ (E : String) (ce : Cell) (q9 : Addr) (H1 : Heap) (locs1 : List Loc), X E H1 → KF A1 H H1 → va_S A s.heap H1 locs1 → H1[q9]? = some ce → ce.vm = .none → s.vm.findClass E = some ce.cls → vx_W p l e R s m args below meth c H1 locs1 (cells + rm.cells) (slots + rm.slots) Qw (F0 m pc ls rest) q9)
    (kk : ∀ (v : Option Value) (H1 : Heap) (locs1 : List Loc), Q v H1 → KF A1 H H1 → va_S A s.heap H1 locs1 → W p l e R s m args below meth c H1 locs1 (cells + rm.cells) (slots + rm.slots) Qw (F0 m (pc + 3) ls (v.toList ++ rest))) : W p l e R s m args below meth c H locs cells slots Qw (F0 m pc ls st0) := by
  obtain ⟨C, hr, hlocks, hnm, hno, hE, hA⟩ := F
  have hts := C.2.2.2.2
  exact kgo (vx_runS (As := As) (rest := rest) C hM ⟨kB hts w1 w4 w5 hd hR, hts _ w2⟩ ⟨KP.blind, kpre hE hS h1 h2 hP⟩ rfl rfl hls hst (by show 2 * 0 + _ ≤ 8; omega) hdg hf) hS h1 kx kk
theorem kcallI {ret0 : Option FieldType} {y0 : MethodName} (F : FX l p m meth c cc nL ret0 s args y0 A G) (hM : KM l G A1 y bytes maxL none rm (.ref b :: As) P Q X)
    (w1 : Cond.methodLink y0.cls index y ∈ gTb) (w2 : Cond.instanceMethod y ∈ gTb) (w4 : Cond.initialized y.cls ∈ gTb) (w5 : Cond.code y bytes maxL none ∈ gTb) (hy1 : y.name = "<init>")
    (hd : y.cls ≠ "java/lang/invoke/MethodHandle" ∧ y.cls ≠ "java/lang/invoke/VarHandle" ∧ (parseMethodDescriptor y.desc).map (fun d => d.parameters.length) = some As.length) (hR : rm.frames + 1 ≤ R.frames ∧ 8 + (maxL + 11) + rm.locals ≤ R.locals)
    (hS : va_S A s.heap H locs) (h1 : ∀ q, A1 q → A q) (h2 : ∀ q, H.size ≤ q → A1 q) (hP : P H)
    (hst : st0 = As.reverse ++ .ref b :: rest) (hls : ls.size = nL) (hW : (rest.map fun v => v.category).sum ≤ 8) (hdg : decode cc pc = .ok (.invokespecial index, 3)) (hf : cells + rm.cells ≤ R.cells ∧ slots + rm.slots ≤ R.slots)
    (kx : ∀ (E : String) (ce : Cell) (q9 : Addr) (H1 : Heap) (locs1 : List Loc), X E H1 → KF A1 H H1 → va_S A s.heap H1 locs1 → H1[q9]? = some ce → ce.vm = .none → s.vm.findClass E = some ce.cls → vx_W p l e R s m args below meth c H1 locs1 (cells + rm.cells) (slots + rm.slots) Qw (F0 m pc ls rest) q9)
    (kk : ∀ (v : Option Value) (H1 : Heap) (locs1 : List Loc), Q v H1 → KF A1 H H1 → va_S A s.heap H1 locs1 → W p l e R s m args below meth c H1 locs1 (cells + rm.cells) (slots + rm.slots) Qw (F0 m (pc + 3) ls (v.toList ++ rest))) : W p l e R s m args below meth c H locs cells slots Qw (F0 m pc ls st0) := by
  obtain ⟨C, hr, hlocks, hnm, hno, hE, hA⟩ := F
  have hts := C.2.2.2.2
  exact kgo (vx_runI (As := As) (rest := rest) C hM ⟨kB hts w1 w4 w5 hd hR, hy1, hts _ w2⟩ ⟨KP.blind, kpre hE hS h1 h2 hP⟩ rfl rfl hls hst (by show 2 * 0 + _ ≤ 8; omega) hdg hf) hS h1 kx kk
end CALLS
theorem orec {A : Nat → Prop} {G : GE} {s : State} {H H0 : Heap} {a ci : Nat} {fs : List Value} {q : vw_C} (hE : EN A G s H0) (he : va_at G.1 mcl (a, .inr (ci, fs)) H) (hc : mcl[ci]? = some q) : ∃ cell : Cell, H[a]? = some cell ∧ cell.vm.isStatics = false ∧ s.vm.findClass q.1 = some cell.cls :=
  va_recv (q0 := 0) hE.1.1 (at1 he) hc rfl
theorem frec {l : Launch} {p : Program} {m : MethodId} {meth : Method} {c : Code} {cc : ByteArray} {n : Nat} {ret : Option FieldType} {s : State} {args : Array Value} {y : MethodName} {A : Nat → Prop} {G : GE} (F : FX l p m meth c cc n ret s args y A G) {H : Heap} {a ci : Nat} {fs : List Value} (he : va_at G.1 mcl (a, .inr (ci, fs)) H) (q : vw_C) (hc : mcl[ci]? = some q) : ∃ cell : Cell, H[a]? = some cell ∧ cell.vm.isStatics = false ∧ s.vm.findClass q.1 = some cell.cls :=
  orec F.2.2.2.2.2.1 he hc
/-- a family of cells: kind and place, address, contents -/
def FAM (D : va_G) (cl : List vw_C) (ad : Nat → Nat → Nat) (dm : Nat → Nat → Prop) (ce : Nat → Nat → va_E) (A : Nat → Prop) (H : Heap) : Prop :=
  (∀ k i, dm k i → va_at D cl (ad k i, ce k i) H) ∧ (∀ k i k' i', dm k i → dm k' i' → ad k i = ad k' i' → k = k' ∧ i = i') ∧ ∀ k i, dm k i → A (ad k i)
theorem FAM.put {D : va_G} {cl : List vw_C} {ad : Nat → Nat → Nat} {dm : Nat → Nat → Prop} {ce ce' : Nat → Nat → va_E} {A : Nat → Prop} {H H1 : Heap} (h : FAM D cl ad dm ce A H) {k i : Nat} (hd : dm k i) (he : va_at D cl (ad k i, ce' k i) H1) (oq : ∀ q, q ≠ ad k i → H1[q]? = H[q]?) (hce : ∀ k' i', ¬ (k' = k ∧ i' = i) → dm k' i' → ce' k' i' = ce k' i') : FAM D cl ad dm ce' A H1 := by
  refine ⟨fun k' i' hd' => ?_, h.2.1, h.2.2⟩
  by_cases e : k' = k ∧ i' = i
  · obtain ⟨e1, e2⟩ := e
    subst e1; subst e2
    exact he
  · rw [hce k' i' e hd']
    exact (h.1 k' i' hd').kept (oq _ (fun z => e (h.2.1 k' i' k i hd' hd z)))
theorem FAM.kept {D : va_G} {cl : List vw_C} {ad : Nat → Nat → Nat} {dm : Nat → Nat → Prop} {ce : Nat → Nat → va_E} {A A1 : Nat → Prop} {H H1 : Heap} (h : FAM D cl ad dm ce A H) (k : KF A1 H H1) (hA : ∀ k i, dm k i → ¬ A1 (ad k i)) : FAM D cl ad dm ce A H1 :=
  ⟨fun k' i' hd' => atK (h.1 k' i' hd') k (hA k' i' hd'), h.2.1, h.2.2⟩
theorem FAM.old {D : va_G} {cl : List vw_C} {ad : Nat → Nat → Nat} {dm : Nat → Nat → Prop} {ce : Nat → Nat → va_E} {A : Nat → Prop} {H H1 : Heap} (h : FAM D cl ad dm ce A H) (k : KF (fun q => H.size ≤ q) H H1) : FAM D cl ad dm ce A H1 :=
  h.kept k (fun k' i' hd' => Nat.not_le.mpr (h.1 k' i' hd').lt)
/-! ===== exceptions that the class throws ===== -/
abbrev exN : List String := ["java/lang/RuntimeException", "java/lang/Exception"]
abbrev exB (E : String) : List Cond := .castable E E :: nwDecl.map .declares
abbrev xIO : String := "java/lang/IndexOutOfBoundsException"
abbrev xIA : String := "java/lang/IllegalArgumentException"
abbrev xIS : String := "java/lang/IllegalStateException"
theorem exB_ok {s : State} {args : Array Value} (h : NW s) {E : String} (hE : (E, E) ∈ nwCast) : ∀ w ∈ exB E, w.before args s = true := by
  intro w hw
  rcases List.mem_cons.mp hw with h1 | h1
  · subst h1
    exact va_Nw.use rfl (h.1 _ hE)
  · obtain ⟨x, hx, rfl⟩ := List.mem_map.mp h1
    exact va_Nw.use rfl (h.2.1 x hx)
theorem io_good : ∀ w ∈ (vx_atS RX5 288 xIO exN).filter goodWord, w ∈ lw_tbl := by decide +kernel
theorem io_bad : ∀ w ∈ (vx_atS RX5 288 xIO exN).filter (fun w => !goodWord w), w ∈ exB xIO := by decide +kernel
theorem io_ot : ∀ w ∈ Cond.classLink RX5 284 xIO :: Cond.initialized xIO :: vx_atS RX5 288 xIO exN, vx_ot w = true := by decide +kernel
theorem ia_good : ∀ w ∈ (vx_atS RX5 303 xIA exN).filter goodWord, w ∈ lw_tbl := by decide +kernel
theorem ia_bad : ∀ w ∈ (vx_atS RX5 303 xIA exN).filter (fun w => !goodWord w), w ∈ exB xIA := by decide +kernel
theorem ia_ot : ∀ w ∈ Cond.classLink RX5 299 xIA :: Cond.initialized xIA :: vx_atS RX5 303 xIA exN, vx_ot w = true := by decide +kernel
theorem is_good : ∀ w ∈ (vx_atS RX5 76 xIS exN).filter goodWord, w ∈ lw_tbl := by decide +kernel
theorem is_bad : ∀ w ∈ (vx_atS RX5 76 xIS exN).filter (fun w => !goodWord w), w ∈ exB xIS := by decide +kernel
theorem is_ot : ∀ w ∈ Cond.classLink RX5 72 xIS :: Cond.initialized xIS :: vx_atS RX5 76 xIS exN, vx_ot w = true := by decide +kernel
theorem fgood {L : List Cond} (h : ∀ w ∈ L.filter goodWord, w ∈ lw_tbl) {s : State} {args : Array Value} (ht : ∀ w ∈ gTb, w.before args s = true) : ∀ w ∈ L.filter goodWord, w.before args s = true := fun w hw => ht w (gm (h w hw) (List.mem_filter.mp hw).2)
section THROW
variable {l : Launch} {p : Program} {e : Env} {R : Room} {s : State} {m : MethodId} {args : Array Value} {below : List Frame} {meth : Method} {c : Code} {H : Heap} {locs : List Loc} {cells slots : Nat}
variable {cc : ByteArray} {pc nL : Nat} {ls : Array Slot} {rest : List Value} {A : Nat → Prop} {G : GE} {ret : Option FieldType} {y : MethodName} {Q : Option Value → Heap → Prop} {X : String → Heap → Prop} {rm : Room}
theorem kthrow (F : FX l p m meth c cc nL ret s args y A G) (hl : l.stackTraces = false) (hS : va_S A s.heap H locs) (hls : ls.size = nL) {cls text : String} {ik is ic : Nat} (hcls : Bundle.fit cls = true) (hk : Cond.classLink y.cls ik cls ∈ gTb) (hi : Cond.initialized cls ∈ gTb) (htx : (y.cls, is, text) ∈ xTx) (hc9 : (cls, cls) ∈ nwCast)
    (g1 : ∀ w ∈ (vx_atS y.cls ic cls exN).filter goodWord, w ∈ lw_tbl) (g2 : ∀ w ∈ (vx_atS y.cls ic cls exN).filter (fun w => !goodWord w), w ∈ exB cls) (g3 : ∀ w ∈ Cond.classLink y.cls ik cls :: Cond.initialized cls :: vx_atS y.cls ic cls exN, vx_ot w = true)
    (d0 : decode cc pc = .ok (.new ik, 3)) (d3 : decode cc (pc + 3) = .ok (.dup, 1)) (d4 : decode cc (pc + 4) = .ok (.ldc is, 2)) (d6 : decode cc (pc + 6) = .ok (.invokespecial ic, 3)) (d9 : decode cc (pc + 9) = .ok (.athrow, 1))
    (hRf : 5 < R.frames) (hRl : (rest.map fun v => v.category).sum + 82 ≤ R.locals) (hRc : cells + 1 ≤ R.cells) (hRs : slots + 6 ≤ R.slots) (hc : cells + 1 ≤ rm.cells) (hs : slots + 6 ≤ rm.slots)
    (hx : ∀ H1 : Heap, H.size ≤ H1.size → (∀ q : Nat, q < H.size → H1[q]? = H[q]?) → X cls H1) : W p l e R s m args below meth c H locs cells slots (KE below A Q X args s rm) (F0 m pc ls rest) := by
  obtain ⟨⟨hx1, hb, hml, hown, hts⟩, hr, hlocks, hnm, hno, hE, hA⟩ := F
  obtain ⟨a, ha⟩ := hE.1.2.2.2.2.2.1 _ htx
  refine vx_throwS (names := exN) hx1 hb hl hown hcls (by decide +kernel) (hts _ hk) (hts _ hi) ha (vx_hat (fgood g1 hts) g2 (exB_ok hE.1.2 hc9)) g3 hE.2.1.1 hE.2.1.2 hS (hls.trans hml.symm) d0 d3 d4 d6 d9 (fun x hx => (hno x hx).elim) hRf hRl hRc hRs hlocks (fun t hv hz hq => ⟨hx _ hz hq, ?_⟩) hS.2.2 hc hs
  exact ⟨Nat.le_trans hS.1 hz, fun q h1 h2 => (hq q (Nat.lt_of_lt_of_le h1 hS.1)).trans (hS.2.1 q h1 h2)⟩
end THROW
section CLS
variable {l : Launch} {p : Program} {e : Env} {R : Room} {s : State} {m : MethodId} {args : Array Value} {below : List Frame} {meth : Method} {c : Code} {H : Heap} {locs : List Loc} {cells slots : Nat} {Q : State → Prop}
variable {cc : ByteArray} {pc nL : Nat} {ls : Array Slot} {rest : List Value} {A : Nat → Prop} {a : Nat} {G : GE} {ret : Option FieldType} {y : MethodName}
theorem gX0 (F : FX l p m meth c cc nL ret s args y A G) {fs : List Value} (he : va_at G.1 mcl (a, .inr (2, fs)) H) (k : Nat) (hk : k < 2) {index : Nat} {ref : String} (hlink : Cond.fieldLink y.cls index ref (TX0 k).2.1 (TX0 k).2.2.1 ∈ gTb) (hsame : ∀ x, s.fieldFound? (TX0 k).1 (TX0 k).2.1 (TX0 k).2.2.1 = some x → s.fieldFound? ref (TX0 k).2.1 (TX0 k).2.2.1 = some x) {v : Value} (hv : fs[k]? = some v) (hdg : decode cc pc = .ok (.getfield index, 3))
    (kk : W p l e R s m args below meth c H locs cells slots Q (F0 m (pc + 3) ls (v :: rest))) : W p l e R s m args below meth c H locs cells slots Q (F0 m pc ls (.ref a :: rest)) :=
  xget F.1.1 F.1.2.1 F.1.2.2.2.2 inG_X0 F.1.2.2.2.1 F.2.2.2.2.2.1.1.1 he (show mcl[2]? = some (RX0, TX0, 2) from rfl) k hk hlink hsame hv hdg kk
theorem pX0 (F : FX l p m meth c cc nL ret s args y A G) (hS : va_S A s.heap H locs) {fs : List Value} (he : va_at G.1 mcl (a, .inr (2, fs)) H) (hA : A a) (k : Nat) (hk : k < 2) {index : Nat} {ref : String} (hlink : Cond.fieldLink y.cls index ref (TX0 k).2.1 (TX0 k).2.2.1 ∈ gTb) (hsame : ∀ x, s.fieldFound? (TX0 k).1 (TX0 k).2.1 (TX0 k).2.2.1 = some x → s.fieldFound? ref (TX0 k).2.1 (TX0 k).2.2.1 = some x) (hfin : (TX0 k).2.2.2 = false) {v : Value} (hn : narrow (tyX0 k) v = v) (hfit : fits (tyX0 k) v = true) (hl : k < fs.length) (hdg : decode cc pc = .ok (.putfield index, 3))
    (kk : ∀ (H1 : Heap) (locs1 : List Loc), va_at G.1 mcl (a, .inr (2, fs.set k v)) H1 → H1.size = H.size → (∀ q, q ≠ a → H1[q]? = H[q]?) → va_S A s.heap H1 locs1 → W p l e R s m args below meth c H1 locs1 cells slots Q (F0 m (pc + 3) ls rest)) : W p l e R s m args below meth c H locs cells slots Q (F0 m pc ls (v :: .ref a :: rest)) :=
  xput F.1.1 F.1.2.1 F.1.2.2.2.2 inG_X0 tyX0 tyX0_ok nmX0 F.1.2.2.2.1 F.2.2.2.2.2.1.1.1 hS he hA (show mcl[2]? = some (RX0, TX0, 2) from rfl) k hk hlink hsame hfin (tyX0_ok k hk) hn hfit hl hdg kk
theorem pfX0 (F : FX l p m meth c cc nL ret s args y A G) (hS : va_S A s.heap H locs) {fs : List Value} (he : va_at G.1 mcl (a, .inr (2, fs)) H) (hA : A a) (k : Nat) (hk : k < 2) {index : Nat} {ref : String} (hlink : Cond.fieldLink y.cls index ref (TX0 k).2.1 (TX0 k).2.2.1 ∈ gTb) (hsame : ∀ x, s.fieldFound? (TX0 k).1 (TX0 k).2.1 (TX0 k).2.2.1 = some x → s.fieldFound? ref (TX0 k).2.1 (TX0 k).2.2.1 = some x) (hfin : (TX0 k).2.2.2 = true) (hin : y.name = "<init>") (hdecl : (TX0 k).1 = y.cls) {v : Value} (hn : narrow (tyX0 k) v = v) (hfit : fits (tyX0 k) v = true) (hl : k < fs.length) (hdg : decode cc pc = .ok (.putfield index, 3))
    (kk : ∀ (H1 : Heap) (locs1 : List Loc), va_at G.1 mcl (a, .inr (2, fs.set k v)) H1 → H1.size = H.size → (∀ q, q ≠ a → H1[q]? = H[q]?) → va_S A s.heap H1 locs1 → W p l e R s m args below meth c H1 locs1 cells slots Q (F0 m (pc + 3) ls rest)) : W p l e R s m args below meth c H locs cells slots Q (F0 m pc ls (v :: .ref a :: rest)) :=
  xputF F.1.1 F.1.2.1 F.1.2.2.2.2 inG_X0 tyX0 tyX0_ok nmX0 F.1.2.2.2.1 F.2.2.2.2.2.1.1.1 hS he hA (show mcl[2]? = some (RX0, TX0, 2) from rfl) k hk hlink hsame hfin (F.2.2.2.1.trans hin) hdecl (tyX0_ok k hk) hn hfit hl hdg kk
theorem gX1 (F : FX l p m meth c cc nL ret s args y A G) {fs : List Value} (he : va_at G.1 mcl (a, .inr (3, fs)) H) (k : Nat) (hk : k < 6) {index : Nat} {ref : String} (hlink : Cond.fieldLink y.cls index ref (TX1 k).2.1 (TX1 k).2.2.1 ∈ gTb) (hsame : ∀ x, s.fieldFound? (TX1 k).1 (TX1 k).2.1 (TX1 k).2.2.1 = some x → s.fieldFound? ref (TX1 k).2.1 (TX1 k).2.2.1 = some x) {v : Value} (hv : fs[k]? = some v) (hdg : decode cc pc = .ok (.getfield index, 3))
    (kk : W p l e R s m args below meth c H locs cells slots Q (F0 m (pc + 3) ls (v :: rest))) : W p l e R s m args below meth c H locs cells slots Q (F0 m pc ls (.ref a :: rest)) :=
  xget F.1.1 F.1.2.1 F.1.2.2.2.2 inG_X1 F.1.2.2.2.1 F.2.2.2.2.2.1.1.1 he (show mcl[3]? = some (RX1, TX1, 6) from rfl) k hk hlink hsame hv hdg kk
theorem pX1 (F : FX l p m meth c cc nL ret s args y A G) (hS : va_S A s.heap H locs) {fs : List Value} (he : va_at G.1 mcl (a, .inr (3, fs)) H) (hA : A a) (k : Nat) (hk : k < 6) {index : Nat} {ref : String} (hlink : Cond.fieldLink y.cls index ref (TX1 k).2.1 (TX1 k).2.2.1 ∈ gTb) (hsame : ∀ x, s.fieldFound? (TX1 k).1 (TX1 k).2.1 (TX1 k).2.2.1 = some x → s.fieldFound? ref (TX1 k).2.1 (TX1 k).2.2.1 = some x) (hfin : (TX1 k).2.2.2 = false) {v : Value} (hn : narrow (tyX1 k) v = v) (hfit : fits (tyX1 k) v = true) (hl : k < fs.length) (hdg : decode cc pc = .ok (.putfield index, 3))
    (kk : ∀ (H1 : Heap) (locs1 : List Loc), va_at G.1 mcl (a, .inr (3, fs.set k v)) H1 → H1.size = H.size → (∀ q, q ≠ a → H1[q]? = H[q]?) → va_S A s.heap H1 locs1 → W p l e R s m args below meth c H1 locs1 cells slots Q (F0 m (pc + 3) ls rest)) : W p l e R s m args below meth c H locs cells slots Q (F0 m pc ls (v :: .ref a :: rest)) :=
  xput F.1.1 F.1.2.1 F.1.2.2.2.2 inG_X1 tyX1 tyX1_ok nmX1 F.1.2.2.2.1 F.2.2.2.2.2.1.1.1 hS he hA (show mcl[3]? = some (RX1, TX1, 6) from rfl) k hk hlink hsame hfin (tyX1_ok k hk) hn hfit hl hdg kk
theorem pfX1 (F : FX l p m meth c cc nL ret s args y A G) (hS : va_S A s.heap H locs) {fs : List Value} (he : va_at G.1 mcl (a, .inr (3, fs)) H) (hA : A a) (k : Nat) (hk : k < 6) {index : Nat} {ref : String} (hlink : Cond.fieldLink y.cls index ref (TX1 k).2.1 (TX1 k).2.2.1 ∈ gTb) (hsame : ∀ x, s.fieldFound? (TX1 k).1 (TX1 k).2.1 (TX1 k).2.2.1 = some x → s.fieldFound? ref (TX1 k).2.1 (TX1 k).2.2.1 = some x) (hfin : (TX1 k).2.2.2 = true) (hin : y.name = "<init>") (hdecl : (TX1 k).1 = y.cls) {v : Value} (hn : narrow (tyX1 k) v = v) (hfit : fits (tyX1 k) v = true) (hl : k < fs.length) (hdg : decode cc pc = .ok (.putfield index, 3))
    (kk : ∀ (H1 : Heap) (locs1 : List Loc), va_at G.1 mcl (a, .inr (3, fs.set k v)) H1 → H1.size = H.size → (∀ q, q ≠ a → H1[q]? = H[q]?) → va_S A s.heap H1 locs1 → W p l e R s m args below meth c H1 locs1 cells slots Q (F0 m (pc + 3) ls rest)) : W p l e R s m args below meth c H locs cells slots Q (F0 m pc ls (v :: .ref a :: rest)) :=
  xputF F.1.1 F.1.2.1 F.1.2.2.2.2 inG_X1 tyX1 tyX1_ok nmX1 F.1.2.2.2.1 F.2.2.2.2.2.1.1.1 hS he hA (show mcl[3]? = some (RX1, TX1, 6) from rfl) k hk hlink hsame hfin (F.2.2.2.1.trans hin) hdecl (tyX1_ok k hk) hn hfit hl hdg kk
theorem gX2 (F : FX l p m meth c cc nL ret s args y A G) {fs : List Value} (he : va_at G.1 mcl (a, .inr (4, fs)) H) (k : Nat) (hk : k < 9) {index : Nat} {ref : String} (hlink : Cond.fieldLink y.cls index ref (TX2 k).2.1 (TX2 k).2.2.1 ∈ gTb) (hsame : ∀ x, s.fieldFound? (TX2 k).1 (TX2 k).2.1 (TX2 k).2.2.1 = some x → s.fieldFound? ref (TX2 k).2.1 (TX2 k).2.2.1 = some x) {v : Value} (hv : fs[k]? = some v) (hdg : decode cc pc = .ok (.getfield index, 3))
    (kk : W p l e R s m args below meth c H locs cells slots Q (F0 m (pc + 3) ls (v :: rest))) : W p l e R s m args below meth c H locs cells slots Q (F0 m pc ls (.ref a :: rest)) :=
  xget F.1.1 F.1.2.1 F.1.2.2.2.2 inG_X2 F.1.2.2.2.1 F.2.2.2.2.2.1.1.1 he (show mcl[4]? = some (RX2, TX2, 9) from rfl) k hk hlink hsame hv hdg kk
theorem pX2 (F : FX l p m meth c cc nL ret s args y A G) (hS : va_S A s.heap H locs) {fs : List Value} (he : va_at G.1 mcl (a, .inr (4, fs)) H) (hA : A a) (k : Nat) (hk : k < 9) {index : Nat} {ref : String} (hlink : Cond.fieldLink y.cls index ref (TX2 k).2.1 (TX2 k).2.2.1 ∈ gTb) (hsame : ∀ x, s.fieldFound? (TX2 k).1 (TX2 k).2.1 (TX2 k).2.2.1 = some x → s.fieldFound? ref (TX2 k).2.1 (TX2 k).2.2.1 = some x) (hfin : (TX2 k).2.2.2 = false) {v : Value} (hn : narrow (tyX2 k) v = v) (hfit : fits (tyX2 k) v = true) (hl : k < fs.length) (hdg : decode cc pc = .ok (.putfield index, 3))
    (kk : ∀ (H1 : Heap) (locs1 : List Loc), va_at G.1 mcl (a, .inr (4, fs.set k v)) H1 → H1.size = H.size → (∀ q, q ≠ a → H1[q]? = H[q]?) → va_S A s.heap H1 locs1 → W p l e R s m args below meth c H1 locs1 cells slots Q (F0 m (pc + 3) ls rest)) : W p l e R s m args below meth c H locs cells slots Q (F0 m pc ls (v :: .ref a :: rest)) :=
  xput F.1.1 F.1.2.1 F.1.2.2.2.2 inG_X2 tyX2 tyX2_ok nmX2 F.1.2.2.2.1 F.2.2.2.2.2.1.1.1 hS he hA (show mcl[4]? = some (RX2, TX2, 9) from rfl) k hk hlink hsame hfin (tyX2_ok k hk) hn hfit hl hdg kk
theorem pfX2 (F : FX l p m meth c cc nL ret s args y A G) (hS : va_S A s.heap H locs) {fs : List Value} (he : va_at G.1 mcl (a, .inr (4, fs)) H) (hA : A a) (k : Nat) (hk : k < 9) {index : Nat} {ref : String} (hlink : Cond.fieldLink y.cls index ref (TX2 k).2.1 (TX2 k).2.2.1 ∈ gTb) (hsame : ∀ x, s.fieldFound? (TX2 k).1 (TX2 k).2.1 (TX2 k).2.2.1 = some x → s.fieldFound? ref (TX2 k).2.1 (TX2 k).2.2.1 = some x) (hfin : (TX2 k).2.2.2 = true) (hin : y.name = "<init>") (hdecl : (TX2 k).1 = y.cls) {v : Value} (hn : narrow (tyX2 k) v = v) (hfit : fits (tyX2 k) v = true) (hl : k < fs.length) (hdg : decode cc pc = .ok (.putfield index, 3))
    (kk : ∀ (H1 : Heap) (locs1 : List Loc), va_at G.1 mcl (a, .inr (4, fs.set k v)) H1 → H1.size = H.size → (∀ q, q ≠ a → H1[q]? = H[q]?) → va_S A s.heap H1 locs1 → W p l e R s m args below meth c H1 locs1 cells slots Q (F0 m (pc + 3) ls rest)) : W p l e R s m args below meth c H locs cells slots Q (F0 m pc ls (v :: .ref a :: rest)) :=
  xputF F.1.1 F.1.2.1 F.1.2.2.2.2 inG_X2 tyX2 tyX2_ok nmX2 F.1.2.2.2.1 F.2.2.2.2.2.1.1.1 hS he hA (show mcl[4]? = some (RX2, TX2, 9) from rfl) k hk hlink hsame hfin (F.2.2.2.1.trans hin) hdecl (tyX2_ok k hk) hn hfit hl hdg kk
theorem gX3 (F : FX l p m meth c cc nL ret s args y A G) {fs : List Value} (he : va_at G.1 mcl (a, .inr (5, fs)) H) (k : Nat) (hk : k < 5) {index : Nat} {ref : String} (hlink : Cond.fieldLink y.cls index ref (TX3 k).2.1 (TX3 k).2.2.1 ∈ gTb) (hsame : ∀ x, s.fieldFound? (TX3 k).1 (TX3 k).2.1 (TX3 k).2.2.1 = some x → s.fieldFound? ref (TX3 k).2.1 (TX3 k).2.2.1 = some x) {v : Value} (hv : fs[k]? = some v) (hdg : decode cc pc = .ok (.getfield index, 3))
    (kk : W p l e R s m args below meth c H locs cells slots Q (F0 m (pc + 3) ls (v :: rest))) : W p l e R s m args below meth c H locs cells slots Q (F0 m pc ls (.ref a :: rest)) :=
  xget F.1.1 F.1.2.1 F.1.2.2.2.2 inG_X3 F.1.2.2.2.1 F.2.2.2.2.2.1.1.1 he (show mcl[5]? = some (RX3, TX3, 5) from rfl) k hk hlink hsame hv hdg kk
theorem pX3 (F : FX l p m meth c cc nL ret s args y A G) (hS : va_S A s.heap H locs) {fs : List Value} (he : va_at G.1 mcl (a, .inr (5, fs)) H) (hA : A a) (k : Nat) (hk : k < 5) {index : Nat} {ref : String} (hlink : Cond.fieldLink y.cls index ref (TX3 k).2.1 (TX3 k).2.2.1 ∈ gTb) (hsame : ∀ x, s.fieldFound? (TX3 k).1 (TX3 k).2.1 (TX3 k).2.2.1 = some x → s.fieldFound? ref (TX3 k).2.1 (TX3 k).2.2.1 = some x) (hfin : (TX3 k).2.2.2 = false) {v : Value} (hn : narrow (tyX3 k) v = v) (hfit : fits (tyX3 k) v = true) (hl : k < fs.length) (hdg : decode cc pc = .ok (.putfield index, 3))
    (kk : ∀ (H1 : Heap) (locs1 : List Loc), va_at G.1 mcl (a, .inr (5, fs.set k v)) H1 → H1.size = H.size → (∀ q, q ≠ a → H1[q]? = H[q]?) → va_S A s.heap H1 locs1 → W p l e R s m args below meth c H1 locs1 cells slots Q (F0 m (pc + 3) ls rest)) : W p l e R s m args below meth c H locs cells slots Q (F0 m pc ls (v :: .ref a :: rest)) :=
  xput F.1.1 F.1.2.1 F.1.2.2.2.2 inG_X3 tyX3 tyX3_ok nmX3 F.1.2.2.2.1 F.2.2.2.2.2.1.1.1 hS he hA (show mcl[5]? = some (RX3, TX3, 5) from rfl) k hk hlink hsame hfin (tyX3_ok k hk) hn hfit hl hdg kk
theorem pfX3 (F : FX l p m meth c cc nL ret s args y A G) (hS : va_S A s.heap H locs) {fs : List Value} (he : va_at G.1 mcl (a, .inr (5, fs)) H) (hA : A a) (k : Nat) (hk : k < 5) {index : Nat} {ref : String} (hlink : Cond.fieldLink y.cls index ref (TX3 k).2.1 (TX3 k).2.2.1 ∈ gTb) (hsame : ∀ x, s.fieldFound? (TX3 k).1 (TX3 k).2.1 (TX3 k).2.2.1 = some x → s.fieldFound? ref (TX3 k).2.1 (TX3 k).2.2.1 = some x) (hfin : (TX3 k).2.2.2 = true) (hin : y.name = "<init>") (hdecl : (TX3 k).1 = y.cls) {v : Value} (hn : narrow (tyX3 k) v = v) (hfit : fits (tyX3 k) v = true) (hl : k < fs.length) (hdg : decode cc pc = .ok (.putfield index, 3))
    (kk : ∀ (H1 : Heap) (locs1 : List Loc), va_at G.1 mcl (a, .inr (5, fs.set k v)) H1 → H1.size = H.size → (∀ q, q ≠ a → H1[q]? = H[q]?) → va_S A s.heap H1 locs1 → W p l e R s m args below meth c H1 locs1 cells slots Q (F0 m (pc + 3) ls rest)) : W p l e R s m args below meth c H locs cells slots Q (F0 m pc ls (v :: .ref a :: rest)) :=
  xputF F.1.1 F.1.2.1 F.1.2.2.2.2 inG_X3 tyX3 tyX3_ok nmX3 F.1.2.2.2.1 F.2.2.2.2.2.1.1.1 hS he hA (show mcl[5]? = some (RX3, TX3, 5) from rfl) k hk hlink hsame hfin (F.2.2.2.1.trans hin) hdecl (tyX3_ok k hk) hn hfit hl hdg kk
theorem gX4 (F : FX l p m meth c cc nL ret s args y A G) {fs : List Value} (he : va_at G.1 mcl (a, .inr (6, fs)) H) (k : Nat) (hk : k < 8) {index : Nat} {ref : String} (hlink : Cond.fieldLink y.cls index ref (TX4 k).2.1 (TX4 k).2.2.1 ∈ gTb) (hsame : ∀ x, s.fieldFound? (TX4 k).1 (TX4 k).2.1 (TX4 k).2.2.1 = some x → s.fieldFound? ref (TX4 k).2.1 (TX4 k).2.2.1 = some x) {v : Value} (hv : fs[k]? = some v) (hdg : decode cc pc = .ok (.getfield index, 3))
    (kk : W p l e R s m args below meth c H locs cells slots Q (F0 m (pc + 3) ls (v :: rest))) : W p l e R s m args below meth c H locs cells slots Q (F0 m pc ls (.ref a :: rest)) :=
  xget F.1.1 F.1.2.1 F.1.2.2.2.2 inG_X4 F.1.2.2.2.1 F.2.2.2.2.2.1.1.1 he (show mcl[6]? = some (RX4, TX4, 8) from rfl) k hk hlink hsame hv hdg kk
theorem pX4 (F : FX l p m meth c cc nL ret s args y A G) (hS : va_S A s.heap H locs) {fs : List Value} (he : va_at G.1 mcl (a, .inr (6, fs)) H) (hA : A a) (k : Nat) (hk : k < 8) {index : Nat} {ref : String} (hlink : Cond.fieldLink y.cls index ref (TX4 k).2.1 (TX4 k).2.2.1 ∈ gTb) (hsame : ∀ x, s.fieldFound? (TX4 k).1 (TX4 k).2.1 (TX4 k).2.2.1 = some x → s.fieldFound? ref (TX4 k).2.1 (TX4 k).2.2.1 = some x) (hfin : (TX4 k).2.2.2 = false) {v : Value} (hn : narrow (tyX4 k) v = v) (hfit : fits (tyX4 k) v = true) (hl : k < fs.length) (hdg : decode cc pc = .ok (.putfield index, 3))
    (kk : ∀ (H1 : Heap) (locs1 : List Loc), va_at G.1 mcl (a, .inr (6, fs.set k v)) H1 → H1.size = H.size → (∀ q, q ≠ a → H1[q]? = H[q]?) → va_S A s.heap H1 locs1 → W p l e R s m args below meth c H1 locs1 cells slots Q (F0 m (pc + 3) ls rest)) : W p l e R s m args below meth c H locs cells slots Q (F0 m pc ls (v :: .ref a :: rest)) :=
  xput F.1.1 F.1.2.1 F.1.2.2.2.2 inG_X4 tyX4 tyX4_ok nmX4 F.1.2.2.2.1 F.2.2.2.2.2.1.1.1 hS he hA (show mcl[6]? = some (RX4, TX4, 8) from rfl) k hk hlink hsame hfin (tyX4_ok k hk) hn hfit hl hdg kk
theorem pfX4 (F : FX l p m meth c cc nL ret s args y A G) (hS : va_S A s.heap H locs) {fs : List Value} (he : va_at G.1 mcl (a, .inr (6, fs)) H) (hA : A a) (k : Nat) (hk : k < 8) {index : Nat} {ref : String} (hlink : Cond.fieldLink y.cls index ref (TX4 k).2.1 (TX4 k).2.2.1 ∈ gTb) (hsame : ∀ x, s.fieldFound? (TX4 k).1 (TX4 k).2.1 (TX4 k).2.2.1 = some x → s.fieldFound? ref (TX4 k).2.1 (TX4 k).2.2.1 = some x) (hfin : (TX4 k).2.2.2 = true) (hin : y.name = "<init>") (hdecl : (TX4 k).1 = y.cls) {v : Value} (hn : narrow (tyX4 k) v = v) (hfit : fits (tyX4 k) v = true) (hl : k < fs.length) (hdg : decode cc pc = .ok (.putfield index, 3))
    (kk : ∀ (H1 : Heap) (locs1 : List Loc), va_at G.1 mcl (a, .inr (6, fs.set k v)) H1 → H1.size = H.size → (∀ q, q ≠ a → H1[q]? = H[q]?) → va_S A s.heap H1 locs1 → W p l e R s m args below meth c H1 locs1 cells slots Q (F0 m (pc + 3) ls rest)) : W p l e R s m args below meth c H locs cells slots Q (F0 m pc ls (v :: .ref a :: rest)) :=
  xputF F.1.1 F.1.2.1 F.1.2.2.2.2 inG_X4 tyX4 tyX4_ok nmX4 F.1.2.2.2.1 F.2.2.2.2.2.1.1.1 hS he hA (show mcl[6]? = some (RX4, TX4, 8) from rfl) k hk hlink hsame hfin (F.2.2.2.1.trans hin) hdecl (tyX4_ok k hk) hn hfit hl hdg kk
theorem gX5 (F : FX l p m meth c cc nL ret s args y A G) {fs : List Value} (he : va_at G.1 mcl (a, .inr (7, fs)) H) (k : Nat) (hk : k < 8) {index : Nat} {ref : String} (hlink : Cond.fieldLink y.cls index ref (TX5 k).2.1 (TX5 k).2.2.1 ∈ gTb) (hsame : ∀ x, s.fieldFound? (TX5 k).1 (TX5 k).2.1 (TX5 k).2.2.1 = some x → s.fieldFound? ref (TX5 k).2.1 (TX5 k).2.2.1 = some x) {v : Value} (hv : fs[k]? = some v) (hdg : decode cc pc = .ok (.getfield index, 3))
    (kk : W p l e R s m args below meth c H locs cells slots Q (F0 m (pc + 3) ls (v :: rest))) : W p l e R s m args below meth c H locs cells slots Q (F0 m pc ls (.ref a :: rest)) :=
  xget F.1.1 F.1.2.1 F.1.2.2.2.2 inG_X5 F.1.2.2.2.1 F.2.2.2.2.2.1.1.1 he (show mcl[7]? = some (RX5, TX5, 8) from rfl) k hk hlink hsame hv hdg kk
theorem pX5 (F : FX l p m meth c cc nL ret s args y A G) (hS : va_S A s.heap H locs) {fs : List Value} (he : va_at G.1 mcl (a, .inr (7, fs)) H) (hA : A a) (k : Nat) (hk : k < 8) {index : Nat} {ref : String} (hlink : Cond.fieldLink y.cls index ref (TX5 k).2.1 (TX5 k).2.2.1 ∈ gTb) (hsame : ∀ x, s.fieldFound? (TX5 k).1 (TX5 k).2.1 (TX5 k).2.2.1 = some x → s.fieldFound? ref (TX5 k).2.1 (TX5 k).2.2.1 = some x) (hfin : (TX5 k).2.2.2 = false) {v : Value} (hn : narrow (tyX5 k) v = v) (hfit : fits (tyX5 k) v = true) (hl : k < fs.length) (hdg : decode cc pc = .ok (.putfield index, 3))
    (kk : ∀ (H1 : Heap) (locs1 : List Loc), va_at G.1 mcl (a, .inr (7, fs.set k v)) H1 → H1.size = H.size → (∀ q, q ≠ a → H1[q]? = H[q]?) → va_S A s.heap H1 locs1 → W p l e R s m args below meth c H1 locs1 cells slots Q (F0 m (pc + 3) ls rest)) : W p l e R s m args below meth c H locs cells slots Q (F0 m pc ls (v :: .ref a :: rest)) :=
  xput F.1.1 F.1.2.1 F.1.2.2.2.2 inG_X5 tyX5 tyX5_ok nmX5 F.1.2.2.2.1 F.2.2.2.2.2.1.1.1 hS he hA (show mcl[7]? = some (RX5, TX5, 8) from rfl) k hk hlink hsame hfin (tyX5_ok k hk) hn hfit hl hdg kk
theorem pfX5 (F : FX l p m meth c cc nL ret s args y A G) (hS : va_S A s.heap H locs) {fs : List Value} (he : va_at G.1 mcl (a, .inr (7, fs)) H) (hA : A a) (k : Nat) (hk : k < 8) {index : Nat} {ref : String} (hlink : Cond.fieldLink y.cls index ref (TX5 k).2.1 (TX5 k).2.2.1 ∈ gTb) (hsame : ∀ x, s.fieldFound? (TX5 k).1 (TX5 k).2.1 (TX5 k).2.2.1 = some x → s.fieldFound? ref (TX5 k).2.1 (TX5 k).2.2.1 = some x) (hfin : (TX5 k).2.2.2 = true) (hin : y.name = "<init>") (hdecl : (TX5 k).1 = y.cls) {v : Value} (hn : narrow (tyX5 k) v = v) (hfit : fits (tyX5 k) v = true) (hl : k < fs.length) (hdg : decode cc pc = .ok (.putfield index, 3))
    (kk : ∀ (H1 : Heap) (locs1 : List Loc), va_at G.1 mcl (a, .inr (7, fs.set k v)) H1 → H1.size = H.size → (∀ q, q ≠ a → H1[q]? = H[q]?) → va_S A s.heap H1 locs1 → W p l e R s m args below meth c H1 locs1 cells slots Q (F0 m (pc + 3) ls rest)) : W p l e R s m args below meth c H locs cells slots Q (F0 m pc ls (v :: .ref a :: rest)) :=
  xputF F.1.1 F.1.2.1 F.1.2.2.2.2 inG_X5 tyX5 tyX5_ok nmX5 F.1.2.2.2.1 F.2.2.2.2.2.1.1.1 hS he hA (show mcl[7]? = some (RX5, TX5, 8) from rfl) k hk hlink hsame hfin (F.2.2.2.1.trans hin) hdecl (tyX5_ok k hk) hn hfit hl hdg kk
theorem gX6 (F : FX l p m meth c cc nL ret s args y A G) {fs : List Value} (he : va_at G.1 mcl (a, .inr (8, fs)) H) (k : Nat) (hk : k < 30) {index : Nat} {ref : String} (hlink : Cond.fieldLink y.cls index ref (TX6 k).2.1 (TX6 k).2.2.1 ∈ gTb) (hsame : ∀ x, s.fieldFound? (TX6 k).1 (TX6 k).2.1 (TX6 k).2.2.1 = some x → s.fieldFound? ref (TX6 k).2.1 (TX6 k).2.2.1 = some x) {v : Value} (hv : fs[k]? = some v) (hdg : decode cc pc = .ok (.getfield index, 3))
    (kk : W p l e R s m args below meth c H locs cells slots Q (F0 m (pc + 3) ls (v :: rest))) : W p l e R s m args below meth c H locs cells slots Q (F0 m pc ls (.ref a :: rest)) :=
  xget F.1.1 F.1.2.1 F.1.2.2.2.2 inG_X6 F.1.2.2.2.1 F.2.2.2.2.2.1.1.1 he (show mcl[8]? = some (RX6, TX6, 30) from rfl) k hk hlink hsame hv hdg kk
theorem pX6 (F : FX l p m meth c cc nL ret s args y A G) (hS : va_S A s.heap H locs) {fs : List Value} (he : va_at G.1 mcl (a, .inr (8, fs)) H) (hA : A a) (k : Nat) (hk : k < 30) {index : Nat} {ref : String} (hlink : Cond.fieldLink y.cls index ref (TX6 k).2.1 (TX6 k).2.2.1 ∈ gTb) (hsame : ∀ x, s.fieldFound? (TX6 k).1 (TX6 k).2.1 (TX6 k).2.2.1 = some x → s.fieldFound? ref (TX6 k).2.1 (TX6 k).2.2.1 = some x) (hfin : (TX6 k).2.2.2 = false) {v : Value} (hn : narrow (tyX6 k) v = v) (hfit : fits (tyX6 k) v = true) (hl : k < fs.length) (hdg : decode cc pc = .ok (.putfield index, 3))
    (kk : ∀ (H1 : Heap) (locs1 : List Loc), va_at G.1 mcl (a, .inr (8, fs.set k v)) H1 → H1.size = H.size → (∀ q, q ≠ a → H1[q]? = H[q]?) → va_S A s.heap H1 locs1 → W p l e R s m args below meth c H1 locs1 cells slots Q (F0 m (pc + 3) ls rest)) : W p l e R s m args below meth c H locs cells slots Q (F0 m pc ls (v :: .ref a :: rest)) :=
  xput F.1.1 F.1.2.1 F.1.2.2.2.2 inG_X6 tyX6 tyX6_ok nmX6 F.1.2.2.2.1 F.2.2.2.2.2.1.1.1 hS he hA (show mcl[8]? = some (RX6, TX6, 30) from rfl) k hk hlink hsame hfin (tyX6_ok k hk) hn hfit hl hdg kk
theorem pfX6 (F : FX l p m meth c cc nL ret s args y A G) (hS : va_S A s.heap H locs) {fs : List Value} (he : va_at G.1 mcl (a, .inr (8, fs)) H) (hA : A a) (k : Nat) (hk : k < 30) {index : Nat} {ref : String} (hlink : Cond.fieldLink y.cls index ref (TX6 k).2.1 (TX6 k).2.2.1 ∈ gTb) (hsame : ∀ x, s.fieldFound? (TX6 k).1 (TX6 k).2.1 (TX6 k).2.2.1 = some x → s.fieldFound? ref (TX6 k).2.1 (TX6 k).2.2.1 = some x) (hfin : (TX6 k).2.2.2 = true) (hin : y.name = "<init>") (hdecl : (TX6 k).1 = y.cls) {v : Value} (hn : narrow (tyX6 k) v = v) (hfit : fits (tyX6 k) v = true) (hl : k < fs.length) (hdg : decode cc pc = .ok (.putfield index, 3))
    (kk : ∀ (H1 : Heap) (locs1 : List Loc), va_at G.1 mcl (a, .inr (8, fs.set k v)) H1 → H1.size = H.size → (∀ q, q ≠ a → H1[q]? = H[q]?) → va_S A s.heap H1 locs1 → W p l e R s m args below meth c H1 locs1 cells slots Q (F0 m (pc + 3) ls rest)) : W p l e R s m args below meth c H locs cells slots Q (F0 m pc ls (v :: .ref a :: rest)) :=
  xputF F.1.1 F.1.2.1 F.1.2.2.2.2 inG_X6 tyX6 tyX6_ok nmX6 F.1.2.2.2.1 F.2.2.2.2.2.1.1.1 hS he hA (show mcl[8]? = some (RX6, TX6, 30) from rfl) k hk hlink hsame hfin (F.2.2.2.1.trans hin) hdecl (tyX6_ok k hk) hn hfit hl hdg kk
theorem gJ4 (F : FX l p m meth c cc nL ret s args y A G) {fs : List Value} (he : va_at G.1 mcl (a, .inr (0, fs)) H) (k : Nat) (hk : k < 4) {index : Nat} {ref : String} (hlink : Cond.fieldLink y.cls index ref (TJ4 k).2.1 (TJ4 k).2.2.1 ∈ gTb) (hsame : ∀ x, s.fieldFound? (TJ4 k).1 (TJ4 k).2.1 (TJ4 k).2.2.1 = some x → s.fieldFound? ref (TJ4 k).2.1 (TJ4 k).2.2.1 = some x) {v : Value} (hv : fs[k]? = some v) (hdg : decode cc pc = .ok (.getfield index, 3))
    (kk : W p l e R s m args below meth c H locs cells slots Q (F0 m (pc + 3) ls (v :: rest))) : W p l e R s m args below meth c H locs cells slots Q (F0 m pc ls (.ref a :: rest)) :=
  xget F.1.1 F.1.2.1 F.1.2.2.2.2 inG_J4 F.1.2.2.2.1 F.2.2.2.2.2.1.1.1 he (show mcl[0]? = some (RJ4, TJ4, 4) from rfl) k hk hlink hsame hv hdg kk
theorem pJ4 (F : FX l p m meth c cc nL ret s args y A G) (hS : va_S A s.heap H locs) {fs : List Value} (he : va_at G.1 mcl (a, .inr (0, fs)) H) (hA : A a) (k : Nat) (hk : k < 4) {index : Nat} {ref : String} (hlink : Cond.fieldLink y.cls index ref (TJ4 k).2.1 (TJ4 k).2.2.1 ∈ gTb) (hsame : ∀ x, s.fieldFound? (TJ4 k).1 (TJ4 k).2.1 (TJ4 k).2.2.1 = some x → s.fieldFound? ref (TJ4 k).2.1 (TJ4 k).2.2.1 = some x) (hfin : (TJ4 k).2.2.2 = false) {v : Value} (hn : narrow (tyJ4 k) v = v) (hfit : fits (tyJ4 k) v = true) (hl : k < fs.length) (hdg : decode cc pc = .ok (.putfield index, 3))
    (kk : ∀ (H1 : Heap) (locs1 : List Loc), va_at G.1 mcl (a, .inr (0, fs.set k v)) H1 → H1.size = H.size → (∀ q, q ≠ a → H1[q]? = H[q]?) → va_S A s.heap H1 locs1 → W p l e R s m args below meth c H1 locs1 cells slots Q (F0 m (pc + 3) ls rest)) : W p l e R s m args below meth c H locs cells slots Q (F0 m pc ls (v :: .ref a :: rest)) :=
  xput F.1.1 F.1.2.1 F.1.2.2.2.2 inG_J4 tyJ4 tyJ4_ok nmJ4 F.1.2.2.2.1 F.2.2.2.2.2.1.1.1 hS he hA (show mcl[0]? = some (RJ4, TJ4, 4) from rfl) k hk hlink hsame hfin (tyJ4_ok k hk) hn hfit hl hdg kk
theorem pfJ4 (F : FX l p m meth c cc nL ret s args y A G) (hS : va_S A s.heap H locs) {fs : List Value} (he : va_at G.1 mcl (a, .inr (0, fs)) H) (hA : A a) (k : Nat) (hk : k < 4) {index : Nat} {ref : String} (hlink : Cond.fieldLink y.cls index ref (TJ4 k).2.1 (TJ4 k).2.2.1 ∈ gTb) (hsame : ∀ x, s.fieldFound? (TJ4 k).1 (TJ4 k).2.1 (TJ4 k).2.2.1 = some x → s.fieldFound? ref (TJ4 k).2.1 (TJ4 k).2.2.1 = some x) (hfin : (TJ4 k).2.2.2 = true) (hin : y.name = "<init>") (hdecl : (TJ4 k).1 = y.cls) {v : Value} (hn : narrow (tyJ4 k) v = v) (hfit : fits (tyJ4 k) v = true) (hl : k < fs.length) (hdg : decode cc pc = .ok (.putfield index, 3))
    (kk : ∀ (H1 : Heap) (locs1 : List Loc), va_at G.1 mcl (a, .inr (0, fs.set k v)) H1 → H1.size = H.size → (∀ q, q ≠ a → H1[q]? = H[q]?) → va_S A s.heap H1 locs1 → W p l e R s m args below meth c H1 locs1 cells slots Q (F0 m (pc + 3) ls rest)) : W p l e R s m args below meth c H locs cells slots Q (F0 m pc ls (v :: .ref a :: rest)) :=
  xputF F.1.1 F.1.2.1 F.1.2.2.2.2 inG_J4 tyJ4 tyJ4_ok nmJ4 F.1.2.2.2.1 F.2.2.2.2.2.1.1.1 hS he hA (show mcl[0]? = some (RJ4, TJ4, 4) from rfl) k hk hlink hsame hfin (F.2.2.2.1.trans hin) hdecl (tyJ4_ok k hk) hn hfit hl hdg kk
theorem gJx4a65c (F : FX l p m meth c cc nL ret s args y A G) {fs : List Value} (he : va_at G.1 mcl (a, .inr (1, fs)) H) (k : Nat) (hk : k < 3) {index : Nat} {ref : String} (hlink : Cond.fieldLink y.cls index ref (TJx4a65c k).2.1 (TJx4a65c k).2.2.1 ∈ gTb) (hsame : ∀ x, s.fieldFound? (TJx4a65c k).1 (TJx4a65c k).2.1 (TJx4a65c k).2.2.1 = some x → s.fieldFound? ref (TJx4a65c k).2.1 (TJx4a65c k).2.2.1 = some x) {v : Value} (hv : fs[k]? = some v) (hdg : decode cc pc = .ok (.getfield index, 3))
    (kk : W p l e R s m args below meth c H locs cells slots Q (F0 m (pc + 3) ls (v :: rest))) : W p l e R s m args below meth c H locs cells slots Q (F0 m pc ls (.ref a :: rest)) :=
  xget F.1.1 F.1.2.1 F.1.2.2.2.2 inG_Jx4a65c F.1.2.2.2.1 F.2.2.2.2.2.1.1.1 he (show mcl[1]? = some (RJx4a65c, TJx4a65c, 3) from rfl) k hk hlink hsame hv hdg kk
theorem pJx4a65c (F : FX l p m meth c cc nL ret s args y A G) (hS : va_S A s.heap H locs) {fs : List Value} (he : va_at G.1 mcl (a, .inr (1, fs)) H) (hA : A a) (k : Nat) (hk : k < 3) {index : Nat} {ref : String} (hlink : Cond.fieldLink y.cls index ref (TJx4a65c k).2.1 (TJx4a65c k).2.2.1 ∈ gTb) (hsame : ∀ x, s.fieldFound? (TJx4a65c k).1 (TJx4a65c k).2.1 (TJx4a65c k).2.2.1 = some x → s.fieldFound? ref (TJx4a65c k).2.1 (TJx4a65c k).2.2.1 = some x) (hfin : (TJx4a65c k).2.2.2 = false) {v : Value} (hn : narrow (tyJx4a65c k) v = v) (hfit : fits (tyJx4a65c k) v = true) (hl : k < fs.length) (hdg : decode cc pc = .ok (.putfield index, 3))
    (kk : ∀ (H1 : Heap) (locs1 : List Loc), va_at G.1 mcl (a, .inr (1, fs.set k v)) H1 → H1.size = H.size → (∀ q, q ≠ a → H1[q]? = H[q]?) → va_S A s.heap H1 locs1 → W p l e R s m args below meth c H1 locs1 cells slots Q (F0 m (pc + 3) ls rest)) : W p l e R s m args below meth c H locs cells slots Q (F0 m pc ls (v :: .ref a :: rest)) :=
  xput F.1.1 F.1.2.1 F.1.2.2.2.2 inG_Jx4a65c tyJx4a65c tyJx4a65c_ok nmJx4a65c F.1.2.2.2.1 F.2.2.2.2.2.1.1.1 hS he hA (show mcl[1]? = some (RJx4a65c, TJx4a65c, 3) from rfl) k hk hlink hsame hfin (tyJx4a65c_ok k hk) hn hfit hl hdg kk
theorem pfJx4a65c (F : FX l p m meth c cc nL ret s args y A G) (hS : va_S A s.heap H locs) {fs : List Value} (he : va_at G.1 mcl (a, .inr (1, fs)) H) (hA : A a) (k : Nat) (hk : k < 3) {index : Nat} {ref : String} (hlink : Cond.fieldLink y.cls index ref (TJx4a65c k).2.1 (TJx4a65c k).2.2.1 ∈ gTb) (hsame : ∀ x, s.fieldFound? (TJx4a65c k).1 (TJx4a65c k).2.1 (TJx4a65c k).2.2.1 = some x → s.fieldFound? ref (TJx4a65c k).2.1 (TJx4a65c k).2.2.1 = some x) (hfin : (TJx4a65c k).2.2.2 = true) (hin : y.name = "<init>") (hdecl : (TJx4a65c k).1 = y.cls) {v : Value} (hn : narrow (tyJx4a65c k) v = v) (hfit : fits (tyJx4a65c k) v = true) (hl : k < fs.length) (hdg : decode cc pc = .ok (.putfield index, 3))
    (kk : ∀ (H1 : Heap) (locs1 : List Loc), va_at G.1 mcl (a, .inr (1, fs.set k v)) H1 → H1.size = H.size → (∀ q, q ≠ a → H1[q]? = H[q]?) → va_S A s.heap H1 locs1 → W p l e R s m args below meth c H1 locs1 cells slots Q (F0 m (pc + 3) ls rest)) : W p l e R s m args below meth c H locs cells slots Q (F0 m pc ls (v :: .ref a :: rest)) :=
  xputF F.1.1 F.1.2.1 F.1.2.2.2.2 inG_Jx4a65c tyJx4a65c tyJx4a65c_ok nmJx4a65c F.1.2.2.2.1 F.2.2.2.2.2.1.1.1 hS he hA (show mcl[1]? = some (RJx4a65c, TJx4a65c, 3) from rfl) k hk hlink hsame hfin (F.2.2.2.1.trans hin) hdecl (tyJx4a65c_ok k hk) hn hfit hl hdg kk
end CLS
end
section
theorem zz_end : True := trivial
end
