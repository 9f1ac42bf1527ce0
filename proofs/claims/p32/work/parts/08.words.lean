/-! the words that a method may stand on, and their places -/
def gTb : List Cond := lw_tbl.filter goodWord
theorem gm {w : Cond} (h : w ∈ lw_tbl) (g : goodWord w = true) : w ∈ gTb := List.mem_filter.mpr ⟨h, g⟩
theorem wSE_X5_X5_tillAt : Cond.selects RX5 yX5_tillAt yX5_tillAt ∈ gTb := gm (List.mem_of_getElem? (i := 0) (by decide +kernel)) rfl
theorem wSE_X5_X5_roomAt : Cond.selects RX5 yX5_roomAt yX5_roomAt ∈ gTb := gm (List.mem_of_getElem? (i := 2) (by decide +kernel)) rfl
theorem wSE_X5_X5_letQueueIn : Cond.selects RX5 yX5_letQueueIn yX5_letQueueIn ∈ gTb := gm (List.mem_of_getElem? (i := 3) (by decide +kernel)) rfl
theorem wSE_Jx4a65c_Jx4a65c_fastRemove_b59b0 : Cond.selects RJx4a65c yJx4a65c_fastRemove_b59b0 yJx4a65c_fastRemove_b59b0 ∈ gTb := gm (List.mem_of_getElem? (i := 4) (by decide +kernel)) rfl
theorem wSE_X5_X5_showRoom : Cond.selects RX5 yX5_showRoom yX5_showRoom ∈ gTb := gm (List.mem_of_getElem? (i := 5) (by decide +kernel)) rfl
theorem wSE_X5_X5_payFee : Cond.selects RX5 yX5_payFee yX5_payFee ∈ gTb := gm (List.mem_of_getElem? (i := 6) (by decide +kernel)) rfl
theorem wSE_X5_X5_sendAllOut : Cond.selects RX5 yX5_sendAllOut yX5_sendAllOut ∈ gTb := gm (List.mem_of_getElem? (i := 7) (by decide +kernel)) rfl
theorem wSE_X5_X5_workAt : Cond.selects RX5 yX5_workAt yX5_workAt ∈ gTb := gm (List.mem_of_getElem? (i := 8) (by decide +kernel)) rfl
theorem wSE_X5_X5_memberAt : Cond.selects RX5 yX5_memberAt yX5_memberAt ∈ gTb := gm (List.mem_of_getElem? (i := 9) (by decide +kernel)) rfl
theorem wSE_X5_X5_endDay : Cond.selects RX5 yX5_endDay yX5_endDay ∈ gTb := gm (List.mem_of_getElem? (i := 10) (by decide +kernel)) rfl
theorem wSE_X5_X5_shareOut : Cond.selects RX5 yX5_shareOut yX5_shareOut ∈ gTb := gm (List.mem_of_getElem? (i := 11) (by decide +kernel)) rfl
theorem wSE_X5_X5_seenToday : Cond.selects RX5 yX5_seenToday yX5_seenToday ∈ gTb := gm (List.mem_of_getElem? (i := 12) (by decide +kernel)) rfl
theorem wSE_X5_X5_checkTicketsLeft : Cond.selects RX5 yX5_checkTicketsLeft yX5_checkTicketsLeft ∈ gTb := gm (List.mem_of_getElem? (i := 13) (by decide +kernel)) rfl
theorem wSE_X5_X5_issue : Cond.selects RX5 yX5_issue yX5_issue ∈ gTb := gm (List.mem_of_getElem? (i := 14) (by decide +kernel)) rfl
theorem wSE_Jx4a65c_Jx4a65c_add_72be8 : Cond.selects RJx4a65c yJx4a65c_add_72be8 yJx4a65c_add_72be8 ∈ gTb := gm (List.mem_of_getElem? (i := 15) (by decide +kernel)) rfl
theorem wSE_Jx4a65c_Jx4a65c_grow_d5877 : Cond.selects RJx4a65c yJx4a65c_grow_d5877 yJx4a65c_grow_d5877 ∈ gTb := gm (List.mem_of_getElem? (i := 16) (by decide +kernel)) rfl
theorem wSE_Jx4a65c_Jx4a65c_grow_92f84 : Cond.selects RJx4a65c yJx4a65c_grow_92f84 yJx4a65c_grow_92f84 ∈ gTb := gm (List.mem_of_getElem? (i := 17) (by decide +kernel)) rfl
theorem wSE_X5_X5_countOfToday : Cond.selects RX5 yX5_countOfToday yX5_countOfToday ∈ gTb := gm (List.mem_of_getElem? (i := 18) (by decide +kernel)) rfl
theorem wSE_X5_X5_ticketAt : Cond.selects RX5 yX5_ticketAt yX5_ticketAt ∈ gTb := gm (List.mem_of_getElem? (i := 19) (by decide +kernel)) rfl
theorem wSE_X5_X5_checkUsable : Cond.selects RX5 yX5_checkUsable yX5_checkUsable ∈ gTb := gm (List.mem_of_getElem? (i := 20) (by decide +kernel)) rfl
theorem wSE_X5_X5_areClosedFor : Cond.selects RX5 yX5_areClosedFor yX5_areClosedFor ∈ gTb := gm (List.mem_of_getElem? (i := 21) (by decide +kernel)) rfl
theorem wSE_X1_X1_waitingMembers : Cond.selects RX1 yX1_waitingMembers yX1_waitingMembers ∈ gTb := gm (List.mem_of_getElem? (i := 22) (by decide +kernel)) rfl
theorem wSE_Jx4a65c_Jx4a65c_rangeCheckForAdd_d00df : Cond.selects RJx4a65c yJx4a65c_rangeCheckForAdd_d00df yJx4a65c_rangeCheckForAdd_d00df ∈ gTb := gm (List.mem_of_getElem? (i := 23) (by decide +kernel)) rfl
theorem wSE_Jx4a65c_Jx4a65c_outOfBoundsMsg_b52d3 : Cond.selects RJx4a65c yJx4a65c_outOfBoundsMsg_b52d3 yJx4a65c_outOfBoundsMsg_b52d3 ∈ gTb := gm (List.mem_of_getElem? (i := 24) (by decide +kernel)) rfl
theorem wSE_X5_X5_broughtByTickets : Cond.selects RX5 yX5_broughtByTickets yX5_broughtByTickets ∈ gTb := gm (List.mem_of_getElem? (i := 25) (by decide +kernel)) rfl
theorem wSE_X5_X5_broughtByMemberships : Cond.selects RX5 yX5_broughtByMemberships yX5_broughtByMemberships ∈ gTb := gm (List.mem_of_getElem? (i := 26) (by decide +kernel)) rfl
theorem wIN_L : Cond.initialized RL ∈ gTb := gm (List.mem_of_getElem? (i := 27) (by decide +kernel)) rfl
theorem wIN_X5 : Cond.initialized RX5 ∈ gTb := gm (List.mem_of_getElem? (i := 28) (by decide +kernel)) rfl
theorem wIN_Jxa1e45 : Cond.initialized RJxa1e45 ∈ gTb := gm (List.mem_of_getElem? (i := 29) (by decide +kernel)) rfl
theorem wIN_Jxc12de : Cond.initialized RJxc12de ∈ gTb := gm (List.mem_of_getElem? (i := 30) (by decide +kernel)) rfl
theorem wIN_Jx4a65c : Cond.initialized RJx4a65c ∈ gTb := gm (List.mem_of_getElem? (i := 31) (by decide +kernel)) rfl
theorem wIN_X3 : Cond.initialized RX3 ∈ gTb := gm (List.mem_of_getElem? (i := 32) (by decide +kernel)) rfl
theorem wIN_X1 : Cond.initialized RX1 ∈ gTb := gm (List.mem_of_getElem? (i := 33) (by decide +kernel)) rfl
theorem wIN_X0 : Cond.initialized RX0 ∈ gTb := gm (List.mem_of_getElem? (i := 34) (by decide +kernel)) rfl
theorem wIN_java_lang_Throwable : Cond.initialized "java/lang/Throwable" ∈ gTb := gm (List.mem_of_getElem? (i := 35) (by decide +kernel)) rfl
theorem wIN_java_lang_Exception : Cond.initialized "java/lang/Exception" ∈ gTb := gm (List.mem_of_getElem? (i := 36) (by decide +kernel)) rfl
theorem wIN_java_lang_RuntimeException : Cond.initialized "java/lang/RuntimeException" ∈ gTb := gm (List.mem_of_getElem? (i := 37) (by decide +kernel)) rfl
theorem wIN_java_lang_IndexOutOfBoundsException : Cond.initialized "java/lang/IndexOutOfBoundsException" ∈ gTb := gm (List.mem_of_getElem? (i := 38) (by decide +kernel)) rfl
theorem wIN_J15 : Cond.initialized RJ15 ∈ gTb := gm (List.mem_of_getElem? (i := 39) (by decide +kernel)) rfl
theorem wIN_J3 : Cond.initialized RJ3 ∈ gTb := gm (List.mem_of_getElem? (i := 40) (by decide +kernel)) rfl
theorem wIN_Jxd2413 : Cond.initialized RJxd2413 ∈ gTb := gm (List.mem_of_getElem? (i := 41) (by decide +kernel)) rfl
theorem wIN_J6 : Cond.initialized RJ6 ∈ gTb := gm (List.mem_of_getElem? (i := 42) (by decide +kernel)) rfl
theorem wIN_J5 : Cond.initialized RJ5 ∈ gTb := gm (List.mem_of_getElem? (i := 43) (by decide +kernel)) rfl
theorem wIN_J4 : Cond.initialized RJ4 ∈ gTb := gm (List.mem_of_getElem? (i := 44) (by decide +kernel)) rfl
theorem wIN_J0 : Cond.initialized RJ0 ∈ gTb := gm (List.mem_of_getElem? (i := 45) (by decide +kernel)) rfl
theorem wIN_J2 : Cond.initialized RJ2 ∈ gTb := gm (List.mem_of_getElem? (i := 46) (by decide +kernel)) rfl
theorem wIN_J8 : Cond.initialized RJ8 ∈ gTb := gm (List.mem_of_getElem? (i := 47) (by decide +kernel)) rfl
theorem wIN_J9 : Cond.initialized RJ9 ∈ gTb := gm (List.mem_of_getElem? (i := 48) (by decide +kernel)) rfl
theorem wIN_J7 : Cond.initialized RJ7 ∈ gTb := gm (List.mem_of_getElem? (i := 49) (by decide +kernel)) rfl
theorem wIN_J10 : Cond.initialized RJ10 ∈ gTb := gm (List.mem_of_getElem? (i := 50) (by decide +kernel)) rfl
theorem wIN_J1 : Cond.initialized RJ1 ∈ gTb := gm (List.mem_of_getElem? (i := 51) (by decide +kernel)) rfl
theorem wIN_java_lang_IllegalStateException : Cond.initialized "java/lang/IllegalStateException" ∈ gTb := gm (List.mem_of_getElem? (i := 52) (by decide +kernel)) rfl
theorem wIN_X2 : Cond.initialized RX2 ∈ gTb := gm (List.mem_of_getElem? (i := 53) (by decide +kernel)) rfl
theorem wIN_java_lang_IllegalArgumentException : Cond.initialized "java/lang/IllegalArgumentException" ∈ gTb := gm (List.mem_of_getElem? (i := 54) (by decide +kernel)) rfl
theorem wIN_X4 : Cond.initialized RX4 ∈ gTb := gm (List.mem_of_getElem? (i := 55) (by decide +kernel)) rfl
theorem wCL_L_37 : Cond.classLink RL 37 RX5 ∈ gTb := gm (List.mem_of_getElem? (i := 56) (by decide +kernel)) rfl
theorem wIS_X5 : Cond.instantiable RX5 8 ∈ gTb := gm (List.mem_of_getElem? (i := 57) (by decide +kernel)) rfl
theorem wML_L_120 : Cond.methodLink RL 120 yX5_init ∈ gTb := gm (List.mem_of_getElem? (i := 58) (by decide +kernel)) rfl
theorem wIM_X5_init : Cond.instanceMethod yX5_init ∈ gTb := gm (List.mem_of_getElem? (i := 59) (by decide +kernel)) rfl
theorem wCO_X5_init : Cond.code yX5_init cX5_init 2 none ∈ gTb := gm (List.mem_of_getElem? (i := 60) (by decide +kernel)) rfl
theorem wML_X5_3 : Cond.methodLink RX5 3 objectInit ∈ gTb := gm (List.mem_of_getElem? (i := 61) (by decide +kernel)) rfl
theorem wz_62 : Cond.instanceMethod objectInit ∈ gTb := gm (List.mem_of_getElem? (i := 62) (by decide +kernel)) rfl
theorem wCL_X5_9 : Cond.classLink RX5 9 RX3 ∈ gTb := gm (List.mem_of_getElem? (i := 64) (by decide +kernel)) rfl
theorem wx_arrayOver_65 : Cond.arrayOver (Jvm.ClassFile.FieldType.object "MuseumTill$Till") ∈ lw_tbl := List.mem_of_getElem? (i := 65) (by decide +kernel)
theorem wCL_X5_15 : Cond.classLink RX5 15 RX1 ∈ gTb := gm (List.mem_of_getElem? (i := 66) (by decide +kernel)) rfl
theorem wx_arrayOver_67 : Cond.arrayOver (Jvm.ClassFile.FieldType.object "MuseumTill$Room") ∈ lw_tbl := List.mem_of_getElem? (i := 67) (by decide +kernel)
theorem wCL_X5_21 : Cond.classLink RX5 21 RX0 ∈ gTb := gm (List.mem_of_getElem? (i := 68) (by decide +kernel)) rfl
theorem wx_arrayOver_69 : Cond.arrayOver (Jvm.ClassFile.FieldType.object "MuseumTill$Member") ∈ lw_tbl := List.mem_of_getElem? (i := 69) (by decide +kernel)
theorem wCL_X5_27 : Cond.classLink RX5 27 RJx4a65c ∈ gTb := gm (List.mem_of_getElem? (i := 70) (by decide +kernel)) rfl
theorem wIS_Jx4a65c : Cond.instantiable RJx4a65c 3 ∈ gTb := gm (List.mem_of_getElem? (i := 71) (by decide +kernel)) rfl
theorem wML_X5_29 : Cond.methodLink RX5 29 yJx4a65c_init_da8c8 ∈ gTb := gm (List.mem_of_getElem? (i := 72) (by decide +kernel)) rfl
theorem wIM_Jx4a65c_init_da8c8 : Cond.instanceMethod yJx4a65c_init_da8c8 ∈ gTb := gm (List.mem_of_getElem? (i := 73) (by decide +kernel)) rfl
theorem wCO_Jx4a65c_init_da8c8 : Cond.code yJx4a65c_init_da8c8 cJx4a65c_init_da8c8 1 none ∈ gTb := gm (List.mem_of_getElem? (i := 74) (by decide +kernel)) rfl
theorem wML_Jx4a65c_1 : Cond.methodLink RJx4a65c 1 yJxc12de_init_da8c8 ∈ gTb := gm (List.mem_of_getElem? (i := 75) (by decide +kernel)) rfl
theorem wIM_Jxc12de_init_da8c8 : Cond.instanceMethod yJxc12de_init_da8c8 ∈ gTb := gm (List.mem_of_getElem? (i := 76) (by decide +kernel)) rfl
theorem wCO_Jxc12de_init_da8c8 : Cond.code yJxc12de_init_da8c8 cJxc12de_init_da8c8 1 none ∈ gTb := gm (List.mem_of_getElem? (i := 77) (by decide +kernel)) rfl
theorem wML_Jxc12de_1 : Cond.methodLink RJxc12de 1 yJxa1e45_init_da8c8 ∈ gTb := gm (List.mem_of_getElem? (i := 78) (by decide +kernel)) rfl
theorem wIM_Jxa1e45_init_da8c8 : Cond.instanceMethod yJxa1e45_init_da8c8 ∈ gTb := gm (List.mem_of_getElem? (i := 79) (by decide +kernel)) rfl
theorem wCO_Jxa1e45_init_da8c8 : Cond.code yJxa1e45_init_da8c8 cJxa1e45_init_da8c8 1 none ∈ gTb := gm (List.mem_of_getElem? (i := 80) (by decide +kernel)) rfl
theorem wML_Jxa1e45_1 : Cond.methodLink RJxa1e45 1 objectInit ∈ gTb := gm (List.mem_of_getElem? (i := 81) (by decide +kernel)) rfl
theorem wFL_Jx4a65c_39 : Cond.fieldLink RJx4a65c 39 RJx4a65c "DEFAULTCAPACITY_EMPTY_ELEMENTDATA" "[Ljava/lang/Object;" ∈ gTb := gm (List.mem_of_getElem? (i := 82) (by decide +kernel)) rfl
theorem wx_laysStatic_83 : Cond.laysStatic RJx4a65c "DEFAULTCAPACITY_EMPTY_ELEMENTDATA" "[Ljava/lang/Object;" ∈ lw_tbl := List.mem_of_getElem? (i := 83) (by decide +kernel)
theorem wFL_Jx4a65c_9 : Cond.fieldLink RJx4a65c 9 RJx4a65c "elementData" "[Ljava/lang/Object;" ∈ gTb := gm (List.mem_of_getElem? (i := 84) (by decide +kernel)) rfl
theorem wFL_Jx4a65c_48 : Cond.fieldLink RJx4a65c 48 RJx4a65c "size" "I" ∈ gTb := gm (List.mem_of_getElem? (i := 85) (by decide +kernel)) rfl
theorem wFL_Jxc12de_7 : Cond.fieldLink RJxc12de 7 RJxc12de "modCount" "I" ∈ gTb := gm (List.mem_of_getElem? (i := 86) (by decide +kernel)) rfl
theorem wFL_Jx4a65c_63 : Cond.fieldLink RJx4a65c 63 RJx4a65c "modCount" "I" ∈ gTb := gm (List.mem_of_getElem? (i := 87) (by decide +kernel)) rfl
theorem wSF_Jx4a65c_modCount : Cond.sameField RJx4a65c RJxc12de "modCount" "I" ∈ gTb := gm (List.mem_of_getElem? (i := 88) (by decide +kernel)) rfl
theorem wSU_Jx4a65c : Cond.superclass RJx4a65c RJxc12de ∈ gTb := gm (List.mem_of_getElem? (i := 95) (by decide +kernel)) rfl
theorem wIS_X3 : Cond.instantiable RX3 5 ∈ gTb := gm (List.mem_of_getElem? (i := 96) (by decide +kernel)) rfl
theorem wML_X5_37 : Cond.methodLink RX5 37 yX3_init ∈ gTb := gm (List.mem_of_getElem? (i := 97) (by decide +kernel)) rfl
theorem wIM_X3_init : Cond.instanceMethod yX3_init ∈ gTb := gm (List.mem_of_getElem? (i := 98) (by decide +kernel)) rfl
theorem wCO_X3_init : Cond.code yX3_init cX3_init 2 none ∈ gTb := gm (List.mem_of_getElem? (i := 99) (by decide +kernel)) rfl
theorem wML_X3_1 : Cond.methodLink RX3 1 objectInit ∈ gTb := gm (List.mem_of_getElem? (i := 100) (by decide +kernel)) rfl
theorem wFL_X3_7 : Cond.fieldLink RX3 7 RX3 "ticketPrice" "I" ∈ gTb := gm (List.mem_of_getElem? (i := 101) (by decide +kernel)) rfl
theorem wFL_X5_50 : Cond.fieldLink RX5 50 RX3 "ticketPrice" "I" ∈ gTb := gm (List.mem_of_getElem? (i := 102) (by decide +kernel)) rfl
theorem wFL_X3_16 : Cond.fieldLink RX3 16 RX3 "kept" "I" ∈ gTb := gm (List.mem_of_getElem? (i := 103) (by decide +kernel)) rfl
theorem wFL_X5_259 : Cond.fieldLink RX5 259 RX3 "kept" "I" ∈ gTb := gm (List.mem_of_getElem? (i := 104) (by decide +kernel)) rfl
theorem wFL_X3_13 : Cond.fieldLink RX3 13 RX3 "fees" "I" ∈ gTb := gm (List.mem_of_getElem? (i := 105) (by decide +kernel)) rfl
theorem wFL_X5_262 : Cond.fieldLink RX5 262 RX3 "fees" "I" ∈ gTb := gm (List.mem_of_getElem? (i := 106) (by decide +kernel)) rfl
theorem wFL_X3_19 : Cond.fieldLink RX3 19 RX3 "sales" "I" ∈ gTb := gm (List.mem_of_getElem? (i := 107) (by decide +kernel)) rfl
theorem wFL_X5_265 : Cond.fieldLink RX5 265 RX3 "sales" "I" ∈ gTb := gm (List.mem_of_getElem? (i := 108) (by decide +kernel)) rfl
theorem wFL_X3_22 : Cond.fieldLink RX3 22 RX3 "gifts" "I" ∈ gTb := gm (List.mem_of_getElem? (i := 109) (by decide +kernel)) rfl
theorem wFL_X5_268 : Cond.fieldLink RX5 268 RX3 "gifts" "I" ∈ gTb := gm (List.mem_of_getElem? (i := 110) (by decide +kernel)) rfl
theorem wSU_X3 : Cond.superclass RX3 "java/lang/Object" ∈ gTb := gm (List.mem_of_getElem? (i := 121) (by decide +kernel)) rfl
theorem wIS_X1 : Cond.instantiable RX1 6 ∈ gTb := gm (List.mem_of_getElem? (i := 122) (by decide +kernel)) rfl
theorem wML_X5_40 : Cond.methodLink RX5 40 yX1_init ∈ gTb := gm (List.mem_of_getElem? (i := 123) (by decide +kernel)) rfl
theorem wIM_X1_init : Cond.instanceMethod yX1_init ∈ gTb := gm (List.mem_of_getElem? (i := 124) (by decide +kernel)) rfl
theorem wCO_X1_init : Cond.code yX1_init cX1_init 2 none ∈ gTb := gm (List.mem_of_getElem? (i := 125) (by decide +kernel)) rfl
theorem wML_X1_3 : Cond.methodLink RX1 3 objectInit ∈ gTb := gm (List.mem_of_getElem? (i := 126) (by decide +kernel)) rfl
theorem wCL_X1_15 : Cond.classLink RX1 15 RJx4a65c ∈ gTb := gm (List.mem_of_getElem? (i := 127) (by decide +kernel)) rfl
theorem wML_X1_17 : Cond.methodLink RX1 17 yJx4a65c_init_da8c8 ∈ gTb := gm (List.mem_of_getElem? (i := 128) (by decide +kernel)) rfl
theorem wFL_X1_22 : Cond.fieldLink RX1 22 RX1 "number" "I" ∈ gTb := gm (List.mem_of_getElem? (i := 129) (by decide +kernel)) rfl
theorem wFL_X4_24 : Cond.fieldLink RX4 24 RX1 "number" "I" ∈ gTb := gm (List.mem_of_getElem? (i := 130) (by decide +kernel)) rfl
theorem wFL_X5_170 : Cond.fieldLink RX5 170 RX1 "number" "I" ∈ gTb := gm (List.mem_of_getElem? (i := 131) (by decide +kernel)) rfl
theorem wFL_X4_18 : Cond.fieldLink RX4 18 RX1 "house" "I" ∈ gTb := gm (List.mem_of_getElem? (i := 132) (by decide +kernel)) rfl
theorem wFL_X1_25 : Cond.fieldLink RX1 25 RX1 "house" "I" ∈ gTb := gm (List.mem_of_getElem? (i := 133) (by decide +kernel)) rfl
theorem wFL_X5_148 : Cond.fieldLink RX5 148 RX1 "house" "I" ∈ gTb := gm (List.mem_of_getElem? (i := 134) (by decide +kernel)) rfl
theorem wFL_X1_9 : Cond.fieldLink RX1 9 RX1 "cap" "I" ∈ gTb := gm (List.mem_of_getElem? (i := 135) (by decide +kernel)) rfl
theorem wFL_X5_131 : Cond.fieldLink RX5 131 RX1 "cap" "I" ∈ gTb := gm (List.mem_of_getElem? (i := 136) (by decide +kernel)) rfl
theorem wFL_X5_141 : Cond.fieldLink RX5 141 RX1 "isClosed" "Z" ∈ gTb := gm (List.mem_of_getElem? (i := 137) (by decide +kernel)) rfl
theorem wFL_X5_138 : Cond.fieldLink RX5 138 RX1 "visitors" "I" ∈ gTb := gm (List.mem_of_getElem? (i := 138) (by decide +kernel)) rfl
theorem wFL_X1_18 : Cond.fieldLink RX1 18 RX1 "queue" "Ljava/util/ArrayList;" ∈ gTb := gm (List.mem_of_getElem? (i := 139) (by decide +kernel)) rfl
theorem wFL_X5_228 : Cond.fieldLink RX5 228 RX1 "queue" "Ljava/util/ArrayList;" ∈ gTb := gm (List.mem_of_getElem? (i := 140) (by decide +kernel)) rfl
theorem wSU_X1 : Cond.superclass RX1 "java/lang/Object" ∈ gTb := gm (List.mem_of_getElem? (i := 153) (by decide +kernel)) rfl
theorem wIS_X0 : Cond.instantiable RX0 2 ∈ gTb := gm (List.mem_of_getElem? (i := 154) (by decide +kernel)) rfl
theorem wx_methodLinkNest_155 : Cond.methodLinkNest RX5 41 yX0_init RX5 ∈ lw_tbl := List.mem_of_getElem? (i := 155) (by decide +kernel)
theorem wIM_X0_init : Cond.instanceMethod yX0_init ∈ gTb := gm (List.mem_of_getElem? (i := 156) (by decide +kernel)) rfl
theorem wCO_X0_init : Cond.code yX0_init cX0_init 1 none ∈ gTb := gm (List.mem_of_getElem? (i := 157) (by decide +kernel)) rfl
theorem wML_X0_3 : Cond.methodLink RX0 3 objectInit ∈ gTb := gm (List.mem_of_getElem? (i := 158) (by decide +kernel)) rfl
theorem wFL_X0_19 : Cond.fieldLink RX0 19 RX0 "memberships" "I" ∈ gTb := gm (List.mem_of_getElem? (i := 159) (by decide +kernel)) rfl
theorem wFL_X5_121 : Cond.fieldLink RX5 121 RX0 "memberships" "I" ∈ gTb := gm (List.mem_of_getElem? (i := 160) (by decide +kernel)) rfl
theorem wFL_X0_9 : Cond.fieldLink RX0 9 RX0 "lastDay" "I" ∈ gTb := gm (List.mem_of_getElem? (i := 161) (by decide +kernel)) rfl
theorem wFL_X5_124 : Cond.fieldLink RX5 124 RX0 "lastDay" "I" ∈ gTb := gm (List.mem_of_getElem? (i := 162) (by decide +kernel)) rfl
theorem wSU_X0 : Cond.superclass RX0 "java/lang/Object" ∈ gTb := gm (List.mem_of_getElem? (i := 167) (by decide +kernel)) rfl
theorem wFL_X5_11 : Cond.fieldLink RX5 11 RX5 "tills" "[LMuseumTill$Till;" ∈ gTb := gm (List.mem_of_getElem? (i := 168) (by decide +kernel)) rfl
theorem wFL_X5_17 : Cond.fieldLink RX5 17 RX5 "rooms" "[LMuseumTill$Room;" ∈ gTb := gm (List.mem_of_getElem? (i := 169) (by decide +kernel)) rfl
theorem wFL_X5_23 : Cond.fieldLink RX5 23 RX5 "members" "[LMuseumTill$Member;" ∈ gTb := gm (List.mem_of_getElem? (i := 170) (by decide +kernel)) rfl
theorem wFL_X5_30 : Cond.fieldLink RX5 30 RX5 "allTickets" "Ljava/util/ArrayList;" ∈ gTb := gm (List.mem_of_getElem? (i := 171) (by decide +kernel)) rfl
theorem wFL_X5_34 : Cond.fieldLink RX5 34 RX5 "works" "Ljava/util/ArrayList;" ∈ gTb := gm (List.mem_of_getElem? (i := 172) (by decide +kernel)) rfl
theorem wFL_X5_65 : Cond.fieldLink RX5 65 RX5 "today" "I" ∈ gTb := gm (List.mem_of_getElem? (i := 173) (by decide +kernel)) rfl
theorem wFL_X5_278 : Cond.fieldLink RX5 278 RX5 "firstOfToday" "I" ∈ gTb := gm (List.mem_of_getElem? (i := 174) (by decide +kernel)) rfl
theorem wFL_X5_113 : Cond.fieldLink RX5 113 RX5 "paidIn" "I" ∈ gTb := gm (List.mem_of_getElem? (i := 175) (by decide +kernel)) rfl
theorem wSU_X5 : Cond.superclass RX5 "java/lang/Object" ∈ gTb := gm (List.mem_of_getElem? (i := 192) (by decide +kernel)) rfl
theorem wML_L_158 : Cond.methodLink RL 158 yX5_setPrice ∈ gTb := gm (List.mem_of_getElem? (i := 193) (by decide +kernel)) rfl
theorem wIM_X5_setPrice : Cond.instanceMethod yX5_setPrice ∈ gTb := gm (List.mem_of_getElem? (i := 194) (by decide +kernel)) rfl
theorem wSE_X5_X5_setPrice : Cond.selects RX5 yX5_setPrice yX5_setPrice ∈ gTb := gm (List.mem_of_getElem? (i := 195) (by decide +kernel)) rfl
theorem wCO_X5_setPrice : Cond.code yX5_setPrice cX5_setPrice 5 (Option.some Jvm.ClassFile.FieldType.int) ∈ gTb := gm (List.mem_of_getElem? (i := 196) (by decide +kernel)) rfl
theorem wML_X5_42 : Cond.methodLink RX5 42 yX5_tillAt ∈ gTb := gm (List.mem_of_getElem? (i := 197) (by decide +kernel)) rfl
theorem wIM_X5_tillAt : Cond.instanceMethod yX5_tillAt ∈ gTb := gm (List.mem_of_getElem? (i := 199) (by decide +kernel)) rfl
theorem wCO_X5_tillAt : Cond.code yX5_tillAt cX5_tillAt 2 (Option.some (Jvm.ClassFile.FieldType.object "MuseumTill$Till")) ∈ gTb := gm (List.mem_of_getElem? (i := 200) (by decide +kernel)) rfl
theorem wCL_X5_284 : Cond.classLink RX5 284 "java/lang/IndexOutOfBoundsException" ∈ gTb := gm (List.mem_of_getElem? (i := 201) (by decide +kernel)) rfl
theorem wx_castable_203 : Cond.castable "java/lang/IndexOutOfBoundsException" "java/lang/IndexOutOfBoundsException" ∈ lw_tbl := List.mem_of_getElem? (i := 203) (by decide +kernel)
theorem wx_declares_204 : Cond.declares ⟨"java/lang/RuntimeException", "<init>", "()V"⟩ ∈ lw_tbl := List.mem_of_getElem? (i := 204) (by decide +kernel)
theorem wx_declares_205 : Cond.declares ⟨"java/lang/RuntimeException", "<init>", "(Ljava/lang/String;)V"⟩ ∈ lw_tbl := List.mem_of_getElem? (i := 205) (by decide +kernel)
theorem wx_declares_206 : Cond.declares ⟨"java/lang/Exception", "<init>", "()V"⟩ ∈ lw_tbl := List.mem_of_getElem? (i := 206) (by decide +kernel)
theorem wx_declares_207 : Cond.declares ⟨"java/lang/Exception", "<init>", "(Ljava/lang/String;)V"⟩ ∈ lw_tbl := List.mem_of_getElem? (i := 207) (by decide +kernel)
theorem wx_declares_208 : Cond.declares ⟨"java/lang/Throwable", "<init>", "()V"⟩ ∈ lw_tbl := List.mem_of_getElem? (i := 208) (by decide +kernel)
theorem wx_declares_209 : Cond.declares ⟨"java/lang/Throwable", "<init>", "(Ljava/lang/String;)V"⟩ ∈ lw_tbl := List.mem_of_getElem? (i := 209) (by decide +kernel)
theorem wx_laysStatic_228 : Cond.laysStatic "java/lang/Throwable" "UNASSIGNED_STACK" "[Ljava/lang/StackTraceElement;" ∈ lw_tbl := List.mem_of_getElem? (i := 228) (by decide +kernel)
theorem wx_laysStatic_230 : Cond.laysStatic "java/lang/Throwable" "SUPPRESSED_SENTINEL" "Ljava/util/List;" ∈ lw_tbl := List.mem_of_getElem? (i := 230) (by decide +kernel)
theorem wx_stringRef_242 : Cond.stringRef RX5 286 "no such house" ∈ lw_tbl := List.mem_of_getElem? (i := 242) (by decide +kernel)
theorem wAC_byte : Cond.arrayClass Jvm.ClassFile.FieldType.byte ∈ gTb := gm (List.mem_of_getElem? (i := 268) (by decide +kernel)) rfl
theorem wML_X5_46 : Cond.methodLink RX5 46 yX5_checkRange ∈ gTb := gm (List.mem_of_getElem? (i := 269) (by decide +kernel)) rfl
theorem wST_X5_checkRange : Cond.static yX5_checkRange ∈ gTb := gm (List.mem_of_getElem? (i := 270) (by decide +kernel)) rfl
theorem wCO_X5_checkRange : Cond.code yX5_checkRange cX5_checkRange 3 none ∈ gTb := gm (List.mem_of_getElem? (i := 271) (by decide +kernel)) rfl
theorem wCL_X5_299 : Cond.classLink RX5 299 "java/lang/IllegalArgumentException" ∈ gTb := gm (List.mem_of_getElem? (i := 272) (by decide +kernel)) rfl
theorem wx_castable_274 : Cond.castable "java/lang/IllegalArgumentException" "java/lang/IllegalArgumentException" ∈ lw_tbl := List.mem_of_getElem? (i := 274) (by decide +kernel)
theorem wx_stringRef_281 : Cond.stringRef RX5 301 "out of range" ∈ lw_tbl := List.mem_of_getElem? (i := 281) (by decide +kernel)
theorem wML_L_143 : Cond.methodLink RL 143 yX5_setCap ∈ gTb := gm (List.mem_of_getElem? (i := 288) (by decide +kernel)) rfl
theorem wIM_X5_setCap : Cond.instanceMethod yX5_setCap ∈ gTb := gm (List.mem_of_getElem? (i := 289) (by decide +kernel)) rfl
theorem wSE_X5_X5_setCap : Cond.selects RX5 yX5_setCap yX5_setCap ∈ gTb := gm (List.mem_of_getElem? (i := 290) (by decide +kernel)) rfl
theorem wCO_X5_setCap : Cond.code yX5_setCap cX5_setCap 4 (Option.some Jvm.ClassFile.FieldType.int) ∈ gTb := gm (List.mem_of_getElem? (i := 291) (by decide +kernel)) rfl
theorem wML_X5_127 : Cond.methodLink RX5 127 yX5_roomAt ∈ gTb := gm (List.mem_of_getElem? (i := 292) (by decide +kernel)) rfl
theorem wIM_X5_roomAt : Cond.instanceMethod yX5_roomAt ∈ gTb := gm (List.mem_of_getElem? (i := 294) (by decide +kernel)) rfl
theorem wCO_X5_roomAt : Cond.code yX5_roomAt cX5_roomAt 2 (Option.some (Jvm.ClassFile.FieldType.object "MuseumTill$Room")) ∈ gTb := gm (List.mem_of_getElem? (i := 295) (by decide +kernel)) rfl
theorem wx_stringRef_296 : Cond.stringRef RX5 289 "no such room" ∈ lw_tbl := List.mem_of_getElem? (i := 296) (by decide +kernel)
theorem wML_X5_134 : Cond.methodLink RX5 134 yX5_letQueueIn ∈ gTb := gm (List.mem_of_getElem? (i := 297) (by decide +kernel)) rfl
theorem wIM_X5_letQueueIn : Cond.instanceMethod yX5_letQueueIn ∈ gTb := gm (List.mem_of_getElem? (i := 299) (by decide +kernel)) rfl
theorem wCO_X5_letQueueIn : Cond.code yX5_letQueueIn cX5_letQueueIn 4 none ∈ gTb := gm (List.mem_of_getElem? (i := 300) (by decide +kernel)) rfl
theorem wML_X5_315 : Cond.methodLink RX5 315 yJx4a65c_isEmpty_aae02 ∈ gTb := gm (List.mem_of_getElem? (i := 301) (by decide +kernel)) rfl
theorem wIM_Jx4a65c_isEmpty_aae02 : Cond.instanceMethod yJx4a65c_isEmpty_aae02 ∈ gTb := gm (List.mem_of_getElem? (i := 302) (by decide +kernel)) rfl
theorem wSE_Jx4a65c_Jx4a65c_isEmpty_aae02 : Cond.selects RJx4a65c yJx4a65c_isEmpty_aae02 yJx4a65c_isEmpty_aae02 ∈ gTb := gm (List.mem_of_getElem? (i := 303) (by decide +kernel)) rfl
theorem wCO_Jx4a65c_isEmpty_aae02 : Cond.code yJx4a65c_isEmpty_aae02 cJx4a65c_isEmpty_aae02 1 (Option.some Jvm.ClassFile.FieldType.boolean) ∈ gTb := gm (List.mem_of_getElem? (i := 304) (by decide +kernel)) rfl
theorem wML_X5_319 : Cond.methodLink RX5 319 yJx4a65c_remove_915e3 ∈ gTb := gm (List.mem_of_getElem? (i := 305) (by decide +kernel)) rfl
theorem wIM_Jx4a65c_remove_915e3 : Cond.instanceMethod yJx4a65c_remove_915e3 ∈ gTb := gm (List.mem_of_getElem? (i := 306) (by decide +kernel)) rfl
theorem wSE_Jx4a65c_Jx4a65c_remove_915e3 : Cond.selects RJx4a65c yJx4a65c_remove_915e3 yJx4a65c_remove_915e3 ∈ gTb := gm (List.mem_of_getElem? (i := 307) (by decide +kernel)) rfl
theorem wCO_Jx4a65c_remove_915e3 : Cond.code yJx4a65c_remove_915e3 cJx4a65c_remove_915e3 4 (Option.some (Jvm.ClassFile.FieldType.object "java/lang/Object")) ∈ gTb := gm (List.mem_of_getElem? (i := 308) (by decide +kernel)) rfl
theorem wML_Jx4a65c_118 : Cond.methodLink RJx4a65c 118 yJ15_checkIndex_7cf53 ∈ gTb := gm (List.mem_of_getElem? (i := 309) (by decide +kernel)) rfl
theorem wST_J15_checkIndex_7cf53 : Cond.static yJ15_checkIndex_7cf53 ∈ gTb := gm (List.mem_of_getElem? (i := 310) (by decide +kernel)) rfl
theorem wCO_J15_checkIndex_7cf53 : Cond.code yJ15_checkIndex_7cf53 cJ15_checkIndex_7cf53 2 (Option.some Jvm.ClassFile.FieldType.int) ∈ gTb := gm (List.mem_of_getElem? (i := 311) (by decide +kernel)) rfl
theorem wML_J15_105 : Cond.methodLink RJ15 105 yJ3_checkIndex_8e157 ∈ gTb := gm (List.mem_of_getElem? (i := 312) (by decide +kernel)) rfl
theorem wST_J3_checkIndex_8e157 : Cond.static yJ3_checkIndex_8e157 ∈ gTb := gm (List.mem_of_getElem? (i := 313) (by decide +kernel)) rfl
theorem wCO_J3_checkIndex_8e157 : Cond.code yJ3_checkIndex_8e157 cJ3_checkIndex_8e157 3 (Option.some Jvm.ClassFile.FieldType.int) ∈ gTb := gm (List.mem_of_getElem? (i := 314) (by decide +kernel)) rfl
theorem wML_Jx4a65c_144 : Cond.methodLink RJx4a65c 144 yJx4a65c_fastRemove_b59b0 ∈ gTb := gm (List.mem_of_getElem? (i := 315) (by decide +kernel)) rfl
theorem wIM_Jx4a65c_fastRemove_b59b0 : Cond.instanceMethod yJx4a65c_fastRemove_b59b0 ∈ gTb := gm (List.mem_of_getElem? (i := 317) (by decide +kernel)) rfl
theorem wCO_Jx4a65c_fastRemove_b59b0 : Cond.code yJx4a65c_fastRemove_b59b0 cJx4a65c_fastRemove_b59b0 4 none ∈ gTb := gm (List.mem_of_getElem? (i := 318) (by decide +kernel)) rfl
theorem wNA_321 : Cond.native ⟨"java/lang/System", "arraycopy", "(Ljava/lang/Object;ILjava/lang/Object;II)V"⟩ ∈ gTb := gm (List.mem_of_getElem? (i := 321) (by decide +kernel)) rfl
theorem wCL_X5_96 : Cond.classLink RX5 96 RX2 ∈ gTb := gm (List.mem_of_getElem? (i := 322) (by decide +kernel)) rfl
theorem wML_X5_322 : Cond.methodLink RX5 322 yX5_showRoom ∈ gTb := gm (List.mem_of_getElem? (i := 323) (by decide +kernel)) rfl
theorem wIM_X5_showRoom : Cond.instanceMethod yX5_showRoom ∈ gTb := gm (List.mem_of_getElem? (i := 325) (by decide +kernel)) rfl
theorem wCO_X5_showRoom : Cond.code yX5_showRoom cX5_showRoom 6 none ∈ gTb := gm (List.mem_of_getElem? (i := 326) (by decide +kernel)) rfl
theorem wML_X5_173 : Cond.methodLink RX5 173 yJx4a65c_size_8abf5 ∈ gTb := gm (List.mem_of_getElem? (i := 327) (by decide +kernel)) rfl
theorem wIM_Jx4a65c_size_8abf5 : Cond.instanceMethod yJx4a65c_size_8abf5 ∈ gTb := gm (List.mem_of_getElem? (i := 328) (by decide +kernel)) rfl
theorem wSE_Jx4a65c_Jx4a65c_size_8abf5 : Cond.selects RJx4a65c yJx4a65c_size_8abf5 yJx4a65c_size_8abf5 ∈ gTb := gm (List.mem_of_getElem? (i := 329) (by decide +kernel)) rfl
theorem wCO_Jx4a65c_size_8abf5 : Cond.code yJx4a65c_size_8abf5 cJx4a65c_size_8abf5 1 (Option.some Jvm.ClassFile.FieldType.int) ∈ gTb := gm (List.mem_of_getElem? (i := 330) (by decide +kernel)) rfl
theorem wML_X5_234 : Cond.methodLink RX5 234 yJx4a65c_get_915e3 ∈ gTb := gm (List.mem_of_getElem? (i := 331) (by decide +kernel)) rfl
theorem wIM_Jx4a65c_get_915e3 : Cond.instanceMethod yJx4a65c_get_915e3 ∈ gTb := gm (List.mem_of_getElem? (i := 332) (by decide +kernel)) rfl
theorem wSE_Jx4a65c_Jx4a65c_get_915e3 : Cond.selects RJx4a65c yJx4a65c_get_915e3 yJx4a65c_get_915e3 ∈ gTb := gm (List.mem_of_getElem? (i := 333) (by decide +kernel)) rfl
theorem wCO_Jx4a65c_get_915e3 : Cond.code yJx4a65c_get_915e3 cJx4a65c_get_915e3 2 (Option.some (Jvm.ClassFile.FieldType.object "java/lang/Object")) ∈ gTb := gm (List.mem_of_getElem? (i := 334) (by decide +kernel)) rfl
theorem wML_Jx4a65c_123 : Cond.methodLink RJx4a65c 123 yJx4a65c_elementData_915e3 ∈ gTb := gm (List.mem_of_getElem? (i := 335) (by decide +kernel)) rfl
theorem wIM_Jx4a65c_elementData_915e3 : Cond.instanceMethod yJx4a65c_elementData_915e3 ∈ gTb := gm (List.mem_of_getElem? (i := 336) (by decide +kernel)) rfl
theorem wSE_Jx4a65c_Jx4a65c_elementData_915e3 : Cond.selects RJx4a65c yJx4a65c_elementData_915e3 yJx4a65c_elementData_915e3 ∈ gTb := gm (List.mem_of_getElem? (i := 337) (by decide +kernel)) rfl
theorem wCO_Jx4a65c_elementData_915e3 : Cond.code yJx4a65c_elementData_915e3 cJx4a65c_elementData_915e3 2 (Option.some (Jvm.ClassFile.FieldType.object "java/lang/Object")) ∈ gTb := gm (List.mem_of_getElem? (i := 338) (by decide +kernel)) rfl
theorem wCL_X5_179 : Cond.classLink RX5 179 RX4 ∈ gTb := gm (List.mem_of_getElem? (i := 339) (by decide +kernel)) rfl
theorem wML_X5_326 : Cond.methodLink RX5 326 yX5_payFee ∈ gTb := gm (List.mem_of_getElem? (i := 340) (by decide +kernel)) rfl
theorem wIM_X5_payFee : Cond.instanceMethod yX5_payFee ∈ gTb := gm (List.mem_of_getElem? (i := 342) (by decide +kernel)) rfl
theorem wCO_X5_payFee : Cond.code yX5_payFee cX5_payFee 3 none ∈ gTb := gm (List.mem_of_getElem? (i := 343) (by decide +kernel)) rfl
theorem wML_X5_330 : Cond.methodLink RX5 330 yX3_bookFee ∈ gTb := gm (List.mem_of_getElem? (i := 344) (by decide +kernel)) rfl
theorem wIM_X3_bookFee : Cond.instanceMethod yX3_bookFee ∈ gTb := gm (List.mem_of_getElem? (i := 345) (by decide +kernel)) rfl
theorem wSE_X3_X3_bookFee : Cond.selects RX3 yX3_bookFee yX3_bookFee ∈ gTb := gm (List.mem_of_getElem? (i := 346) (by decide +kernel)) rfl
theorem wCO_X3_bookFee : Cond.code yX3_bookFee cX3_bookFee 2 none ∈ gTb := gm (List.mem_of_getElem? (i := 347) (by decide +kernel)) rfl
theorem wML_L_146 : Cond.methodLink RL 146 yX5_close ∈ gTb := gm (List.mem_of_getElem? (i := 348) (by decide +kernel)) rfl
theorem wIM_X5_close : Cond.instanceMethod yX5_close ∈ gTb := gm (List.mem_of_getElem? (i := 349) (by decide +kernel)) rfl
theorem wSE_X5_X5_close : Cond.selects RX5 yX5_close yX5_close ∈ gTb := gm (List.mem_of_getElem? (i := 350) (by decide +kernel)) rfl
theorem wCO_X5_close : Cond.code yX5_close cX5_close 4 (Option.some Jvm.ClassFile.FieldType.int) ∈ gTb := gm (List.mem_of_getElem? (i := 351) (by decide +kernel)) rfl
theorem wML_X5_144 : Cond.methodLink RX5 144 yX5_sendAllOut ∈ gTb := gm (List.mem_of_getElem? (i := 352) (by decide +kernel)) rfl
theorem wIM_X5_sendAllOut : Cond.instanceMethod yX5_sendAllOut ∈ gTb := gm (List.mem_of_getElem? (i := 354) (by decide +kernel)) rfl
theorem wCO_X5_sendAllOut : Cond.code yX5_sendAllOut cX5_sendAllOut 5 (Option.some Jvm.ClassFile.FieldType.int) ∈ gTb := gm (List.mem_of_getElem? (i := 355) (by decide +kernel)) rfl
theorem wML_X5_167 : Cond.methodLink RX5 167 yX2_leaveRoom ∈ gTb := gm (List.mem_of_getElem? (i := 356) (by decide +kernel)) rfl
theorem wIM_X2_leaveRoom : Cond.instanceMethod yX2_leaveRoom ∈ gTb := gm (List.mem_of_getElem? (i := 357) (by decide +kernel)) rfl
theorem wSE_X2_X2_leaveRoom : Cond.selects RX2 yX2_leaveRoom yX2_leaveRoom ∈ gTb := gm (List.mem_of_getElem? (i := 358) (by decide +kernel)) rfl
theorem wCO_X2_leaveRoom : Cond.code yX2_leaveRoom cX2_leaveRoom 1 none ∈ gTb := gm (List.mem_of_getElem? (i := 359) (by decide +kernel)) rfl
theorem wML_X5_333 : Cond.methodLink RX5 333 yJx4a65c_clear_da8c8 ∈ gTb := gm (List.mem_of_getElem? (i := 360) (by decide +kernel)) rfl
theorem wIM_Jx4a65c_clear_da8c8 : Cond.instanceMethod yJx4a65c_clear_da8c8 ∈ gTb := gm (List.mem_of_getElem? (i := 361) (by decide +kernel)) rfl
theorem wSE_Jx4a65c_Jx4a65c_clear_da8c8 : Cond.selects RJx4a65c yJx4a65c_clear_da8c8 yJx4a65c_clear_da8c8 ∈ gTb := gm (List.mem_of_getElem? (i := 362) (by decide +kernel)) rfl
theorem wCO_Jx4a65c_clear_da8c8 : Cond.code yJx4a65c_clear_da8c8 cJx4a65c_clear_da8c8 4 none ∈ gTb := gm (List.mem_of_getElem? (i := 363) (by decide +kernel)) rfl
theorem wML_L_149 : Cond.methodLink RL 149 yX5_setShare ∈ gTb := gm (List.mem_of_getElem? (i := 364) (by decide +kernel)) rfl
theorem wIM_X5_setShare : Cond.instanceMethod yX5_setShare ∈ gTb := gm (List.mem_of_getElem? (i := 365) (by decide +kernel)) rfl
theorem wSE_X5_X5_setShare : Cond.selects RX5 yX5_setShare yX5_setShare ∈ gTb := gm (List.mem_of_getElem? (i := 366) (by decide +kernel)) rfl
theorem wCO_X5_setShare : Cond.code yX5_setShare cX5_setShare 5 (Option.some Jvm.ClassFile.FieldType.int) ∈ gTb := gm (List.mem_of_getElem? (i := 367) (by decide +kernel)) rfl
theorem wML_X5_189 : Cond.methodLink RX5 189 yX5_workAt ∈ gTb := gm (List.mem_of_getElem? (i := 368) (by decide +kernel)) rfl
theorem wIM_X5_workAt : Cond.instanceMethod yX5_workAt ∈ gTb := gm (List.mem_of_getElem? (i := 370) (by decide +kernel)) rfl
theorem wCO_X5_workAt : Cond.code yX5_workAt cX5_workAt 2 (Option.some (Jvm.ClassFile.FieldType.object "MuseumTill$Work")) ∈ gTb := gm (List.mem_of_getElem? (i := 371) (by decide +kernel)) rfl
theorem wx_stringRef_372 : Cond.stringRef RX5 295 "no such work" ∈ lw_tbl := List.mem_of_getElem? (i := 372) (by decide +kernel)
theorem wML_L_152 : Cond.methodLink RL 152 yX5_sell ∈ gTb := gm (List.mem_of_getElem? (i := 373) (by decide +kernel)) rfl
theorem wIM_X5_sell : Cond.instanceMethod yX5_sell ∈ gTb := gm (List.mem_of_getElem? (i := 374) (by decide +kernel)) rfl
theorem wSE_X5_X5_sell : Cond.selects RX5 yX5_sell yX5_sell ∈ gTb := gm (List.mem_of_getElem? (i := 375) (by decide +kernel)) rfl
theorem wCO_X5_sell : Cond.code yX5_sell cX5_sell 6 (Option.some Jvm.ClassFile.FieldType.int) ∈ gTb := gm (List.mem_of_getElem? (i := 376) (by decide +kernel)) rfl
theorem wML_X5_213 : Cond.methodLink RX5 213 yX5_checkRealHouse ∈ gTb := gm (List.mem_of_getElem? (i := 377) (by decide +kernel)) rfl
theorem wST_X5_checkRealHouse : Cond.static yX5_checkRealHouse ∈ gTb := gm (List.mem_of_getElem? (i := 378) (by decide +kernel)) rfl
theorem wCO_X5_checkRealHouse : Cond.code yX5_checkRealHouse cX5_checkRealHouse 1 none ∈ gTb := gm (List.mem_of_getElem? (i := 379) (by decide +kernel)) rfl
theorem wCN_X5_216 : Cond.constant RX5 216 (100000) ∈ gTb := gm (List.mem_of_getElem? (i := 380) (by decide +kernel)) rfl
theorem wML_X5_217 : Cond.methodLink RX5 217 yX3_bookSale ∈ gTb := gm (List.mem_of_getElem? (i := 381) (by decide +kernel)) rfl
theorem wIM_X3_bookSale : Cond.instanceMethod yX3_bookSale ∈ gTb := gm (List.mem_of_getElem? (i := 382) (by decide +kernel)) rfl
theorem wSE_X3_X3_bookSale : Cond.selects RX3 yX3_bookSale yX3_bookSale ∈ gTb := gm (List.mem_of_getElem? (i := 383) (by decide +kernel)) rfl
theorem wCO_X3_bookSale : Cond.code yX3_bookSale cX3_bookSale 2 none ∈ gTb := gm (List.mem_of_getElem? (i := 384) (by decide +kernel)) rfl
theorem wML_L_155 : Cond.methodLink RL 155 yX5_give ∈ gTb := gm (List.mem_of_getElem? (i := 385) (by decide +kernel)) rfl
theorem wIM_X5_give : Cond.instanceMethod yX5_give ∈ gTb := gm (List.mem_of_getElem? (i := 386) (by decide +kernel)) rfl
theorem wSE_X5_X5_give : Cond.selects RX5 yX5_give yX5_give ∈ gTb := gm (List.mem_of_getElem? (i := 387) (by decide +kernel)) rfl
theorem wCO_X5_give : Cond.code yX5_give cX5_give 6 (Option.some Jvm.ClassFile.FieldType.int) ∈ gTb := gm (List.mem_of_getElem? (i := 388) (by decide +kernel)) rfl
theorem wML_X5_61 : Cond.methodLink RX5 61 yX5_memberAt ∈ gTb := gm (List.mem_of_getElem? (i := 389) (by decide +kernel)) rfl
theorem wIM_X5_memberAt : Cond.instanceMethod yX5_memberAt ∈ gTb := gm (List.mem_of_getElem? (i := 391) (by decide +kernel)) rfl
theorem wCO_X5_memberAt : Cond.code yX5_memberAt cX5_memberAt 2 (Option.some (Jvm.ClassFile.FieldType.object "MuseumTill$Member")) ∈ gTb := gm (List.mem_of_getElem? (i := 392) (by decide +kernel)) rfl
theorem wx_stringRef_393 : Cond.stringRef RX5 291 "no such member" ∈ lw_tbl := List.mem_of_getElem? (i := 393) (by decide +kernel)
theorem wML_X5_68 : Cond.methodLink RX5 68 yX0_belongs ∈ gTb := gm (List.mem_of_getElem? (i := 394) (by decide +kernel)) rfl
theorem wIM_X0_belongs : Cond.instanceMethod yX0_belongs ∈ gTb := gm (List.mem_of_getElem? (i := 395) (by decide +kernel)) rfl
theorem wSE_X0_X0_belongs : Cond.selects RX0 yX0_belongs yX0_belongs ∈ gTb := gm (List.mem_of_getElem? (i := 396) (by decide +kernel)) rfl
theorem wCO_X0_belongs : Cond.code yX0_belongs cX0_belongs 2 (Option.some Jvm.ClassFile.FieldType.boolean) ∈ gTb := gm (List.mem_of_getElem? (i := 397) (by decide +kernel)) rfl
theorem wML_X5_220 : Cond.methodLink RX5 220 yX3_bookGift ∈ gTb := gm (List.mem_of_getElem? (i := 398) (by decide +kernel)) rfl
theorem wIM_X3_bookGift : Cond.instanceMethod yX3_bookGift ∈ gTb := gm (List.mem_of_getElem? (i := 399) (by decide +kernel)) rfl
theorem wSE_X3_X3_bookGift : Cond.selects RX3 yX3_bookGift yX3_bookGift ∈ gTb := gm (List.mem_of_getElem? (i := 400) (by decide +kernel)) rfl
theorem wCO_X3_bookGift : Cond.code yX3_bookGift cX3_bookGift 2 none ∈ gTb := gm (List.mem_of_getElem? (i := 401) (by decide +kernel)) rfl
theorem wML_L_165 : Cond.methodLink RL 165 yX5_advance ∈ gTb := gm (List.mem_of_getElem? (i := 402) (by decide +kernel)) rfl
theorem wIM_X5_advance : Cond.instanceMethod yX5_advance ∈ gTb := gm (List.mem_of_getElem? (i := 403) (by decide +kernel)) rfl
theorem wSE_X5_X5_advance : Cond.selects RX5 yX5_advance yX5_advance ∈ gTb := gm (List.mem_of_getElem? (i := 404) (by decide +kernel)) rfl
theorem wCO_X5_advance : Cond.code yX5_advance cX5_advance 3 (Option.some Jvm.ClassFile.FieldType.int) ∈ gTb := gm (List.mem_of_getElem? (i := 405) (by decide +kernel)) rfl
theorem wCL_X5_72 : Cond.classLink RX5 72 "java/lang/IllegalStateException" ∈ gTb := gm (List.mem_of_getElem? (i := 406) (by decide +kernel)) rfl
theorem wx_castable_408 : Cond.castable "java/lang/IllegalStateException" "java/lang/IllegalStateException" ∈ lw_tbl := List.mem_of_getElem? (i := 408) (by decide +kernel)
theorem wx_stringRef_415 : Cond.stringRef RX5 223 "beyond the last day" ∈ lw_tbl := List.mem_of_getElem? (i := 415) (by decide +kernel)
theorem wML_X5_225 : Cond.methodLink RX5 225 yX5_endDay ∈ gTb := gm (List.mem_of_getElem? (i := 422) (by decide +kernel)) rfl
theorem wIM_X5_endDay : Cond.instanceMethod yX5_endDay ∈ gTb := gm (List.mem_of_getElem? (i := 424) (by decide +kernel)) rfl
theorem wCO_X5_endDay : Cond.code yX5_endDay cX5_endDay 3 none ∈ gTb := gm (List.mem_of_getElem? (i := 425) (by decide +kernel)) rfl
theorem wML_X5_336 : Cond.methodLink RX5 336 yX5_shareOut ∈ gTb := gm (List.mem_of_getElem? (i := 426) (by decide +kernel)) rfl
theorem wIM_X5_shareOut : Cond.instanceMethod yX5_shareOut ∈ gTb := gm (List.mem_of_getElem? (i := 428) (by decide +kernel)) rfl
theorem wCO_X5_shareOut : Cond.code yX5_shareOut cX5_shareOut 4 none ∈ gTb := gm (List.mem_of_getElem? (i := 429) (by decide +kernel)) rfl
theorem wML_X5_343 : Cond.methodLink RX5 343 yX5_partOf ∈ gTb := gm (List.mem_of_getElem? (i := 430) (by decide +kernel)) rfl
theorem wST_X5_partOf : Cond.static yX5_partOf ∈ gTb := gm (List.mem_of_getElem? (i := 431) (by decide +kernel)) rfl
theorem wCO_X5_partOf : Cond.code yX5_partOf cX5_partOf 6 (Option.some Jvm.ClassFile.FieldType.int) ∈ gTb := gm (List.mem_of_getElem? (i := 432) (by decide +kernel)) rfl
theorem wML_X5_347 : Cond.methodLink RX5 347 yJ6_bitCount_0f7a4 ∈ gTb := gm (List.mem_of_getElem? (i := 433) (by decide +kernel)) rfl
theorem wST_J6_bitCount_0f7a4 : Cond.static yJ6_bitCount_0f7a4 ∈ gTb := gm (List.mem_of_getElem? (i := 434) (by decide +kernel)) rfl
theorem wCO_J6_bitCount_0f7a4 : Cond.code yJ6_bitCount_0f7a4 cJ6_bitCount_0f7a4 1 (Option.some Jvm.ClassFile.FieldType.int) ∈ gTb := gm (List.mem_of_getElem? (i := 435) (by decide +kernel)) rfl
theorem wCN_J6_265 : Cond.constant RJ6 265 (1431655765) ∈ gTb := gm (List.mem_of_getElem? (i := 436) (by decide +kernel)) rfl
theorem wCN_J6_266 : Cond.constant RJ6 266 (858993459) ∈ gTb := gm (List.mem_of_getElem? (i := 437) (by decide +kernel)) rfl
theorem wCN_J6_267 : Cond.constant RJ6 267 (252645135) ∈ gTb := gm (List.mem_of_getElem? (i := 438) (by decide +kernel)) rfl
theorem wML_X5_340 : Cond.methodLink RX5 340 yX5_seenToday ∈ gTb := gm (List.mem_of_getElem? (i := 439) (by decide +kernel)) rfl
theorem wIM_X5_seenToday : Cond.instanceMethod yX5_seenToday ∈ gTb := gm (List.mem_of_getElem? (i := 441) (by decide +kernel)) rfl
theorem wCO_X5_seenToday : Cond.code yX5_seenToday cX5_seenToday 3 (Option.some Jvm.ClassFile.FieldType.int) ∈ gTb := gm (List.mem_of_getElem? (i := 442) (by decide +kernel)) rfl
theorem wML_X5_311 : Cond.methodLink RX5 311 yX2_isOfMember ∈ gTb := gm (List.mem_of_getElem? (i := 443) (by decide +kernel)) rfl
theorem wIM_X2_isOfMember : Cond.instanceMethod yX2_isOfMember ∈ gTb := gm (List.mem_of_getElem? (i := 444) (by decide +kernel)) rfl
theorem wSE_X2_X2_isOfMember : Cond.selects RX2 yX2_isOfMember yX2_isOfMember ∈ gTb := gm (List.mem_of_getElem? (i := 445) (by decide +kernel)) rfl
theorem wCO_X2_isOfMember : Cond.code yX2_isOfMember cX2_isOfMember 3 (Option.some Jvm.ClassFile.FieldType.boolean) ∈ gTb := gm (List.mem_of_getElem? (i := 446) (by decide +kernel)) rfl
theorem wML_L_28 : Cond.methodLink RL 28 yL_isNow ∈ gTb := gm (List.mem_of_getElem? (i := 447) (by decide +kernel)) rfl
theorem wST_L_isNow : Cond.static yL_isNow ∈ gTb := gm (List.mem_of_getElem? (i := 448) (by decide +kernel)) rfl
theorem wCO_L_isNow : Cond.code yL_isNow cL_isNow 4 (Option.some Jvm.ClassFile.FieldType.boolean) ∈ gTb := gm (List.mem_of_getElem? (i := 449) (by decide +kernel)) rfl
theorem wML_L_16 : Cond.methodLink RL 16 yL_inside ∈ gTb := gm (List.mem_of_getElem? (i := 450) (by decide +kernel)) rfl
theorem wST_L_inside : Cond.static yL_inside ∈ gTb := gm (List.mem_of_getElem? (i := 451) (by decide +kernel)) rfl
theorem wCO_L_inside : Cond.code yL_inside cL_inside 5 (Option.some Jvm.ClassFile.FieldType.int) ∈ gTb := gm (List.mem_of_getElem? (i := 452) (by decide +kernel)) rfl
theorem wML_L_10 : Cond.methodLink RL 10 yL_queued ∈ gTb := gm (List.mem_of_getElem? (i := 453) (by decide +kernel)) rfl
theorem wST_L_queued : Cond.static yL_queued ∈ gTb := gm (List.mem_of_getElem? (i := 454) (by decide +kernel)) rfl
theorem wCO_L_queued : Cond.code yL_queued cL_queued 11 (Option.some Jvm.ClassFile.FieldType.int) ∈ gTb := gm (List.mem_of_getElem? (i := 455) (by decide +kernel)) rfl
theorem wCN_L_7 : Cond.constant RL 7 (1000000) ∈ gTb := gm (List.mem_of_getElem? (i := 456) (by decide +kernel)) rfl
theorem wCN_L_8 : Cond.constant RL 8 (100000) ∈ gTb := gm (List.mem_of_getElem? (i := 457) (by decide +kernel)) rfl
theorem wML_L_20 : Cond.methodLink RL 20 yL_sees ∈ gTb := gm (List.mem_of_getElem? (i := 458) (by decide +kernel)) rfl
theorem wST_L_sees : Cond.static yL_sees ∈ gTb := gm (List.mem_of_getElem? (i := 459) (by decide +kernel)) rfl
theorem wCO_L_sees : Cond.code yL_sees cL_sees 13 none ∈ gTb := gm (List.mem_of_getElem? (i := 460) (by decide +kernel)) rfl
theorem wML_L_139 : Cond.methodLink RL 139 yL_letsIn ∈ gTb := gm (List.mem_of_getElem? (i := 461) (by decide +kernel)) rfl
theorem wST_L_letsIn : Cond.static yL_letsIn ∈ gTb := gm (List.mem_of_getElem? (i := 462) (by decide +kernel)) rfl
theorem wCO_L_letsIn : Cond.code yL_letsIn cL_letsIn 12 none ∈ gTb := gm (List.mem_of_getElem? (i := 463) (by decide +kernel)) rfl
theorem wML_L_161 : Cond.methodLink RL 161 yL_ends ∈ gTb := gm (List.mem_of_getElem? (i := 464) (by decide +kernel)) rfl
theorem wST_L_ends : Cond.static yL_ends ∈ gTb := gm (List.mem_of_getElem? (i := 465) (by decide +kernel)) rfl
theorem wCO_L_ends : Cond.code yL_ends cL_ends 10 none ∈ gTb := gm (List.mem_of_getElem? (i := 466) (by decide +kernel)) rfl
theorem wML_L_32 : Cond.methodLink RL 32 yL_shares ∈ gTb := gm (List.mem_of_getElem? (i := 467) (by decide +kernel)) rfl
theorem wST_L_shares : Cond.static yL_shares ∈ gTb := gm (List.mem_of_getElem? (i := 468) (by decide +kernel)) rfl
theorem wCO_L_shares : Cond.code yL_shares cL_shares 6 none ∈ gTb := gm (List.mem_of_getElem? (i := 469) (by decide +kernel)) rfl
theorem wML_L_24 : Cond.methodLink RL 24 yL_bits ∈ gTb := gm (List.mem_of_getElem? (i := 470) (by decide +kernel)) rfl
theorem wST_L_bits : Cond.static yL_bits ∈ gTb := gm (List.mem_of_getElem? (i := 471) (by decide +kernel)) rfl
theorem wCO_L_bits : Cond.code yL_bits cL_bits 3 (Option.some Jvm.ClassFile.FieldType.int) ∈ gTb := gm (List.mem_of_getElem? (i := 472) (by decide +kernel)) rfl
theorem wML_L_131 : Cond.methodLink RL 131 yL_has ∈ gTb := gm (List.mem_of_getElem? (i := 473) (by decide +kernel)) rfl
theorem wST_L_has : Cond.static yL_has ∈ gTb := gm (List.mem_of_getElem? (i := 474) (by decide +kernel)) rfl
theorem wCO_L_has : Cond.code yL_has cL_has 7 (Option.some Jvm.ClassFile.FieldType.int) ∈ gTb := gm (List.mem_of_getElem? (i := 475) (by decide +kernel)) rfl
theorem wML_L_135 : Cond.methodLink RL 135 yL_canBack ∈ gTb := gm (List.mem_of_getElem? (i := 476) (by decide +kernel)) rfl
theorem wST_L_canBack : Cond.static yL_canBack ∈ gTb := gm (List.mem_of_getElem? (i := 477) (by decide +kernel)) rfl
theorem wCO_L_canBack : Cond.code yL_canBack cL_canBack 7 (Option.some Jvm.ClassFile.FieldType.boolean) ∈ gTb := gm (List.mem_of_getElem? (i := 478) (by decide +kernel)) rfl
theorem wML_L_127 : Cond.methodLink RL 127 yL_does ∈ gTb := gm (List.mem_of_getElem? (i := 479) (by decide +kernel)) rfl
theorem wST_L_does : Cond.static yL_does ∈ gTb := gm (List.mem_of_getElem? (i := 480) (by decide +kernel)) rfl
theorem wCL_L_72 : Cond.classLink RL 72 "java/lang/IndexOutOfBoundsException" ∈ gTb := gm (List.mem_of_getElem? (i := 482) (by decide +kernel)) rfl
theorem wCL_L_74 : Cond.classLink RL 74 "java/lang/IllegalArgumentException" ∈ gTb := gm (List.mem_of_getElem? (i := 483) (by decide +kernel)) rfl
theorem wCL_L_76 : Cond.classLink RL 76 "java/lang/IllegalStateException" ∈ gTb := gm (List.mem_of_getElem? (i := 484) (by decide +kernel)) rfl
theorem wML_L_36 : Cond.methodLink RL 36 yX5_buy ∈ gTb := gm (List.mem_of_getElem? (i := 485) (by decide +kernel)) rfl
theorem wIM_X5_buy : Cond.instanceMethod yX5_buy ∈ gTb := gm (List.mem_of_getElem? (i := 486) (by decide +kernel)) rfl
theorem wSE_X5_X5_buy : Cond.selects RX5 yX5_buy yX5_buy ∈ gTb := gm (List.mem_of_getElem? (i := 487) (by decide +kernel)) rfl
theorem wCO_X5_buy : Cond.code yX5_buy cX5_buy 3 (Option.some Jvm.ClassFile.FieldType.int) ∈ gTb := gm (List.mem_of_getElem? (i := 488) (by decide +kernel)) rfl
theorem wML_X5_54 : Cond.methodLink RX5 54 yX5_checkTicketsLeft ∈ gTb := gm (List.mem_of_getElem? (i := 489) (by decide +kernel)) rfl
theorem wIM_X5_checkTicketsLeft : Cond.instanceMethod yX5_checkTicketsLeft ∈ gTb := gm (List.mem_of_getElem? (i := 491) (by decide +kernel)) rfl
theorem wCO_X5_checkTicketsLeft : Cond.code yX5_checkTicketsLeft cX5_checkTicketsLeft 1 none ∈ gTb := gm (List.mem_of_getElem? (i := 492) (by decide +kernel)) rfl
theorem wx_stringRef_493 : Cond.stringRef RX5 304 "no more tickets" ∈ lw_tbl := List.mem_of_getElem? (i := 493) (by decide +kernel)
theorem wML_X5_57 : Cond.methodLink RX5 57 yX5_issue ∈ gTb := gm (List.mem_of_getElem? (i := 494) (by decide +kernel)) rfl
theorem wIM_X5_issue : Cond.instanceMethod yX5_issue ∈ gTb := gm (List.mem_of_getElem? (i := 496) (by decide +kernel)) rfl
theorem wCO_X5_issue : Cond.code yX5_issue cX5_issue 6 (Option.some Jvm.ClassFile.FieldType.int) ∈ gTb := gm (List.mem_of_getElem? (i := 497) (by decide +kernel)) rfl
theorem wIS_X2 : Cond.instantiable RX2 9 ∈ gTb := gm (List.mem_of_getElem? (i := 498) (by decide +kernel)) rfl
theorem wML_X5_308 : Cond.methodLink RX5 308 yX2_init ∈ gTb := gm (List.mem_of_getElem? (i := 499) (by decide +kernel)) rfl
theorem wIM_X2_init : Cond.instanceMethod yX2_init ∈ gTb := gm (List.mem_of_getElem? (i := 500) (by decide +kernel)) rfl
theorem wCO_X2_init : Cond.code yX2_init cX2_init 6 none ∈ gTb := gm (List.mem_of_getElem? (i := 501) (by decide +kernel)) rfl
theorem wML_X2_3 : Cond.methodLink RX2 3 objectInit ∈ gTb := gm (List.mem_of_getElem? (i := 502) (by decide +kernel)) rfl
theorem wFL_X2_15 : Cond.fieldLink RX2 15 RX2 "number" "I" ∈ gTb := gm (List.mem_of_getElem? (i := 503) (by decide +kernel)) rfl
theorem wFL_X5_238 : Cond.fieldLink RX5 238 RX2 "number" "I" ∈ gTb := gm (List.mem_of_getElem? (i := 504) (by decide +kernel)) rfl
theorem wFL_X2_18 : Cond.fieldLink RX2 18 RX2 "sort" "I" ∈ gTb := gm (List.mem_of_getElem? (i := 505) (by decide +kernel)) rfl
theorem wFL_X1_37 : Cond.fieldLink RX1 37 RX2 "sort" "I" ∈ gTb := gm (List.mem_of_getElem? (i := 506) (by decide +kernel)) rfl
theorem wFL_X5_355 : Cond.fieldLink RX5 355 RX2 "sort" "I" ∈ gTb := gm (List.mem_of_getElem? (i := 507) (by decide +kernel)) rfl
theorem wFL_X2_21 : Cond.fieldLink RX2 21 RX2 "house" "I" ∈ gTb := gm (List.mem_of_getElem? (i := 508) (by decide +kernel)) rfl
theorem wFL_X2_24 : Cond.fieldLink RX2 24 RX2 "member" "I" ∈ gTb := gm (List.mem_of_getElem? (i := 509) (by decide +kernel)) rfl
theorem wFL_X2_27 : Cond.fieldLink RX2 27 RX2 "cost" "I" ∈ gTb := gm (List.mem_of_getElem? (i := 510) (by decide +kernel)) rfl
theorem wFL_X5_116 : Cond.fieldLink RX5 116 RX2 "cost" "I" ∈ gTb := gm (List.mem_of_getElem? (i := 511) (by decide +kernel)) rfl
theorem wFL_X2_30 : Cond.fieldLink RX2 30 RX2 "isVoid" "Z" ∈ gTb := gm (List.mem_of_getElem? (i := 512) (by decide +kernel)) rfl
theorem wFL_X5_110 : Cond.fieldLink RX5 110 RX2 "isVoid" "Z" ∈ gTb := gm (List.mem_of_getElem? (i := 513) (by decide +kernel)) rfl
theorem wFL_X5_95 : Cond.fieldLink RX5 95 RX2 "seenRooms" "I" ∈ gTb := gm (List.mem_of_getElem? (i := 514) (by decide +kernel)) rfl
theorem wFL_X2_9 : Cond.fieldLink RX2 9 RX2 "room" "I" ∈ gTb := gm (List.mem_of_getElem? (i := 515) (by decide +kernel)) rfl
theorem wFL_X1_28 : Cond.fieldLink RX1 28 RX2 "room" "I" ∈ gTb := gm (List.mem_of_getElem? (i := 516) (by decide +kernel)) rfl
theorem wFL_X5_154 : Cond.fieldLink RX5 154 RX2 "room" "I" ∈ gTb := gm (List.mem_of_getElem? (i := 517) (by decide +kernel)) rfl
theorem wFL_X1_33 : Cond.fieldLink RX1 33 RX2 "isWaiting" "Z" ∈ gTb := gm (List.mem_of_getElem? (i := 518) (by decide +kernel)) rfl
theorem wFL_X2_34 : Cond.fieldLink RX2 34 RX2 "isWaiting" "Z" ∈ gTb := gm (List.mem_of_getElem? (i := 519) (by decide +kernel)) rfl
theorem wFL_X5_100 : Cond.fieldLink RX5 100 RX2 "isWaiting" "Z" ∈ gTb := gm (List.mem_of_getElem? (i := 520) (by decide +kernel)) rfl
theorem wSU_X2 : Cond.superclass RX2 "java/lang/Object" ∈ gTb := gm (List.mem_of_getElem? (i := 539) (by decide +kernel)) rfl
theorem wML_X5_184 : Cond.methodLink RX5 184 yJx4a65c_add_9ea2d ∈ gTb := gm (List.mem_of_getElem? (i := 540) (by decide +kernel)) rfl
theorem wIM_Jx4a65c_add_9ea2d : Cond.instanceMethod yJx4a65c_add_9ea2d ∈ gTb := gm (List.mem_of_getElem? (i := 541) (by decide +kernel)) rfl
theorem wSE_Jx4a65c_Jx4a65c_add_9ea2d : Cond.selects RJx4a65c yJx4a65c_add_9ea2d yJx4a65c_add_9ea2d ∈ gTb := gm (List.mem_of_getElem? (i := 542) (by decide +kernel)) rfl
theorem wCO_Jx4a65c_add_9ea2d : Cond.code yJx4a65c_add_9ea2d cJx4a65c_add_9ea2d 2 (Option.some Jvm.ClassFile.FieldType.boolean) ∈ gTb := gm (List.mem_of_getElem? (i := 543) (by decide +kernel)) rfl
theorem wML_Jx4a65c_131 : Cond.methodLink RJx4a65c 131 yJx4a65c_add_72be8 ∈ gTb := gm (List.mem_of_getElem? (i := 544) (by decide +kernel)) rfl
theorem wIM_Jx4a65c_add_72be8 : Cond.instanceMethod yJx4a65c_add_72be8 ∈ gTb := gm (List.mem_of_getElem? (i := 546) (by decide +kernel)) rfl
theorem wCO_Jx4a65c_add_72be8 : Cond.code yJx4a65c_add_72be8 cJx4a65c_add_72be8 4 none ∈ gTb := gm (List.mem_of_getElem? (i := 547) (by decide +kernel)) rfl
theorem wML_Jx4a65c_129 : Cond.methodLink RJx4a65c 129 yJx4a65c_grow_d5877 ∈ gTb := gm (List.mem_of_getElem? (i := 548) (by decide +kernel)) rfl
theorem wIM_Jx4a65c_grow_d5877 : Cond.instanceMethod yJx4a65c_grow_d5877 ∈ gTb := gm (List.mem_of_getElem? (i := 550) (by decide +kernel)) rfl
theorem wCO_Jx4a65c_grow_d5877 : Cond.code yJx4a65c_grow_d5877 cJx4a65c_grow_d5877 1 (Option.some (Jvm.ClassFile.FieldType.array (Jvm.ClassFile.FieldType.object "java/lang/Object"))) ∈ gTb := gm (List.mem_of_getElem? (i := 551) (by decide +kernel)) rfl
theorem wML_Jx4a65c_69 : Cond.methodLink RJx4a65c 69 yJx4a65c_grow_92f84 ∈ gTb := gm (List.mem_of_getElem? (i := 552) (by decide +kernel)) rfl
theorem wIM_Jx4a65c_grow_92f84 : Cond.instanceMethod yJx4a65c_grow_92f84 ∈ gTb := gm (List.mem_of_getElem? (i := 554) (by decide +kernel)) rfl
theorem wCO_Jx4a65c_grow_92f84 : Cond.code yJx4a65c_grow_92f84 cJx4a65c_grow_92f84 4 (Option.some (Jvm.ClassFile.FieldType.array (Jvm.ClassFile.FieldType.object "java/lang/Object"))) ∈ gTb := gm (List.mem_of_getElem? (i := 555) (by decide +kernel)) rfl
theorem wML_Jx4a65c_73 : Cond.methodLink RJx4a65c 73 yJ8_newLength_cabcc ∈ gTb := gm (List.mem_of_getElem? (i := 556) (by decide +kernel)) rfl
theorem wST_J8_newLength_cabcc : Cond.static yJ8_newLength_cabcc ∈ gTb := gm (List.mem_of_getElem? (i := 557) (by decide +kernel)) rfl
theorem wCO_J8_newLength_cabcc : Cond.code yJ8_newLength_cabcc cJ8_newLength_cabcc 4 (Option.some Jvm.ClassFile.FieldType.int) ∈ gTb := gm (List.mem_of_getElem? (i := 558) (by decide +kernel)) rfl
theorem wML_J8_194 : Cond.methodLink RJ8 194 yJ9_max_7cf53 ∈ gTb := gm (List.mem_of_getElem? (i := 559) (by decide +kernel)) rfl
theorem wST_J9_max_7cf53 : Cond.static yJ9_max_7cf53 ∈ gTb := gm (List.mem_of_getElem? (i := 560) (by decide +kernel)) rfl
theorem wCO_J9_max_7cf53 : Cond.code yJ9_max_7cf53 cJ9_max_7cf53 2 (Option.some Jvm.ClassFile.FieldType.int) ∈ gTb := gm (List.mem_of_getElem? (i := 561) (by decide +kernel)) rfl
theorem wCN_J8_200 : Cond.constant RJ8 200 (2147483639) ∈ gTb := gm (List.mem_of_getElem? (i := 562) (by decide +kernel)) rfl
theorem wML_J8_201 : Cond.methodLink RJ8 201 yJ8_hugeLength_7cf53 ∈ gTb := gm (List.mem_of_getElem? (i := 563) (by decide +kernel)) rfl
theorem wST_J8_hugeLength_7cf53 : Cond.static yJ8_hugeLength_7cf53 ∈ gTb := gm (List.mem_of_getElem? (i := 564) (by decide +kernel)) rfl
theorem wCO_J8_hugeLength_7cf53 : Cond.code yJ8_hugeLength_7cf53 cJ8_hugeLength_7cf53 3 (Option.some Jvm.ClassFile.FieldType.int) ∈ gTb := gm (List.mem_of_getElem? (i := 565) (by decide +kernel)) rfl
theorem wML_Jx4a65c_66 : Cond.methodLink RJx4a65c 66 yJ7_copyOf_1904c ∈ gTb := gm (List.mem_of_getElem? (i := 566) (by decide +kernel)) rfl
theorem wST_J7_copyOf_1904c : Cond.static yJ7_copyOf_1904c ∈ gTb := gm (List.mem_of_getElem? (i := 567) (by decide +kernel)) rfl
theorem wCO_J7_copyOf_1904c : Cond.code yJ7_copyOf_1904c cJ7_copyOf_1904c 2 (Option.some (Jvm.ClassFile.FieldType.array (Jvm.ClassFile.FieldType.object "java/lang/Object"))) ∈ gTb := gm (List.mem_of_getElem? (i := 568) (by decide +kernel)) rfl
theorem wNA_584 : Cond.native ⟨"java/lang/Object", "getClass", "()Ljava/lang/Class;"⟩ ∈ gTb := gm (List.mem_of_getElem? (i := 584) (by decide +kernel)) rfl
theorem wML_J7_300 : Cond.methodLink RJ7 300 yJ7_copyOf_6403c ∈ gTb := gm (List.mem_of_getElem? (i := 585) (by decide +kernel)) rfl
theorem wST_J7_copyOf_6403c : Cond.static yJ7_copyOf_6403c ∈ gTb := gm (List.mem_of_getElem? (i := 586) (by decide +kernel)) rfl
theorem wCO_J7_copyOf_6403c : Cond.code yJ7_copyOf_6403c cJ7_copyOf_6403c 4 (Option.some (Jvm.ClassFile.FieldType.array (Jvm.ClassFile.FieldType.object "java/lang/Object"))) ∈ gTb := gm (List.mem_of_getElem? (i := 587) (by decide +kernel)) rfl
theorem wCL_J7_110 : Cond.classLink RJ7 110 "[Ljava/lang/Object;" ∈ gTb := gm (List.mem_of_getElem? (i := 588) (by decide +kernel)) rfl
theorem wx_arrayOver_589 : Cond.arrayOver (Jvm.ClassFile.FieldType.object "java/lang/Object") ∈ lw_tbl := List.mem_of_getElem? (i := 589) (by decide +kernel)
theorem wCL_J7_2 : Cond.classLink RJ7 2 "java/lang/Object" ∈ gTb := gm (List.mem_of_getElem? (i := 590) (by decide +kernel)) rfl
theorem wML_J7_304 : Cond.methodLink RJ7 304 yJ9_min_7cf53 ∈ gTb := gm (List.mem_of_getElem? (i := 591) (by decide +kernel)) rfl
theorem wST_J9_min_7cf53 : Cond.static yJ9_min_7cf53 ∈ gTb := gm (List.mem_of_getElem? (i := 592) (by decide +kernel)) rfl
theorem wCO_J9_min_7cf53 : Cond.code yJ9_min_7cf53 cJ9_min_7cf53 2 (Option.some Jvm.ClassFile.FieldType.int) ∈ gTb := gm (List.mem_of_getElem? (i := 593) (by decide +kernel)) rfl
theorem wML_Jx4a65c_79 : Cond.methodLink RJx4a65c 79 yJ9_max_7cf53 ∈ gTb := gm (List.mem_of_getElem? (i := 595) (by decide +kernel)) rfl
theorem wCL_Jx4a65c_7 : Cond.classLink RJx4a65c 7 "java/lang/Object" ∈ gTb := gm (List.mem_of_getElem? (i := 596) (by decide +kernel)) rfl
theorem wx_stringRef_601 : Cond.stringRef RX5 74 "no membership" ∈ lw_tbl := List.mem_of_getElem? (i := 601) (by decide +kernel)
theorem wML_X5_79 : Cond.methodLink RX5 79 yX5_countOfToday ∈ gTb := gm (List.mem_of_getElem? (i := 602) (by decide +kernel)) rfl
theorem wIM_X5_countOfToday : Cond.instanceMethod yX5_countOfToday ∈ gTb := gm (List.mem_of_getElem? (i := 604) (by decide +kernel)) rfl
theorem wCO_X5_countOfToday : Cond.code yX5_countOfToday cX5_countOfToday 5 (Option.some Jvm.ClassFile.FieldType.int) ∈ gTb := gm (List.mem_of_getElem? (i := 605) (by decide +kernel)) rfl
theorem wx_stringRef_606 : Cond.stringRef RX5 83 "a MEMBER ticket of today, or none" ∈ lw_tbl := List.mem_of_getElem? (i := 606) (by decide +kernel)
theorem wx_stringRef_607 : Cond.stringRef RX5 85 "no more guests today" ∈ lw_tbl := List.mem_of_getElem? (i := 607) (by decide +kernel)
theorem wML_L_45 : Cond.methodLink RL 45 yX5_giveBack ∈ gTb := gm (List.mem_of_getElem? (i := 608) (by decide +kernel)) rfl
theorem wIM_X5_giveBack : Cond.instanceMethod yX5_giveBack ∈ gTb := gm (List.mem_of_getElem? (i := 609) (by decide +kernel)) rfl
theorem wSE_X5_X5_giveBack : Cond.selects RX5 yX5_giveBack yX5_giveBack ∈ gTb := gm (List.mem_of_getElem? (i := 610) (by decide +kernel)) rfl
theorem wCO_X5_giveBack : Cond.code yX5_giveBack cX5_giveBack 3 (Option.some Jvm.ClassFile.FieldType.int) ∈ gTb := gm (List.mem_of_getElem? (i := 611) (by decide +kernel)) rfl
theorem wML_X5_87 : Cond.methodLink RX5 87 yX5_ticketAt ∈ gTb := gm (List.mem_of_getElem? (i := 612) (by decide +kernel)) rfl
theorem wIM_X5_ticketAt : Cond.instanceMethod yX5_ticketAt ∈ gTb := gm (List.mem_of_getElem? (i := 614) (by decide +kernel)) rfl
theorem wCO_X5_ticketAt : Cond.code yX5_ticketAt cX5_ticketAt 2 (Option.some (Jvm.ClassFile.FieldType.object "MuseumTill$Ticket")) ∈ gTb := gm (List.mem_of_getElem? (i := 615) (by decide +kernel)) rfl
theorem wx_stringRef_616 : Cond.stringRef RX5 293 "no such ticket" ∈ lw_tbl := List.mem_of_getElem? (i := 616) (by decide +kernel)
theorem wML_X5_91 : Cond.methodLink RX5 91 yX5_checkUsable ∈ gTb := gm (List.mem_of_getElem? (i := 617) (by decide +kernel)) rfl
theorem wIM_X5_checkUsable : Cond.instanceMethod yX5_checkUsable ∈ gTb := gm (List.mem_of_getElem? (i := 619) (by decide +kernel)) rfl
theorem wCO_X5_checkUsable : Cond.code yX5_checkUsable cX5_checkUsable 2 none ∈ gTb := gm (List.mem_of_getElem? (i := 620) (by decide +kernel)) rfl
theorem wx_stringRef_621 : Cond.stringRef RX5 306 "not of today, or void" ∈ lw_tbl := List.mem_of_getElem? (i := 621) (by decide +kernel)
theorem wML_X5_104 : Cond.methodLink RX5 104 yX5_areClosedFor ∈ gTb := gm (List.mem_of_getElem? (i := 622) (by decide +kernel)) rfl
theorem wIM_X5_areClosedFor : Cond.instanceMethod yX5_areClosedFor ∈ gTb := gm (List.mem_of_getElem? (i := 624) (by decide +kernel)) rfl
theorem wCO_X5_areClosedFor : Cond.code yX5_areClosedFor cX5_areClosedFor 3 (Option.some Jvm.ClassFile.FieldType.boolean) ∈ gTb := gm (List.mem_of_getElem? (i := 625) (by decide +kernel)) rfl
theorem wML_X5_151 : Cond.methodLink RX5 151 yX2_isFor ∈ gTb := gm (List.mem_of_getElem? (i := 626) (by decide +kernel)) rfl
theorem wIM_X2_isFor : Cond.instanceMethod yX2_isFor ∈ gTb := gm (List.mem_of_getElem? (i := 627) (by decide +kernel)) rfl
theorem wSE_X2_X2_isFor : Cond.selects RX2 yX2_isFor yX2_isFor ∈ gTb := gm (List.mem_of_getElem? (i := 628) (by decide +kernel)) rfl
theorem wCO_X2_isFor : Cond.code yX2_isFor cX2_isFor 2 (Option.some Jvm.ClassFile.FieldType.boolean) ∈ gTb := gm (List.mem_of_getElem? (i := 629) (by decide +kernel)) rfl
theorem wx_stringRef_630 : Cond.stringRef RX5 108 "cannot be given back" ∈ lw_tbl := List.mem_of_getElem? (i := 630) (by decide +kernel)
theorem wML_L_48 : Cond.methodLink RL 48 yX5_join ∈ gTb := gm (List.mem_of_getElem? (i := 631) (by decide +kernel)) rfl
theorem wIM_X5_join : Cond.instanceMethod yX5_join ∈ gTb := gm (List.mem_of_getElem? (i := 632) (by decide +kernel)) rfl
theorem wSE_X5_X5_join : Cond.selects RX5 yX5_join yX5_join ∈ gTb := gm (List.mem_of_getElem? (i := 633) (by decide +kernel)) rfl
theorem wCO_X5_join : Cond.code yX5_join cX5_join 3 (Option.some Jvm.ClassFile.FieldType.int) ∈ gTb := gm (List.mem_of_getElem? (i := 634) (by decide +kernel)) rfl
theorem wx_stringRef_635 : Cond.stringRef RX5 119 "the membership is not over" ∈ lw_tbl := List.mem_of_getElem? (i := 635) (by decide +kernel)
theorem wML_L_51 : Cond.methodLink RL 51 yX5_enter ∈ gTb := gm (List.mem_of_getElem? (i := 636) (by decide +kernel)) rfl
theorem wIM_X5_enter : Cond.instanceMethod yX5_enter ∈ gTb := gm (List.mem_of_getElem? (i := 637) (by decide +kernel)) rfl
theorem wSE_X5_X5_enter : Cond.selects RX5 yX5_enter yX5_enter ∈ gTb := gm (List.mem_of_getElem? (i := 638) (by decide +kernel)) rfl
theorem wCO_X5_enter : Cond.code yX5_enter cX5_enter 5 (Option.some Jvm.ClassFile.FieldType.boolean) ∈ gTb := gm (List.mem_of_getElem? (i := 639) (by decide +kernel)) rfl
theorem wx_stringRef_640 : Cond.stringRef RX5 157 "may not enter" ∈ lw_tbl := List.mem_of_getElem? (i := 640) (by decide +kernel)
theorem wML_X5_159 : Cond.methodLink RX5 159 yX1_queueUp ∈ gTb := gm (List.mem_of_getElem? (i := 641) (by decide +kernel)) rfl
theorem wIM_X1_queueUp : Cond.instanceMethod yX1_queueUp ∈ gTb := gm (List.mem_of_getElem? (i := 642) (by decide +kernel)) rfl
theorem wSE_X1_X1_queueUp : Cond.selects RX1 yX1_queueUp yX1_queueUp ∈ gTb := gm (List.mem_of_getElem? (i := 643) (by decide +kernel)) rfl
theorem wCO_X1_queueUp : Cond.code yX1_queueUp cX1_queueUp 2 none ∈ gTb := gm (List.mem_of_getElem? (i := 644) (by decide +kernel)) rfl
theorem wML_X1_40 : Cond.methodLink RX1 40 yX1_waitingMembers ∈ gTb := gm (List.mem_of_getElem? (i := 645) (by decide +kernel)) rfl
theorem wIM_X1_waitingMembers : Cond.instanceMethod yX1_waitingMembers ∈ gTb := gm (List.mem_of_getElem? (i := 647) (by decide +kernel)) rfl
theorem wCO_X1_waitingMembers : Cond.code yX1_waitingMembers cX1_waitingMembers 2 (Option.some Jvm.ClassFile.FieldType.int) ∈ gTb := gm (List.mem_of_getElem? (i := 648) (by decide +kernel)) rfl
theorem wML_X1_51 : Cond.methodLink RX1 51 yJx4a65c_size_8abf5 ∈ gTb := gm (List.mem_of_getElem? (i := 649) (by decide +kernel)) rfl
theorem wML_X1_54 : Cond.methodLink RX1 54 yJx4a65c_get_915e3 ∈ gTb := gm (List.mem_of_getElem? (i := 650) (by decide +kernel)) rfl
theorem wCL_X1_29 : Cond.classLink RX1 29 RX2 ∈ gTb := gm (List.mem_of_getElem? (i := 651) (by decide +kernel)) rfl
theorem wML_X1_44 : Cond.methodLink RX1 44 yJx4a65c_add_7a177 ∈ gTb := gm (List.mem_of_getElem? (i := 652) (by decide +kernel)) rfl
theorem wIM_Jx4a65c_add_7a177 : Cond.instanceMethod yJx4a65c_add_7a177 ∈ gTb := gm (List.mem_of_getElem? (i := 653) (by decide +kernel)) rfl
theorem wSE_Jx4a65c_Jx4a65c_add_7a177 : Cond.selects RJx4a65c yJx4a65c_add_7a177 yJx4a65c_add_7a177 ∈ gTb := gm (List.mem_of_getElem? (i := 654) (by decide +kernel)) rfl
theorem wCO_Jx4a65c_add_7a177 : Cond.code yJx4a65c_add_7a177 cJx4a65c_add_7a177 5 none ∈ gTb := gm (List.mem_of_getElem? (i := 655) (by decide +kernel)) rfl
theorem wML_Jx4a65c_135 : Cond.methodLink RJx4a65c 135 yJx4a65c_rangeCheckForAdd_d00df ∈ gTb := gm (List.mem_of_getElem? (i := 656) (by decide +kernel)) rfl
theorem wIM_Jx4a65c_rangeCheckForAdd_d00df : Cond.instanceMethod yJx4a65c_rangeCheckForAdd_d00df ∈ gTb := gm (List.mem_of_getElem? (i := 658) (by decide +kernel)) rfl
theorem wCO_Jx4a65c_rangeCheckForAdd_d00df : Cond.code yJx4a65c_rangeCheckForAdd_d00df cJx4a65c_rangeCheckForAdd_d00df 2 none ∈ gTb := gm (List.mem_of_getElem? (i := 659) (by decide +kernel)) rfl
theorem wCL_Jx4a65c_187 : Cond.classLink RJx4a65c 187 "java/lang/IndexOutOfBoundsException" ∈ gTb := gm (List.mem_of_getElem? (i := 660) (by decide +kernel)) rfl
theorem wML_Jx4a65c_198 : Cond.methodLink RJx4a65c 198 yJx4a65c_outOfBoundsMsg_b52d3 ∈ gTb := gm (List.mem_of_getElem? (i := 661) (by decide +kernel)) rfl
theorem wIM_Jx4a65c_outOfBoundsMsg_b52d3 : Cond.instanceMethod yJx4a65c_outOfBoundsMsg_b52d3 ∈ gTb := gm (List.mem_of_getElem? (i := 663) (by decide +kernel)) rfl
theorem wCO_Jx4a65c_outOfBoundsMsg_b52d3 : Cond.code yJx4a65c_outOfBoundsMsg_b52d3 cJx4a65c_outOfBoundsMsg_b52d3 2 (Option.some (Jvm.ClassFile.FieldType.object "java/lang/String")) ∈ gTb := gm (List.mem_of_getElem? (i := 664) (by decide +kernel)) rfl
theorem wCL_Jx4a65c_20 : Cond.classLink RJx4a65c 20 RJ4 ∈ gTb := gm (List.mem_of_getElem? (i := 665) (by decide +kernel)) rfl
theorem wIS_J4 : Cond.instantiable RJ4 4 ∈ gTb := gm (List.mem_of_getElem? (i := 666) (by decide +kernel)) rfl
theorem wML_Jx4a65c_22 : Cond.methodLink RJx4a65c 22 yJ4_init_da8c8 ∈ gTb := gm (List.mem_of_getElem? (i := 667) (by decide +kernel)) rfl
theorem wIM_J4_init_da8c8 : Cond.instanceMethod yJ4_init_da8c8 ∈ gTb := gm (List.mem_of_getElem? (i := 668) (by decide +kernel)) rfl
theorem wCO_J4_init_da8c8 : Cond.code yJ4_init_da8c8 cJ4_init_da8c8 1 none ∈ gTb := gm (List.mem_of_getElem? (i := 669) (by decide +kernel)) rfl
theorem wML_J4_1 : Cond.methodLink RJ4 1 yJ5_init_d00df ∈ gTb := gm (List.mem_of_getElem? (i := 670) (by decide +kernel)) rfl
theorem wIM_J5_init_d00df : Cond.instanceMethod yJ5_init_d00df ∈ gTb := gm (List.mem_of_getElem? (i := 671) (by decide +kernel)) rfl
theorem wCO_J5_init_d00df : Cond.code yJ5_init_d00df cJ5_init_d00df 2 none ∈ gTb := gm (List.mem_of_getElem? (i := 672) (by decide +kernel)) rfl
theorem wML_J5_3 : Cond.methodLink RJ5 3 objectInit ∈ gTb := gm (List.mem_of_getElem? (i := 673) (by decide +kernel)) rfl
theorem wFL_J5_18 : Cond.fieldLink RJ5 18 RJ0 "COMPACT_STRINGS" "Z" ∈ gTb := gm (List.mem_of_getElem? (i := 674) (by decide +kernel)) rfl
theorem wx_laysStatic_675 : Cond.laysStatic RJ0 "COMPACT_STRINGS" "Z" ∈ lw_tbl := List.mem_of_getElem? (i := 675) (by decide +kernel)
theorem wML_J5_26 : Cond.methodLink RJ5 26 yJ2_newBytesFor_77867 ∈ gTb := gm (List.mem_of_getElem? (i := 676) (by decide +kernel)) rfl
theorem wST_J2_newBytesFor_77867 : Cond.static yJ2_newBytesFor_77867 ∈ gTb := gm (List.mem_of_getElem? (i := 677) (by decide +kernel)) rfl
theorem wCO_J2_newBytesFor_77867 : Cond.code yJ2_newBytesFor_77867 cJ2_newBytesFor_77867 1 (Option.some (Jvm.ClassFile.FieldType.array Jvm.ClassFile.FieldType.byte)) ∈ gTb := gm (List.mem_of_getElem? (i := 678) (by decide +kernel)) rfl
theorem wML_J2_11 : Cond.methodLink RJ2 11 yJ2_newBytesLength_0f7a4 ∈ gTb := gm (List.mem_of_getElem? (i := 679) (by decide +kernel)) rfl
theorem wST_J2_newBytesLength_0f7a4 : Cond.static yJ2_newBytesLength_0f7a4 ∈ gTb := gm (List.mem_of_getElem? (i := 680) (by decide +kernel)) rfl
theorem wCO_J2_newBytesLength_0f7a4 : Cond.code yJ2_newBytesLength_0f7a4 cJ2_newBytesLength_0f7a4 1 (Option.some Jvm.ClassFile.FieldType.int) ∈ gTb := gm (List.mem_of_getElem? (i := 681) (by decide +kernel)) rfl
theorem wCN_J2_20 : Cond.constant RJ2 20 (1073741823) ∈ gTb := gm (List.mem_of_getElem? (i := 682) (by decide +kernel)) rfl
theorem wFL_J5_15 : Cond.fieldLink RJ5 15 RJ5 "value" "[B" ∈ gTb := gm (List.mem_of_getElem? (i := 683) (by decide +kernel)) rfl
theorem wFL_J5_22 : Cond.fieldLink RJ5 22 RJ5 "coder" "B" ∈ gTb := gm (List.mem_of_getElem? (i := 684) (by decide +kernel)) rfl
theorem wFL_J0_1048 : Cond.fieldLink RJ0 1048 RJ5 "maybeLatin1" "Z" ∈ gTb := gm (List.mem_of_getElem? (i := 685) (by decide +kernel)) rfl
theorem wFL_J5_79 : Cond.fieldLink RJ5 79 RJ5 "count" "I" ∈ gTb := gm (List.mem_of_getElem? (i := 686) (by decide +kernel)) rfl
theorem wSU_J4 : Cond.superclass RJ4 RJ5 ∈ gTb := gm (List.mem_of_getElem? (i := 695) (by decide +kernel)) rfl
theorem wx_stringRef_696 : Cond.stringRef RJx4a65c 201 "Index: " ∈ lw_tbl := List.mem_of_getElem? (i := 696) (by decide +kernel)
theorem wML_Jx4a65c_25 : Cond.methodLink RJx4a65c 25 yJ4_append_15ec4 ∈ gTb := gm (List.mem_of_getElem? (i := 697) (by decide +kernel)) rfl
theorem wIM_J4_append_15ec4 : Cond.instanceMethod yJ4_append_15ec4 ∈ gTb := gm (List.mem_of_getElem? (i := 698) (by decide +kernel)) rfl
theorem wSE_J4_J4_append_15ec4 : Cond.selects RJ4 yJ4_append_15ec4 yJ4_append_15ec4 ∈ gTb := gm (List.mem_of_getElem? (i := 699) (by decide +kernel)) rfl
theorem wCO_J4_append_15ec4 : Cond.code yJ4_append_15ec4 cJ4_append_15ec4 2 (Option.some (Jvm.ClassFile.FieldType.object "java/lang/StringBuilder")) ∈ gTb := gm (List.mem_of_getElem? (i := 700) (by decide +kernel)) rfl
theorem wML_J4_29 : Cond.methodLink RJ4 29 yJ5_append_cf1ce ∈ gTb := gm (List.mem_of_getElem? (i := 701) (by decide +kernel)) rfl
theorem wIM_J5_append_cf1ce : Cond.instanceMethod yJ5_append_cf1ce ∈ gTb := gm (List.mem_of_getElem? (i := 702) (by decide +kernel)) rfl
theorem wCO_J5_append_cf1ce : Cond.code yJ5_append_cf1ce cJ5_append_cf1ce 3 (Option.some (Jvm.ClassFile.FieldType.object "java/lang/AbstractStringBuilder")) ∈ gTb := gm (List.mem_of_getElem? (i := 703) (by decide +kernel)) rfl
theorem wML_J5_204 : Cond.methodLink RJ5 204 yJ5_appendNull_278bc ∈ gTb := gm (List.mem_of_getElem? (i := 704) (by decide +kernel)) rfl
theorem wIM_J5_appendNull_278bc : Cond.instanceMethod yJ5_appendNull_278bc ∈ gTb := gm (List.mem_of_getElem? (i := 706) (by decide +kernel)) rfl
theorem wCO_J5_appendNull_278bc : Cond.code yJ5_appendNull_278bc cJ5_appendNull_278bc 3 (Option.some (Jvm.ClassFile.FieldType.object "java/lang/AbstractStringBuilder")) ∈ gTb := gm (List.mem_of_getElem? (i := 707) (by decide +kernel)) rfl
theorem wML_J5_100 : Cond.methodLink RJ5 100 yJ5_ensureCapacityInternal_d00df ∈ gTb := gm (List.mem_of_getElem? (i := 708) (by decide +kernel)) rfl
theorem wIM_J5_ensureCapacityInternal_d00df : Cond.instanceMethod yJ5_ensureCapacityInternal_d00df ∈ gTb := gm (List.mem_of_getElem? (i := 710) (by decide +kernel)) rfl
theorem wCO_J5_ensureCapacityInternal_d00df : Cond.code yJ5_ensureCapacityInternal_d00df cJ5_ensureCapacityInternal_d00df 3 none ∈ gTb := gm (List.mem_of_getElem? (i := 711) (by decide +kernel)) rfl
theorem wML_J5_104 : Cond.methodLink RJ5 104 yJ5_newCapacity_0f7a4 ∈ gTb := gm (List.mem_of_getElem? (i := 712) (by decide +kernel)) rfl
theorem wIM_J5_newCapacity_0f7a4 : Cond.instanceMethod yJ5_newCapacity_0f7a4 ∈ gTb := gm (List.mem_of_getElem? (i := 714) (by decide +kernel)) rfl
theorem wCO_J5_newCapacity_0f7a4 : Cond.code yJ5_newCapacity_0f7a4 cJ5_newCapacity_0f7a4 6 (Option.some Jvm.ClassFile.FieldType.int) ∈ gTb := gm (List.mem_of_getElem? (i := 715) (by decide +kernel)) rfl
theorem wML_J5_114 : Cond.methodLink RJ5 114 yJ8_newLength_cabcc ∈ gTb := gm (List.mem_of_getElem? (i := 716) (by decide +kernel)) rfl
theorem wCN_J5_39 : Cond.constant RJ5 39 (2147483647) ∈ gTb := gm (List.mem_of_getElem? (i := 717) (by decide +kernel)) rfl
theorem wML_J5_108 : Cond.methodLink RJ5 108 yJ7_copyOf_9075b ∈ gTb := gm (List.mem_of_getElem? (i := 718) (by decide +kernel)) rfl
theorem wST_J7_copyOf_9075b : Cond.static yJ7_copyOf_9075b ∈ gTb := gm (List.mem_of_getElem? (i := 719) (by decide +kernel)) rfl
theorem wCO_J7_copyOf_9075b : Cond.code yJ7_copyOf_9075b cJ7_copyOf_9075b 3 (Option.some (Jvm.ClassFile.FieldType.array Jvm.ClassFile.FieldType.byte)) ∈ gTb := gm (List.mem_of_getElem? (i := 720) (by decide +kernel)) rfl
theorem wNA_723 : Cond.native ⟨"java/lang/Object", "clone", "()Ljava/lang/Object;"⟩ ∈ gTb := gm (List.mem_of_getElem? (i := 723) (by decide +kernel)) rfl
theorem wx_castable_726 : Cond.castable "[B" RJx8e188 ∈ lw_tbl := List.mem_of_getElem? (i := 726) (by decide +kernel)
theorem wCL_J7_311 : Cond.classLink RJ7 311 "[B" ∈ gTb := gm (List.mem_of_getElem? (i := 727) (by decide +kernel)) rfl
theorem wML_J5_83 : Cond.methodLink RJ5 83 yJ5_isLatin1_aae02 ∈ gTb := gm (List.mem_of_getElem? (i := 728) (by decide +kernel)) rfl
theorem wIM_J5_isLatin1_aae02 : Cond.instanceMethod yJ5_isLatin1_aae02 ∈ gTb := gm (List.mem_of_getElem? (i := 729) (by decide +kernel)) rfl
theorem wSM_J5_isLatin1_730 : Cond.sameMethod RJ5 RJ5 "isLatin1" "()Z" ∈ gTb := gm (List.mem_of_getElem? (i := 730) (by decide +kernel)) rfl
theorem wSE_J4_J5_isLatin1_aae02 : Cond.selects RJ4 yJ5_isLatin1_aae02 yJ5_isLatin1_aae02 ∈ gTb := gm (List.mem_of_getElem? (i := 731) (by decide +kernel)) rfl
theorem wCO_J5_isLatin1_aae02 : Cond.code yJ5_isLatin1_aae02 cJ5_isLatin1_aae02 1 (Option.some Jvm.ClassFile.FieldType.boolean) ∈ gTb := gm (List.mem_of_getElem? (i := 732) (by decide +kernel)) rfl
theorem wML_J5_226 : Cond.methodLink RJ5 226 yJ2_putCharsAt_cd4e5 ∈ gTb := gm (List.mem_of_getElem? (i := 733) (by decide +kernel)) rfl
theorem wST_J2_putCharsAt_cd4e5 : Cond.static yJ2_putCharsAt_cd4e5 ∈ gTb := gm (List.mem_of_getElem? (i := 734) (by decide +kernel)) rfl
theorem wCO_J2_putCharsAt_cd4e5 : Cond.code yJ2_putCharsAt_cd4e5 cJ2_putCharsAt_cd4e5 7 (Option.some Jvm.ClassFile.FieldType.int) ∈ gTb := gm (List.mem_of_getElem? (i := 735) (by decide +kernel)) rfl
theorem wML_J2_96 : Cond.methodLink RJ2 96 yJ2_checkBoundsBeginEnd_d044e ∈ gTb := gm (List.mem_of_getElem? (i := 736) (by decide +kernel)) rfl
theorem wST_J2_checkBoundsBeginEnd_d044e : Cond.static yJ2_checkBoundsBeginEnd_d044e ∈ gTb := gm (List.mem_of_getElem? (i := 737) (by decide +kernel)) rfl
theorem wCO_J2_checkBoundsBeginEnd_d044e : Cond.code yJ2_checkBoundsBeginEnd_d044e cJ2_checkBoundsBeginEnd_d044e 3 none ∈ gTb := gm (List.mem_of_getElem? (i := 738) (by decide +kernel)) rfl
theorem wML_J2_48 : Cond.methodLink RJ2 48 yJ2_length_9d52b ∈ gTb := gm (List.mem_of_getElem? (i := 739) (by decide +kernel)) rfl
theorem wST_J2_length_9d52b : Cond.static yJ2_length_9d52b ∈ gTb := gm (List.mem_of_getElem? (i := 740) (by decide +kernel)) rfl
theorem wCO_J2_length_9d52b : Cond.code yJ2_length_9d52b cJ2_length_9d52b 1 (Option.some Jvm.ClassFile.FieldType.int) ∈ gTb := gm (List.mem_of_getElem? (i := 741) (by decide +kernel)) rfl
theorem wML_J2_241 : Cond.methodLink RJ2 241 yJ0_checkBoundsBeginEnd_23922 ∈ gTb := gm (List.mem_of_getElem? (i := 742) (by decide +kernel)) rfl
theorem wST_J0_checkBoundsBeginEnd_23922 : Cond.static yJ0_checkBoundsBeginEnd_23922 ∈ gTb := gm (List.mem_of_getElem? (i := 743) (by decide +kernel)) rfl
theorem wCO_J0_checkBoundsBeginEnd_23922 : Cond.code yJ0_checkBoundsBeginEnd_23922 cJ0_checkBoundsBeginEnd_23922 3 none ∈ gTb := gm (List.mem_of_getElem? (i := 744) (by decide +kernel)) rfl
theorem wFL_J0_1053 : Cond.fieldLink RJ0 1053 RJ3 "SIOOBE_FORMATTER" "Ljava/util/function/BiFunction;" ∈ gTb := gm (List.mem_of_getElem? (i := 745) (by decide +kernel)) rfl
theorem wx_laysStatic_746 : Cond.laysStatic RJ3 "SIOOBE_FORMATTER" "Ljava/util/function/BiFunction;" ∈ lw_tbl := List.mem_of_getElem? (i := 746) (by decide +kernel)
theorem wML_J0_1062 : Cond.methodLink RJ0 1062 yJ3_checkFromToIndex_8c36e ∈ gTb := gm (List.mem_of_getElem? (i := 747) (by decide +kernel)) rfl
theorem wST_J3_checkFromToIndex_8c36e : Cond.static yJ3_checkFromToIndex_8c36e ∈ gTb := gm (List.mem_of_getElem? (i := 748) (by decide +kernel)) rfl
theorem wCO_J3_checkFromToIndex_8c36e : Cond.code yJ3_checkFromToIndex_8c36e cJ3_checkFromToIndex_8c36e 4 (Option.some Jvm.ClassFile.FieldType.int) ∈ gTb := gm (List.mem_of_getElem? (i := 749) (by decide +kernel)) rfl
theorem wML_J2_111 : Cond.methodLink RJ2 111 yJ2_putChar_b72d1 ∈ gTb := gm (List.mem_of_getElem? (i := 750) (by decide +kernel)) rfl
theorem wST_J2_putChar_b72d1 : Cond.static yJ2_putChar_b72d1 ∈ gTb := gm (List.mem_of_getElem? (i := 751) (by decide +kernel)) rfl
theorem wCO_J2_putChar_b72d1 : Cond.code yJ2_putChar_b72d1 cJ2_putChar_b72d1 3 none ∈ gTb := gm (List.mem_of_getElem? (i := 752) (by decide +kernel)) rfl
theorem wFL_J2_44 : Cond.fieldLink RJ2 44 RJ2 "$assertionsDisabled" "Z" ∈ gTb := gm (List.mem_of_getElem? (i := 753) (by decide +kernel)) rfl
theorem wx_laysStatic_754 : Cond.laysStatic RJ2 "$assertionsDisabled" "Z" ∈ lw_tbl := List.mem_of_getElem? (i := 754) (by decide +kernel)
theorem wFL_J2_59 : Cond.fieldLink RJ2 59 RJ2 "HI_BYTE_SHIFT" "I" ∈ gTb := gm (List.mem_of_getElem? (i := 755) (by decide +kernel)) rfl
theorem wx_laysStatic_756 : Cond.laysStatic RJ2 "HI_BYTE_SHIFT" "I" ∈ lw_tbl := List.mem_of_getElem? (i := 756) (by decide +kernel)
theorem wFL_J2_63 : Cond.fieldLink RJ2 63 RJ2 "LO_BYTE_SHIFT" "I" ∈ gTb := gm (List.mem_of_getElem? (i := 757) (by decide +kernel)) rfl
theorem wx_laysStatic_758 : Cond.laysStatic RJ2 "LO_BYTE_SHIFT" "I" ∈ lw_tbl := List.mem_of_getElem? (i := 758) (by decide +kernel)
theorem wML_J5_32 : Cond.methodLink RJ5 32 yJ0_length_8abf5 ∈ gTb := gm (List.mem_of_getElem? (i := 759) (by decide +kernel)) rfl
theorem wIM_J0_length_8abf5 : Cond.instanceMethod yJ0_length_8abf5 ∈ gTb := gm (List.mem_of_getElem? (i := 760) (by decide +kernel)) rfl
theorem wSE_J0_J0_length_8abf5 : Cond.selects RJ0 yJ0_length_8abf5 yJ0_length_8abf5 ∈ gTb := gm (List.mem_of_getElem? (i := 761) (by decide +kernel)) rfl
theorem wCO_J0_length_8abf5 : Cond.code yJ0_length_8abf5 cJ0_length_8abf5 1 (Option.some Jvm.ClassFile.FieldType.int) ∈ gTb := gm (List.mem_of_getElem? (i := 762) (by decide +kernel)) rfl
theorem wML_J0_335 : Cond.methodLink RJ0 335 yJ0_coder_7d493 ∈ gTb := gm (List.mem_of_getElem? (i := 763) (by decide +kernel)) rfl
theorem wIM_J0_coder_7d493 : Cond.instanceMethod yJ0_coder_7d493 ∈ gTb := gm (List.mem_of_getElem? (i := 764) (by decide +kernel)) rfl
theorem wSE_J0_J0_coder_7d493 : Cond.selects RJ0 yJ0_coder_7d493 yJ0_coder_7d493 ∈ gTb := gm (List.mem_of_getElem? (i := 765) (by decide +kernel)) rfl
theorem wCO_J0_coder_7d493 : Cond.code yJ0_coder_7d493 cJ0_coder_7d493 1 (Option.some Jvm.ClassFile.FieldType.byte) ∈ gTb := gm (List.mem_of_getElem? (i := 766) (by decide +kernel)) rfl
theorem wFL_J0_38 : Cond.fieldLink RJ0 38 RJ0 "COMPACT_STRINGS" "Z" ∈ gTb := gm (List.mem_of_getElem? (i := 767) (by decide +kernel)) rfl
theorem wML_J5_208 : Cond.methodLink RJ5 208 yJ5_putStringAt_47b60 ∈ gTb := gm (List.mem_of_getElem? (i := 768) (by decide +kernel)) rfl
theorem wIM_J5_putStringAt_47b60 : Cond.instanceMethod yJ5_putStringAt_47b60 ∈ gTb := gm (List.mem_of_getElem? (i := 770) (by decide +kernel)) rfl
theorem wCO_J5_putStringAt_47b60 : Cond.code yJ5_putStringAt_47b60 cJ5_putStringAt_47b60 3 none ∈ gTb := gm (List.mem_of_getElem? (i := 771) (by decide +kernel)) rfl
theorem wML_J5_397 : Cond.methodLink RJ5 397 yJ5_inflateIfNeededFor_a7421 ∈ gTb := gm (List.mem_of_getElem? (i := 772) (by decide +kernel)) rfl
theorem wIM_J5_inflateIfNeededFor_a7421 : Cond.instanceMethod yJ5_inflateIfNeededFor_a7421 ∈ gTb := gm (List.mem_of_getElem? (i := 774) (by decide +kernel)) rfl
theorem wCO_J5_inflateIfNeededFor_a7421 : Cond.code yJ5_inflateIfNeededFor_a7421 cJ5_inflateIfNeededFor_a7421 2 none ∈ gTb := gm (List.mem_of_getElem? (i := 775) (by decide +kernel)) rfl
theorem wML_J5_40 : Cond.methodLink RJ5 40 yJ0_coder_7d493 ∈ gTb := gm (List.mem_of_getElem? (i := 776) (by decide +kernel)) rfl
theorem wML_J5_195 : Cond.methodLink RJ5 195 yJ5_inflate_da8c8 ∈ gTb := gm (List.mem_of_getElem? (i := 777) (by decide +kernel)) rfl
theorem wIM_J5_inflate_da8c8 : Cond.instanceMethod yJ5_inflate_da8c8 ∈ gTb := gm (List.mem_of_getElem? (i := 779) (by decide +kernel)) rfl
theorem wCO_J5_inflate_da8c8 : Cond.code yJ5_inflate_da8c8 cJ5_inflate_da8c8 2 none ∈ gTb := gm (List.mem_of_getElem? (i := 780) (by decide +kernel)) rfl
theorem wML_J5_125 : Cond.methodLink RJ5 125 yJ1_inflate_0e8fd ∈ gTb := gm (List.mem_of_getElem? (i := 781) (by decide +kernel)) rfl
theorem wST_J1_inflate_0e8fd : Cond.static yJ1_inflate_0e8fd ∈ gTb := gm (List.mem_of_getElem? (i := 782) (by decide +kernel)) rfl
theorem wCO_J1_inflate_0e8fd : Cond.code yJ1_inflate_0e8fd cJ1_inflate_0e8fd 5 none ∈ gTb := gm (List.mem_of_getElem? (i := 783) (by decide +kernel)) rfl
theorem wML_J1_240 : Cond.methodLink RJ1 240 yJ2_inflate_0e8fd ∈ gTb := gm (List.mem_of_getElem? (i := 784) (by decide +kernel)) rfl
theorem wST_J2_inflate_0e8fd : Cond.static yJ2_inflate_0e8fd ∈ gTb := gm (List.mem_of_getElem? (i := 785) (by decide +kernel)) rfl
theorem wCO_J2_inflate_0e8fd : Cond.code yJ2_inflate_0e8fd cJ2_inflate_0e8fd 6 none ∈ gTb := gm (List.mem_of_getElem? (i := 786) (by decide +kernel)) rfl
theorem wML_J2_173 : Cond.methodLink RJ2 173 yJ2_checkBoundsOffCount_d044e ∈ gTb := gm (List.mem_of_getElem? (i := 787) (by decide +kernel)) rfl
theorem wST_J2_checkBoundsOffCount_d044e : Cond.static yJ2_checkBoundsOffCount_d044e ∈ gTb := gm (List.mem_of_getElem? (i := 788) (by decide +kernel)) rfl
theorem wCO_J2_checkBoundsOffCount_d044e : Cond.code yJ2_checkBoundsOffCount_d044e cJ2_checkBoundsOffCount_d044e 3 none ∈ gTb := gm (List.mem_of_getElem? (i := 789) (by decide +kernel)) rfl
theorem wML_J2_419 : Cond.methodLink RJ2 419 yJ0_checkBoundsOffCount_cabcc ∈ gTb := gm (List.mem_of_getElem? (i := 790) (by decide +kernel)) rfl
theorem wST_J0_checkBoundsOffCount_cabcc : Cond.static yJ0_checkBoundsOffCount_cabcc ∈ gTb := gm (List.mem_of_getElem? (i := 791) (by decide +kernel)) rfl
theorem wCO_J0_checkBoundsOffCount_cabcc : Cond.code yJ0_checkBoundsOffCount_cabcc cJ0_checkBoundsOffCount_cabcc 3 (Option.some Jvm.ClassFile.FieldType.int) ∈ gTb := gm (List.mem_of_getElem? (i := 792) (by decide +kernel)) rfl
theorem wML_J0_1065 : Cond.methodLink RJ0 1065 yJ3_checkFromIndexSize_8c36e ∈ gTb := gm (List.mem_of_getElem? (i := 793) (by decide +kernel)) rfl
theorem wST_J3_checkFromIndexSize_8c36e : Cond.static yJ3_checkFromIndexSize_8c36e ∈ gTb := gm (List.mem_of_getElem? (i := 794) (by decide +kernel)) rfl
theorem wCO_J3_checkFromIndexSize_8c36e : Cond.code yJ3_checkFromIndexSize_8c36e cJ3_checkFromIndexSize_8c36e 4 (Option.some Jvm.ClassFile.FieldType.int) ∈ gTb := gm (List.mem_of_getElem? (i := 795) (by decide +kernel)) rfl
theorem wML_J5_399 : Cond.methodLink RJ5 399 yJ0_getBytes_840e7 ∈ gTb := gm (List.mem_of_getElem? (i := 796) (by decide +kernel)) rfl
theorem wIM_J0_getBytes_840e7 : Cond.instanceMethod yJ0_getBytes_840e7 ∈ gTb := gm (List.mem_of_getElem? (i := 797) (by decide +kernel)) rfl
theorem wSE_J0_J0_getBytes_840e7 : Cond.selects RJ0 yJ0_getBytes_840e7 yJ0_getBytes_840e7 ∈ gTb := gm (List.mem_of_getElem? (i := 798) (by decide +kernel)) rfl
theorem wCO_J0_getBytes_840e7 : Cond.code yJ0_getBytes_840e7 cJ0_getBytes_840e7 4 none ∈ gTb := gm (List.mem_of_getElem? (i := 799) (by decide +kernel)) rfl
theorem wML_J0_106 : Cond.methodLink RJ0 106 yJ1_inflate_0e8fd ∈ gTb := gm (List.mem_of_getElem? (i := 801) (by decide +kernel)) rfl
theorem wML_Jx4a65c_29 : Cond.methodLink RJx4a65c 29 yJ4_append_bf812 ∈ gTb := gm (List.mem_of_getElem? (i := 802) (by decide +kernel)) rfl
theorem wIM_J4_append_bf812 : Cond.instanceMethod yJ4_append_bf812 ∈ gTb := gm (List.mem_of_getElem? (i := 803) (by decide +kernel)) rfl
theorem wSE_J4_J4_append_bf812 : Cond.selects RJ4 yJ4_append_bf812 yJ4_append_bf812 ∈ gTb := gm (List.mem_of_getElem? (i := 804) (by decide +kernel)) rfl
theorem wCO_J4_append_bf812 : Cond.code yJ4_append_bf812 cJ4_append_bf812 2 (Option.some (Jvm.ClassFile.FieldType.object "java/lang/StringBuilder")) ∈ gTb := gm (List.mem_of_getElem? (i := 805) (by decide +kernel)) rfl
theorem wML_J4_53 : Cond.methodLink RJ4 53 yJ5_append_c97b9 ∈ gTb := gm (List.mem_of_getElem? (i := 806) (by decide +kernel)) rfl
theorem wIM_J5_append_c97b9 : Cond.instanceMethod yJ5_append_c97b9 ∈ gTb := gm (List.mem_of_getElem? (i := 807) (by decide +kernel)) rfl
theorem wCO_J5_append_c97b9 : Cond.code yJ5_append_c97b9 cJ5_append_c97b9 4 (Option.some (Jvm.ClassFile.FieldType.object "java/lang/AbstractStringBuilder")) ∈ gTb := gm (List.mem_of_getElem? (i := 808) (by decide +kernel)) rfl
theorem wML_J5_245 : Cond.methodLink RJ5 245 yJ6_stringSize_0f7a4 ∈ gTb := gm (List.mem_of_getElem? (i := 809) (by decide +kernel)) rfl
theorem wST_J6_stringSize_0f7a4 : Cond.static yJ6_stringSize_0f7a4 ∈ gTb := gm (List.mem_of_getElem? (i := 810) (by decide +kernel)) rfl
theorem wCO_J6_stringSize_0f7a4 : Cond.code yJ6_stringSize_0f7a4 cJ6_stringSize_0f7a4 4 (Option.some Jvm.ClassFile.FieldType.int) ∈ gTb := gm (List.mem_of_getElem? (i := 811) (by decide +kernel)) rfl
theorem wML_J5_248 : Cond.methodLink RJ5 248 yJ6_getChars_ba4f3 ∈ gTb := gm (List.mem_of_getElem? (i := 812) (by decide +kernel)) rfl
theorem wST_J6_getChars_ba4f3 : Cond.static yJ6_getChars_ba4f3 ∈ gTb := gm (List.mem_of_getElem? (i := 813) (by decide +kernel)) rfl
theorem wCO_J6_getChars_ba4f3 : Cond.code yJ6_getChars_ba4f3 cJ6_getChars_ba4f3 7 (Option.some Jvm.ClassFile.FieldType.int) ∈ gTb := gm (List.mem_of_getElem? (i := 814) (by decide +kernel)) rfl
theorem wFL_J6_83 : Cond.fieldLink RJ6 83 RJ6 "DigitOnes" "[B" ∈ gTb := gm (List.mem_of_getElem? (i := 815) (by decide +kernel)) rfl
theorem wx_laysStatic_816 : Cond.laysStatic RJ6 "DigitOnes" "[B" ∈ lw_tbl := List.mem_of_getElem? (i := 816) (by decide +kernel)
theorem wFL_J6_87 : Cond.fieldLink RJ6 87 RJ6 "DigitTens" "[B" ∈ gTb := gm (List.mem_of_getElem? (i := 817) (by decide +kernel)) rfl
theorem wx_laysStatic_818 : Cond.laysStatic RJ6 "DigitTens" "[B" ∈ lw_tbl := List.mem_of_getElem? (i := 818) (by decide +kernel)
theorem wML_J5_251 : Cond.methodLink RJ5 251 yJ2_getChars_46870 ∈ gTb := gm (List.mem_of_getElem? (i := 819) (by decide +kernel)) rfl
theorem wST_J2_getChars_46870 : Cond.static yJ2_getChars_46870 ∈ gTb := gm (List.mem_of_getElem? (i := 820) (by decide +kernel)) rfl
theorem wCO_J2_getChars_46870 : Cond.code yJ2_getChars_46870 cJ2_getChars_46870 5 (Option.some Jvm.ClassFile.FieldType.int) ∈ gTb := gm (List.mem_of_getElem? (i := 821) (by decide +kernel)) rfl
theorem wML_J2_393 : Cond.methodLink RJ2 393 yJ2_getChars_ba4f3 ∈ gTb := gm (List.mem_of_getElem? (i := 822) (by decide +kernel)) rfl
theorem wST_J2_getChars_ba4f3 : Cond.static yJ2_getChars_ba4f3 ∈ gTb := gm (List.mem_of_getElem? (i := 823) (by decide +kernel)) rfl
theorem wCO_J2_getChars_ba4f3 : Cond.code yJ2_getChars_ba4f3 cJ2_getChars_ba4f3 7 (Option.some Jvm.ClassFile.FieldType.int) ∈ gTb := gm (List.mem_of_getElem? (i := 824) (by decide +kernel)) rfl
theorem wFL_J2_403 : Cond.fieldLink RJ2 403 RJ6 "DigitOnes" "[B" ∈ gTb := gm (List.mem_of_getElem? (i := 825) (by decide +kernel)) rfl
theorem wFL_J2_407 : Cond.fieldLink RJ2 407 RJ6 "DigitTens" "[B" ∈ gTb := gm (List.mem_of_getElem? (i := 826) (by decide +kernel)) rfl
theorem wx_stringRef_827 : Cond.stringRef RJx4a65c 203 ", Size: " ∈ lw_tbl := List.mem_of_getElem? (i := 827) (by decide +kernel)
theorem wML_Jx4a65c_32 : Cond.methodLink RJx4a65c 32 yJ4_toString_0e30d ∈ gTb := gm (List.mem_of_getElem? (i := 828) (by decide +kernel)) rfl
theorem wIM_J4_toString_0e30d : Cond.instanceMethod yJ4_toString_0e30d ∈ gTb := gm (List.mem_of_getElem? (i := 829) (by decide +kernel)) rfl
theorem wSE_J4_J4_toString_0e30d : Cond.selects RJ4 yJ4_toString_0e30d yJ4_toString_0e30d ∈ gTb := gm (List.mem_of_getElem? (i := 830) (by decide +kernel)) rfl
theorem wCO_J4_toString_0e30d : Cond.code yJ4_toString_0e30d cJ4_toString_0e30d 1 (Option.some (Jvm.ClassFile.FieldType.object "java/lang/String")) ∈ gTb := gm (List.mem_of_getElem? (i := 831) (by decide +kernel)) rfl
theorem wCL_J4_18 : Cond.classLink RJ4 18 RJ0 ∈ gTb := gm (List.mem_of_getElem? (i := 832) (by decide +kernel)) rfl
theorem wIS_J0 : Cond.instantiable RJ0 4 ∈ gTb := gm (List.mem_of_getElem? (i := 833) (by decide +kernel)) rfl
theorem wML_J4_137 : Cond.methodLink RJ4 137 yJ0_init_81219 ∈ gTb := gm (List.mem_of_getElem? (i := 834) (by decide +kernel)) rfl
theorem wIM_J0_init_81219 : Cond.instanceMethod yJ0_init_81219 ∈ gTb := gm (List.mem_of_getElem? (i := 835) (by decide +kernel)) rfl
theorem wCO_J0_init_81219 : Cond.code yJ0_init_81219 cJ0_init_81219 2 none ∈ gTb := gm (List.mem_of_getElem? (i := 836) (by decide +kernel)) rfl
theorem wML_J0_489 : Cond.methodLink RJ0 489 yJ0_init_db425 ∈ gTb := gm (List.mem_of_getElem? (i := 837) (by decide +kernel)) rfl
theorem wIM_J0_init_db425 : Cond.instanceMethod yJ0_init_db425 ∈ gTb := gm (List.mem_of_getElem? (i := 838) (by decide +kernel)) rfl
theorem wCO_J0_init_db425 : Cond.code yJ0_init_db425 cJ0_init_db425 5 none ∈ gTb := gm (List.mem_of_getElem? (i := 839) (by decide +kernel)) rfl
theorem wML_J0_1 : Cond.methodLink RJ0 1 objectInit ∈ gTb := gm (List.mem_of_getElem? (i := 840) (by decide +kernel)) rfl
theorem wML_J0_552 : Cond.methodLink RJ0 552 yJ5_getValue_6d5f1 ∈ gTb := gm (List.mem_of_getElem? (i := 841) (by decide +kernel)) rfl
theorem wIM_J5_getValue_6d5f1 : Cond.instanceMethod yJ5_getValue_6d5f1 ∈ gTb := gm (List.mem_of_getElem? (i := 842) (by decide +kernel)) rfl
theorem wSM_J5_getValue_843 : Cond.sameMethod RJ5 RJ5 "getValue" "()[B" ∈ gTb := gm (List.mem_of_getElem? (i := 843) (by decide +kernel)) rfl
theorem wSE_J4_J5_getValue_6d5f1 : Cond.selects RJ4 yJ5_getValue_6d5f1 yJ5_getValue_6d5f1 ∈ gTb := gm (List.mem_of_getElem? (i := 844) (by decide +kernel)) rfl
theorem wCO_J5_getValue_6d5f1 : Cond.code yJ5_getValue_6d5f1 cJ5_getValue_6d5f1 1 (Option.some (Jvm.ClassFile.FieldType.array Jvm.ClassFile.FieldType.byte)) ∈ gTb := gm (List.mem_of_getElem? (i := 845) (by decide +kernel)) rfl
theorem wML_J0_549 : Cond.methodLink RJ0 549 yJ5_length_8abf5 ∈ gTb := gm (List.mem_of_getElem? (i := 846) (by decide +kernel)) rfl
theorem wIM_J5_length_8abf5 : Cond.instanceMethod yJ5_length_8abf5 ∈ gTb := gm (List.mem_of_getElem? (i := 847) (by decide +kernel)) rfl
theorem wSM_J5_length_848 : Cond.sameMethod RJ5 RJ5 "length" "()I" ∈ gTb := gm (List.mem_of_getElem? (i := 848) (by decide +kernel)) rfl
theorem wSX_J4_J4_length_8abf5 : Cond.selects RJ4 yJ5_length_8abf5 yJ4_length_8abf5 ∈ gTb := gm (List.mem_of_getElem? (i := 849) (by decide +kernel)) rfl
theorem wIM_J4_length_8abf5 : Cond.instanceMethod yJ4_length_8abf5 ∈ gTb := gm (List.mem_of_getElem? (i := 850) (by decide +kernel)) rfl
theorem wCO_J4_length_8abf5 : Cond.code yJ4_length_8abf5 cJ4_length_8abf5 1 (Option.some Jvm.ClassFile.FieldType.int) ∈ gTb := gm (List.mem_of_getElem? (i := 851) (by decide +kernel)) rfl
theorem wML_J4_343 : Cond.methodLink RJ4 343 yJ5_length_8abf5 ∈ gTb := gm (List.mem_of_getElem? (i := 852) (by decide +kernel)) rfl
theorem wCO_J5_length_8abf5 : Cond.code yJ5_length_8abf5 cJ5_length_8abf5 1 (Option.some Jvm.ClassFile.FieldType.int) ∈ gTb := gm (List.mem_of_getElem? (i := 853) (by decide +kernel)) rfl
theorem wML_J0_1047 : Cond.methodLink RJ0 1047 yJ5_isLatin1_aae02 ∈ gTb := gm (List.mem_of_getElem? (i := 854) (by decide +kernel)) rfl
theorem wML_J0_54 : Cond.methodLink RJ0 54 yJ7_copyOfRange_39247 ∈ gTb := gm (List.mem_of_getElem? (i := 855) (by decide +kernel)) rfl
theorem wST_J7_copyOfRange_39247 : Cond.static yJ7_copyOfRange_39247 ∈ gTb := gm (List.mem_of_getElem? (i := 856) (by decide +kernel)) rfl
theorem wCO_J7_copyOfRange_39247 : Cond.code yJ7_copyOfRange_39247 cJ7_copyOfRange_39247 3 (Option.some (Jvm.ClassFile.FieldType.array Jvm.ClassFile.FieldType.byte)) ∈ gTb := gm (List.mem_of_getElem? (i := 857) (by decide +kernel)) rfl
theorem wML_J7_339 : Cond.methodLink RJ7 339 yJ7_copyOfRangeByte_39247 ∈ gTb := gm (List.mem_of_getElem? (i := 858) (by decide +kernel)) rfl
theorem wST_J7_copyOfRangeByte_39247 : Cond.static yJ7_copyOfRangeByte_39247 ∈ gTb := gm (List.mem_of_getElem? (i := 859) (by decide +kernel)) rfl
theorem wCO_J7_copyOfRangeByte_39247 : Cond.code yJ7_copyOfRangeByte_39247 cJ7_copyOfRangeByte_39247 5 (Option.some (Jvm.ClassFile.FieldType.array Jvm.ClassFile.FieldType.byte)) ∈ gTb := gm (List.mem_of_getElem? (i := 860) (by decide +kernel)) rfl
theorem wML_J7_343 : Cond.methodLink RJ7 343 yJ7_checkLength_df160 ∈ gTb := gm (List.mem_of_getElem? (i := 861) (by decide +kernel)) rfl
theorem wST_J7_checkLength_df160 : Cond.static yJ7_checkLength_df160 ∈ gTb := gm (List.mem_of_getElem? (i := 862) (by decide +kernel)) rfl
theorem wCO_J7_checkLength_df160 : Cond.code yJ7_checkLength_df160 cJ7_checkLength_df160 2 none ∈ gTb := gm (List.mem_of_getElem? (i := 863) (by decide +kernel)) rfl
theorem wCL_J7_43 : Cond.classLink RJ7 43 "java/lang/IllegalArgumentException" ∈ gTb := gm (List.mem_of_getElem? (i := 864) (by decide +kernel)) rfl
theorem wCL_J7_45 : Cond.classLink RJ7 45 RJ4 ∈ gTb := gm (List.mem_of_getElem? (i := 865) (by decide +kernel)) rfl
theorem wML_J7_47 : Cond.methodLink RJ7 47 yJ4_init_da8c8 ∈ gTb := gm (List.mem_of_getElem? (i := 866) (by decide +kernel)) rfl
theorem wML_J7_54 : Cond.methodLink RJ7 54 yJ4_append_bf812 ∈ gTb := gm (List.mem_of_getElem? (i := 867) (by decide +kernel)) rfl
theorem wx_stringRef_868 : Cond.stringRef RJ7 337 " > " ∈ lw_tbl := List.mem_of_getElem? (i := 868) (by decide +kernel)
theorem wML_J7_50 : Cond.methodLink RJ7 50 yJ4_append_15ec4 ∈ gTb := gm (List.mem_of_getElem? (i := 869) (by decide +kernel)) rfl
theorem wML_J7_61 : Cond.methodLink RJ7 61 yJ4_toString_0e30d ∈ gTb := gm (List.mem_of_getElem? (i := 870) (by decide +kernel)) rfl
theorem wML_J0_1051 : Cond.methodLink RJ0 1051 yJ2_compress_39247 ∈ gTb := gm (List.mem_of_getElem? (i := 872) (by decide +kernel)) rfl
theorem wST_J2_compress_39247 : Cond.static yJ2_compress_39247 ∈ gTb := gm (List.mem_of_getElem? (i := 873) (by decide +kernel)) rfl
theorem wCO_J2_compress_39247 : Cond.code yJ2_compress_39247 cJ2_compress_39247 6 (Option.some (Jvm.ClassFile.FieldType.array Jvm.ClassFile.FieldType.byte)) ∈ gTb := gm (List.mem_of_getElem? (i := 874) (by decide +kernel)) rfl
theorem wML_J2_123 : Cond.methodLink RJ2 123 yJ2_compress_5af95 ∈ gTb := gm (List.mem_of_getElem? (i := 875) (by decide +kernel)) rfl
theorem wST_J2_compress_5af95 : Cond.static yJ2_compress_5af95 ∈ gTb := gm (List.mem_of_getElem? (i := 876) (by decide +kernel)) rfl
theorem wCO_J2_compress_5af95 : Cond.code yJ2_compress_5af95 cJ2_compress_5af95 7 (Option.some Jvm.ClassFile.FieldType.int) ∈ gTb := gm (List.mem_of_getElem? (i := 877) (by decide +kernel)) rfl
theorem wML_J2_71 : Cond.methodLink RJ2 71 yJ2_getChar_3b067 ∈ gTb := gm (List.mem_of_getElem? (i := 878) (by decide +kernel)) rfl
theorem wST_J2_getChar_3b067 : Cond.static yJ2_getChar_3b067 ∈ gTb := gm (List.mem_of_getElem? (i := 879) (by decide +kernel)) rfl
theorem wCO_J2_getChar_3b067 : Cond.code yJ2_getChar_3b067 cJ2_getChar_3b067 2 (Option.some Jvm.ClassFile.FieldType.char) ∈ gTb := gm (List.mem_of_getElem? (i := 880) (by decide +kernel)) rfl
theorem wML_J2_126 : Cond.methodLink RJ2 126 yJ7_copyOfRange_39247 ∈ gTb := gm (List.mem_of_getElem? (i := 881) (by decide +kernel)) rfl
theorem wML_J0_47 : Cond.methodLink RJ0 47 yJ2_coderFromArrayLen_85cad ∈ gTb := gm (List.mem_of_getElem? (i := 882) (by decide +kernel)) rfl
theorem wST_J2_coderFromArrayLen_85cad : Cond.static yJ2_coderFromArrayLen_85cad ∈ gTb := gm (List.mem_of_getElem? (i := 883) (by decide +kernel)) rfl
theorem wCO_J2_coderFromArrayLen_85cad : Cond.code yJ2_coderFromArrayLen_85cad cJ2_coderFromArrayLen_85cad 2 (Option.some Jvm.ClassFile.FieldType.byte) ∈ gTb := gm (List.mem_of_getElem? (i := 884) (by decide +kernel)) rfl
theorem wFL_J0_9 : Cond.fieldLink RJ0 9 RJ0 "value" "[B" ∈ gTb := gm (List.mem_of_getElem? (i := 885) (by decide +kernel)) rfl
theorem wFL_J0_15 : Cond.fieldLink RJ0 15 RJ0 "coder" "B" ∈ gTb := gm (List.mem_of_getElem? (i := 886) (by decide +kernel)) rfl
theorem wSU_J0 : Cond.superclass RJ0 "java/lang/Object" ∈ gTb := gm (List.mem_of_getElem? (i := 895) (by decide +kernel)) rfl
theorem wML_X1_48 : Cond.methodLink RX1 48 yJx4a65c_add_9ea2d ∈ gTb := gm (List.mem_of_getElem? (i := 897) (by decide +kernel)) rfl
theorem wML_L_55 : Cond.methodLink RL 55 yX5_goOut ∈ gTb := gm (List.mem_of_getElem? (i := 898) (by decide +kernel)) rfl
theorem wIM_X5_goOut : Cond.instanceMethod yX5_goOut ∈ gTb := gm (List.mem_of_getElem? (i := 899) (by decide +kernel)) rfl
theorem wSE_X5_X5_goOut : Cond.selects RX5 yX5_goOut yX5_goOut ∈ gTb := gm (List.mem_of_getElem? (i := 900) (by decide +kernel)) rfl
theorem wCO_X5_goOut : Cond.code yX5_goOut cX5_goOut 4 (Option.some Jvm.ClassFile.FieldType.int) ∈ gTb := gm (List.mem_of_getElem? (i := 901) (by decide +kernel)) rfl
theorem wx_stringRef_902 : Cond.stringRef RX5 162 "in no room and in no queue" ∈ lw_tbl := List.mem_of_getElem? (i := 902) (by decide +kernel)
theorem wML_X5_164 : Cond.methodLink RX5 164 yX1_leaveQueue ∈ gTb := gm (List.mem_of_getElem? (i := 903) (by decide +kernel)) rfl
theorem wIM_X1_leaveQueue : Cond.instanceMethod yX1_leaveQueue ∈ gTb := gm (List.mem_of_getElem? (i := 904) (by decide +kernel)) rfl
theorem wSE_X1_X1_leaveQueue : Cond.selects RX1 yX1_leaveQueue yX1_leaveQueue ∈ gTb := gm (List.mem_of_getElem? (i := 905) (by decide +kernel)) rfl
theorem wCO_X1_leaveQueue : Cond.code yX1_leaveQueue cX1_leaveQueue 3 none ∈ gTb := gm (List.mem_of_getElem? (i := 906) (by decide +kernel)) rfl
theorem wML_X1_58 : Cond.methodLink RX1 58 yJx4a65c_remove_915e3 ∈ gTb := gm (List.mem_of_getElem? (i := 907) (by decide +kernel)) rfl
theorem wML_L_58 : Cond.methodLink RL 58 yX5_hang ∈ gTb := gm (List.mem_of_getElem? (i := 908) (by decide +kernel)) rfl
theorem wIM_X5_hang : Cond.instanceMethod yX5_hang ∈ gTb := gm (List.mem_of_getElem? (i := 909) (by decide +kernel)) rfl
theorem wSE_X5_X5_hang : Cond.selects RX5 yX5_hang yX5_hang ∈ gTb := gm (List.mem_of_getElem? (i := 910) (by decide +kernel)) rfl
theorem wCO_X5_hang : Cond.code yX5_hang cX5_hang 6 (Option.some Jvm.ClassFile.FieldType.int) ∈ gTb := gm (List.mem_of_getElem? (i := 911) (by decide +kernel)) rfl
theorem wx_stringRef_912 : Cond.stringRef RX5 194 "another house" ∈ lw_tbl := List.mem_of_getElem? (i := 912) (by decide +kernel)
theorem wML_L_62 : Cond.methodLink RL 62 yX5_lend ∈ gTb := gm (List.mem_of_getElem? (i := 913) (by decide +kernel)) rfl
theorem wIM_X5_lend : Cond.instanceMethod yX5_lend ∈ gTb := gm (List.mem_of_getElem? (i := 914) (by decide +kernel)) rfl
theorem wSE_X5_X5_lend : Cond.selects RX5 yX5_lend yX5_lend ∈ gTb := gm (List.mem_of_getElem? (i := 915) (by decide +kernel)) rfl
theorem wCO_X5_lend : Cond.code yX5_lend cX5_lend 6 (Option.some Jvm.ClassFile.FieldType.int) ∈ gTb := gm (List.mem_of_getElem? (i := 916) (by decide +kernel)) rfl
theorem wx_stringRef_917 : Cond.stringRef RX5 200 "lent, or its own house" ∈ lw_tbl := List.mem_of_getElem? (i := 917) (by decide +kernel)
theorem wML_L_66 : Cond.methodLink RL 66 yX5_bringHome ∈ gTb := gm (List.mem_of_getElem? (i := 918) (by decide +kernel)) rfl
theorem wIM_X5_bringHome : Cond.instanceMethod yX5_bringHome ∈ gTb := gm (List.mem_of_getElem? (i := 919) (by decide +kernel)) rfl
theorem wSE_X5_X5_bringHome : Cond.selects RX5 yX5_bringHome yX5_bringHome ∈ gTb := gm (List.mem_of_getElem? (i := 920) (by decide +kernel)) rfl
theorem wCO_X5_bringHome : Cond.code yX5_bringHome cX5_bringHome 5 (Option.some Jvm.ClassFile.FieldType.int) ∈ gTb := gm (List.mem_of_getElem? (i := 921) (by decide +kernel)) rfl
theorem wx_stringRef_922 : Cond.stringRef RX5 208 "not lent, or not its own house" ∈ lw_tbl := List.mem_of_getElem? (i := 922) (by decide +kernel)
theorem wML_L_69 : Cond.methodLink RL 69 yX5_addWork ∈ gTb := gm (List.mem_of_getElem? (i := 923) (by decide +kernel)) rfl
theorem wIM_X5_addWork : Cond.instanceMethod yX5_addWork ∈ gTb := gm (List.mem_of_getElem? (i := 924) (by decide +kernel)) rfl
theorem wSE_X5_X5_addWork : Cond.selects RX5 yX5_addWork yX5_addWork ∈ gTb := gm (List.mem_of_getElem? (i := 925) (by decide +kernel)) rfl
theorem wCO_X5_addWork : Cond.code yX5_addWork cX5_addWork 4 (Option.some Jvm.ClassFile.FieldType.int) ∈ gTb := gm (List.mem_of_getElem? (i := 926) (by decide +kernel)) rfl
theorem wx_stringRef_927 : Cond.stringRef RX5 177 "no more works" ∈ lw_tbl := List.mem_of_getElem? (i := 927) (by decide +kernel)
theorem wIS_X4 : Cond.instantiable RX4 8 ∈ gTb := gm (List.mem_of_getElem? (i := 928) (by decide +kernel)) rfl
theorem wML_X5_181 : Cond.methodLink RX5 181 yX4_init ∈ gTb := gm (List.mem_of_getElem? (i := 929) (by decide +kernel)) rfl
theorem wIM_X4_init : Cond.instanceMethod yX4_init ∈ gTb := gm (List.mem_of_getElem? (i := 930) (by decide +kernel)) rfl
theorem wCO_X4_init : Cond.code yX4_init cX4_init 3 none ∈ gTb := gm (List.mem_of_getElem? (i := 931) (by decide +kernel)) rfl
theorem wML_X4_3 : Cond.methodLink RX4 3 objectInit ∈ gTb := gm (List.mem_of_getElem? (i := 932) (by decide +kernel)) rfl
theorem wFL_X4_15 : Cond.fieldLink RX4 15 RX4 "number" "I" ∈ gTb := gm (List.mem_of_getElem? (i := 933) (by decide +kernel)) rfl
theorem wFL_X5_188 : Cond.fieldLink RX5 188 RX4 "number" "I" ∈ gTb := gm (List.mem_of_getElem? (i := 934) (by decide +kernel)) rfl
theorem wFL_X4_23 : Cond.fieldLink RX4 23 RX4 "house" "I" ∈ gTb := gm (List.mem_of_getElem? (i := 935) (by decide +kernel)) rfl
theorem wFL_X5_199 : Cond.fieldLink RX5 199 RX4 "house" "I" ∈ gTb := gm (List.mem_of_getElem? (i := 936) (by decide +kernel)) rfl
theorem wFL_X4_25 : Cond.fieldLink RX4 25 RX4 "room" "I" ∈ gTb := gm (List.mem_of_getElem? (i := 937) (by decide +kernel)) rfl
theorem wFL_X5_193 : Cond.fieldLink RX5 193 RX4 "room" "I" ∈ gTb := gm (List.mem_of_getElem? (i := 938) (by decide +kernel)) rfl
theorem wFL_X5_196 : Cond.fieldLink RX5 196 RX4 "isLent" "Z" ∈ gTb := gm (List.mem_of_getElem? (i := 939) (by decide +kernel)) rfl
theorem wFL_X5_202 : Cond.fieldLink RX5 202 RX4 "fee" "I" ∈ gTb := gm (List.mem_of_getElem? (i := 940) (by decide +kernel)) rfl
theorem wFL_X5_205 : Cond.fieldLink RX5 205 RX4 "loanFees" "I" ∈ gTb := gm (List.mem_of_getElem? (i := 941) (by decide +kernel)) rfl
theorem wFL_X4_9 : Cond.fieldLink RX4 9 RX4 "share" "I" ∈ gTb := gm (List.mem_of_getElem? (i := 942) (by decide +kernel)) rfl
theorem wFL_X5_210 : Cond.fieldLink RX5 210 RX4 "share" "I" ∈ gTb := gm (List.mem_of_getElem? (i := 943) (by decide +kernel)) rfl
theorem wFL_X5_239 : Cond.fieldLink RX5 239 RX4 "timesSeen" "I" ∈ gTb := gm (List.mem_of_getElem? (i := 944) (by decide +kernel)) rfl
theorem wSU_X4 : Cond.superclass RX4 "java/lang/Object" ∈ gTb := gm (List.mem_of_getElem? (i := 961) (by decide +kernel)) rfl
theorem wML_L_121 : Cond.methodLink RL 121 yL_areMuseums ∈ gTb := gm (List.mem_of_getElem? (i := 962) (by decide +kernel)) rfl
theorem wST_L_areMuseums : Cond.static yL_areMuseums ∈ gTb := gm (List.mem_of_getElem? (i := 963) (by decide +kernel)) rfl
theorem wCO_L_areMuseums : Cond.code yL_areMuseums cL_areMuseums 17 (Option.some Jvm.ClassFile.FieldType.boolean) ∈ gTb := gm (List.mem_of_getElem? (i := 964) (by decide +kernel)) rfl
theorem wML_L_81 : Cond.methodLink RL 81 yX5_day ∈ gTb := gm (List.mem_of_getElem? (i := 965) (by decide +kernel)) rfl
theorem wIM_X5_day : Cond.instanceMethod yX5_day ∈ gTb := gm (List.mem_of_getElem? (i := 966) (by decide +kernel)) rfl
theorem wSE_X5_X5_day : Cond.selects RX5 yX5_day yX5_day ∈ gTb := gm (List.mem_of_getElem? (i := 967) (by decide +kernel)) rfl
theorem wCO_X5_day : Cond.code yX5_day cX5_day 1 (Option.some Jvm.ClassFile.FieldType.int) ∈ gTb := gm (List.mem_of_getElem? (i := 968) (by decide +kernel)) rfl
theorem wML_L_85 : Cond.methodLink RL 85 yX5_tickets ∈ gTb := gm (List.mem_of_getElem? (i := 969) (by decide +kernel)) rfl
theorem wIM_X5_tickets : Cond.instanceMethod yX5_tickets ∈ gTb := gm (List.mem_of_getElem? (i := 970) (by decide +kernel)) rfl
theorem wSE_X5_X5_tickets : Cond.selects RX5 yX5_tickets yX5_tickets ∈ gTb := gm (List.mem_of_getElem? (i := 971) (by decide +kernel)) rfl
theorem wCO_X5_tickets : Cond.code yX5_tickets cX5_tickets 1 (Option.some Jvm.ClassFile.FieldType.int) ∈ gTb := gm (List.mem_of_getElem? (i := 972) (by decide +kernel)) rfl
theorem wML_L_88 : Cond.methodLink RL 88 yX5_takings ∈ gTb := gm (List.mem_of_getElem? (i := 973) (by decide +kernel)) rfl
theorem wIM_X5_takings : Cond.instanceMethod yX5_takings ∈ gTb := gm (List.mem_of_getElem? (i := 974) (by decide +kernel)) rfl
theorem wSE_X5_X5_takings : Cond.selects RX5 yX5_takings yX5_takings ∈ gTb := gm (List.mem_of_getElem? (i := 975) (by decide +kernel)) rfl
theorem wCO_X5_takings : Cond.code yX5_takings cX5_takings 1 (Option.some Jvm.ClassFile.FieldType.int) ∈ gTb := gm (List.mem_of_getElem? (i := 976) (by decide +kernel)) rfl
theorem wML_L_91 : Cond.methodLink RL 91 yX5_seen ∈ gTb := gm (List.mem_of_getElem? (i := 977) (by decide +kernel)) rfl
theorem wIM_X5_seen : Cond.instanceMethod yX5_seen ∈ gTb := gm (List.mem_of_getElem? (i := 978) (by decide +kernel)) rfl
theorem wSE_X5_X5_seen : Cond.selects RX5 yX5_seen yX5_seen ∈ gTb := gm (List.mem_of_getElem? (i := 979) (by decide +kernel)) rfl
theorem wCO_X5_seen : Cond.code yX5_seen cX5_seen 2 (Option.some Jvm.ClassFile.FieldType.int) ∈ gTb := gm (List.mem_of_getElem? (i := 980) (by decide +kernel)) rfl
theorem wML_L_94 : Cond.methodLink RL 94 yX5_whereIs ∈ gTb := gm (List.mem_of_getElem? (i := 981) (by decide +kernel)) rfl
theorem wIM_X5_whereIs : Cond.instanceMethod yX5_whereIs ∈ gTb := gm (List.mem_of_getElem? (i := 982) (by decide +kernel)) rfl
theorem wSE_X5_X5_whereIs : Cond.selects RX5 yX5_whereIs yX5_whereIs ∈ gTb := gm (List.mem_of_getElem? (i := 983) (by decide +kernel)) rfl
theorem wCO_X5_whereIs : Cond.code yX5_whereIs cX5_whereIs 3 (Option.some Jvm.ClassFile.FieldType.int) ∈ gTb := gm (List.mem_of_getElem? (i := 984) (by decide +kernel)) rfl
theorem wML_L_97 : Cond.methodLink RL 97 yL_rank ∈ gTb := gm (List.mem_of_getElem? (i := 985) (by decide +kernel)) rfl
theorem wST_L_rank : Cond.static yL_rank ∈ gTb := gm (List.mem_of_getElem? (i := 986) (by decide +kernel)) rfl
theorem wCO_L_rank : Cond.code yL_rank cL_rank 3 (Option.some Jvm.ClassFile.FieldType.int) ∈ gTb := gm (List.mem_of_getElem? (i := 987) (by decide +kernel)) rfl
theorem wCN_L_9 : Cond.constant RL 9 (900000) ∈ gTb := gm (List.mem_of_getElem? (i := 988) (by decide +kernel)) rfl
theorem wML_L_100 : Cond.methodLink RL 100 yX5_inside ∈ gTb := gm (List.mem_of_getElem? (i := 989) (by decide +kernel)) rfl
theorem wIM_X5_inside : Cond.instanceMethod yX5_inside ∈ gTb := gm (List.mem_of_getElem? (i := 990) (by decide +kernel)) rfl
theorem wSE_X5_X5_inside : Cond.selects RX5 yX5_inside yX5_inside ∈ gTb := gm (List.mem_of_getElem? (i := 991) (by decide +kernel)) rfl
theorem wCO_X5_inside : Cond.code yX5_inside cX5_inside 2 (Option.some Jvm.ClassFile.FieldType.int) ∈ gTb := gm (List.mem_of_getElem? (i := 992) (by decide +kernel)) rfl
theorem wML_L_102 : Cond.methodLink RL 102 yX5_queued ∈ gTb := gm (List.mem_of_getElem? (i := 993) (by decide +kernel)) rfl
theorem wIM_X5_queued : Cond.instanceMethod yX5_queued ∈ gTb := gm (List.mem_of_getElem? (i := 994) (by decide +kernel)) rfl
theorem wSE_X5_X5_queued : Cond.selects RX5 yX5_queued yX5_queued ∈ gTb := gm (List.mem_of_getElem? (i := 995) (by decide +kernel)) rfl
theorem wCO_X5_queued : Cond.code yX5_queued cX5_queued 4 (Option.some Jvm.ClassFile.FieldType.int) ∈ gTb := gm (List.mem_of_getElem? (i := 996) (by decide +kernel)) rfl
theorem wML_X5_231 : Cond.methodLink RX5 231 yX5_checkPlace ∈ gTb := gm (List.mem_of_getElem? (i := 997) (by decide +kernel)) rfl
theorem wST_X5_checkPlace : Cond.static yX5_checkPlace ∈ gTb := gm (List.mem_of_getElem? (i := 998) (by decide +kernel)) rfl
theorem wCO_X5_checkPlace : Cond.code yX5_checkPlace cX5_checkPlace 1 none ∈ gTb := gm (List.mem_of_getElem? (i := 999) (by decide +kernel)) rfl
theorem wx_stringRef_1000 : Cond.stringRef RX5 297 "no such place" ∈ lw_tbl := List.mem_of_getElem? (i := 1000) (by decide +kernel)
theorem wML_L_104 : Cond.methodLink RL 104 yX5_money ∈ gTb := gm (List.mem_of_getElem? (i := 1001) (by decide +kernel)) rfl
theorem wIM_X5_money : Cond.instanceMethod yX5_money ∈ gTb := gm (List.mem_of_getElem? (i := 1002) (by decide +kernel)) rfl
theorem wSE_X5_X5_money : Cond.selects RX5 yX5_money yX5_money ∈ gTb := gm (List.mem_of_getElem? (i := 1003) (by decide +kernel)) rfl
theorem wCO_X5_money : Cond.code yX5_money cX5_money 2 (Option.some Jvm.ClassFile.FieldType.int) ∈ gTb := gm (List.mem_of_getElem? (i := 1004) (by decide +kernel)) rfl
theorem wML_L_107 : Cond.methodLink RL 107 yX5_moneyBySeen ∈ gTb := gm (List.mem_of_getElem? (i := 1005) (by decide +kernel)) rfl
theorem wIM_X5_moneyBySeen : Cond.instanceMethod yX5_moneyBySeen ∈ gTb := gm (List.mem_of_getElem? (i := 1006) (by decide +kernel)) rfl
theorem wSE_X5_X5_moneyBySeen : Cond.selects RX5 yX5_moneyBySeen yX5_moneyBySeen ∈ gTb := gm (List.mem_of_getElem? (i := 1007) (by decide +kernel)) rfl
theorem wCO_X5_moneyBySeen : Cond.code yX5_moneyBySeen cX5_moneyBySeen 3 (Option.some Jvm.ClassFile.FieldType.int) ∈ gTb := gm (List.mem_of_getElem? (i := 1008) (by decide +kernel)) rfl
theorem wML_X5_271 : Cond.methodLink RX5 271 yX5_broughtByTickets ∈ gTb := gm (List.mem_of_getElem? (i := 1009) (by decide +kernel)) rfl
theorem wIM_X5_broughtByTickets : Cond.instanceMethod yX5_broughtByTickets ∈ gTb := gm (List.mem_of_getElem? (i := 1011) (by decide +kernel)) rfl
theorem wCO_X5_broughtByTickets : Cond.code yX5_broughtByTickets cX5_broughtByTickets 5 (Option.some Jvm.ClassFile.FieldType.int) ∈ gTb := gm (List.mem_of_getElem? (i := 1012) (by decide +kernel)) rfl
theorem wML_X5_275 : Cond.methodLink RX5 275 yX5_broughtByMemberships ∈ gTb := gm (List.mem_of_getElem? (i := 1013) (by decide +kernel)) rfl
theorem wIM_X5_broughtByMemberships : Cond.instanceMethod yX5_broughtByMemberships ∈ gTb := gm (List.mem_of_getElem? (i := 1015) (by decide +kernel)) rfl
theorem wCO_X5_broughtByMemberships : Cond.code yX5_broughtByMemberships cX5_broughtByMemberships 6 (Option.some Jvm.ClassFile.FieldType.int) ∈ gTb := gm (List.mem_of_getElem? (i := 1016) (by decide +kernel)) rfl
theorem wML_X5_352 : Cond.methodLink RX5 352 yX0_daysEnded ∈ gTb := gm (List.mem_of_getElem? (i := 1017) (by decide +kernel)) rfl
theorem wIM_X0_daysEnded : Cond.instanceMethod yX0_daysEnded ∈ gTb := gm (List.mem_of_getElem? (i := 1018) (by decide +kernel)) rfl
theorem wSE_X0_X0_daysEnded : Cond.selects RX0 yX0_daysEnded yX0_daysEnded ∈ gTb := gm (List.mem_of_getElem? (i := 1019) (by decide +kernel)) rfl
theorem wCO_X0_daysEnded : Cond.code yX0_daysEnded cX0_daysEnded 2 (Option.some Jvm.ClassFile.FieldType.int) ∈ gTb := gm (List.mem_of_getElem? (i := 1020) (by decide +kernel)) rfl
theorem wML_X0_22 : Cond.methodLink RX0 22 yX0_daysLeft ∈ gTb := gm (List.mem_of_getElem? (i := 1021) (by decide +kernel)) rfl
theorem wIM_X0_daysLeft : Cond.instanceMethod yX0_daysLeft ∈ gTb := gm (List.mem_of_getElem? (i := 1022) (by decide +kernel)) rfl
theorem wSE_X0_X0_daysLeft : Cond.selects RX0 yX0_daysLeft yX0_daysLeft ∈ gTb := gm (List.mem_of_getElem? (i := 1023) (by decide +kernel)) rfl
theorem wCO_X0_daysLeft : Cond.code yX0_daysLeft cX0_daysLeft 2 (Option.some Jvm.ClassFile.FieldType.int) ∈ gTb := gm (List.mem_of_getElem? (i := 1024) (by decide +kernel)) rfl
theorem wML_X0_15 : Cond.methodLink RX0 15 yX0_belongs ∈ gTb := gm (List.mem_of_getElem? (i := 1025) (by decide +kernel)) rfl
theorem wML_L_110 : Cond.methodLink RL 110 yX5_views ∈ gTb := gm (List.mem_of_getElem? (i := 1026) (by decide +kernel)) rfl
theorem wIM_X5_views : Cond.instanceMethod yX5_views ∈ gTb := gm (List.mem_of_getElem? (i := 1027) (by decide +kernel)) rfl
theorem wSE_X5_X5_views : Cond.selects RX5 yX5_views yX5_views ∈ gTb := gm (List.mem_of_getElem? (i := 1028) (by decide +kernel)) rfl
theorem wCO_X5_views : Cond.code yX5_views cX5_views 2 (Option.some Jvm.ClassFile.FieldType.int) ∈ gTb := gm (List.mem_of_getElem? (i := 1029) (by decide +kernel)) rfl
theorem wML_L_113 : Cond.methodLink RL 113 yL_isTitle ∈ gTb := gm (List.mem_of_getElem? (i := 1030) (by decide +kernel)) rfl
theorem wST_L_isTitle : Cond.static yL_isTitle ∈ gTb := gm (List.mem_of_getElem? (i := 1031) (by decide +kernel)) rfl
theorem wCO_L_isTitle : Cond.code yL_isTitle cL_isTitle 9 (Option.some Jvm.ClassFile.FieldType.boolean) ∈ gTb := gm (List.mem_of_getElem? (i := 1032) (by decide +kernel)) rfl
theorem wML_L_78 : Cond.methodLink RL 78 yX5_titleAt ∈ gTb := gm (List.mem_of_getElem? (i := 1033) (by decide +kernel)) rfl
theorem wIM_X5_titleAt : Cond.instanceMethod yX5_titleAt ∈ gTb := gm (List.mem_of_getElem? (i := 1034) (by decide +kernel)) rfl
theorem wSE_X5_X5_titleAt : Cond.selects RX5 yX5_titleAt yX5_titleAt ∈ gTb := gm (List.mem_of_getElem? (i := 1035) (by decide +kernel)) rfl
theorem wCO_X5_titleAt : Cond.code yX5_titleAt cX5_titleAt 5 (Option.some Jvm.ClassFile.FieldType.int) ∈ gTb := gm (List.mem_of_getElem? (i := 1036) (by decide +kernel)) rfl
theorem wCL_X5_242 : Cond.classLink RX5 242 RJ4 ∈ gTb := gm (List.mem_of_getElem? (i := 1037) (by decide +kernel)) rfl
theorem wML_X5_244 : Cond.methodLink RX5 244 yJ4_init_da8c8 ∈ gTb := gm (List.mem_of_getElem? (i := 1038) (by decide +kernel)) rfl
theorem wML_X5_245 : Cond.methodLink RX5 245 yJ4_append_cf468 ∈ gTb := gm (List.mem_of_getElem? (i := 1039) (by decide +kernel)) rfl
theorem wIM_J4_append_cf468 : Cond.instanceMethod yJ4_append_cf468 ∈ gTb := gm (List.mem_of_getElem? (i := 1040) (by decide +kernel)) rfl
theorem wSE_J4_J4_append_cf468 : Cond.selects RJ4 yJ4_append_cf468 yJ4_append_cf468 ∈ gTb := gm (List.mem_of_getElem? (i := 1041) (by decide +kernel)) rfl
theorem wCO_J4_append_cf468 : Cond.code yJ4_append_cf468 cJ4_append_cf468 2 (Option.some (Jvm.ClassFile.FieldType.object "java/lang/StringBuilder")) ∈ gTb := gm (List.mem_of_getElem? (i := 1042) (by decide +kernel)) rfl
theorem wML_J4_50 : Cond.methodLink RJ4 50 yJ5_append_3fe6f ∈ gTb := gm (List.mem_of_getElem? (i := 1043) (by decide +kernel)) rfl
theorem wIM_J5_append_3fe6f : Cond.instanceMethod yJ5_append_3fe6f ∈ gTb := gm (List.mem_of_getElem? (i := 1044) (by decide +kernel)) rfl
theorem wCO_J5_append_3fe6f : Cond.code yJ5_append_3fe6f cJ5_append_3fe6f 2 (Option.some (Jvm.ClassFile.FieldType.object "java/lang/AbstractStringBuilder")) ∈ gTb := gm (List.mem_of_getElem? (i := 1045) (by decide +kernel)) rfl
theorem wML_J5_191 : Cond.methodLink RJ5 191 yJ1_canEncode_fc78d ∈ gTb := gm (List.mem_of_getElem? (i := 1046) (by decide +kernel)) rfl
theorem wST_J1_canEncode_fc78d : Cond.static yJ1_canEncode_fc78d ∈ gTb := gm (List.mem_of_getElem? (i := 1047) (by decide +kernel)) rfl
theorem wCO_J1_canEncode_fc78d : Cond.code yJ1_canEncode_fc78d cJ1_canEncode_fc78d 1 (Option.some Jvm.ClassFile.FieldType.boolean) ∈ gTb := gm (List.mem_of_getElem? (i := 1048) (by decide +kernel)) rfl
theorem wML_J5_197 : Cond.methodLink RJ5 197 yJ2_putCharSB_b72d1 ∈ gTb := gm (List.mem_of_getElem? (i := 1049) (by decide +kernel)) rfl
theorem wST_J2_putCharSB_b72d1 : Cond.static yJ2_putCharSB_b72d1 ∈ gTb := gm (List.mem_of_getElem? (i := 1050) (by decide +kernel)) rfl
theorem wCO_J2_putCharSB_b72d1 : Cond.code yJ2_putCharSB_b72d1 cJ2_putCharSB_b72d1 3 none ∈ gTb := gm (List.mem_of_getElem? (i := 1051) (by decide +kernel)) rfl
theorem wML_J2_67 : Cond.methodLink RJ2 67 yJ2_checkIndex_2214a ∈ gTb := gm (List.mem_of_getElem? (i := 1052) (by decide +kernel)) rfl
theorem wST_J2_checkIndex_2214a : Cond.static yJ2_checkIndex_2214a ∈ gTb := gm (List.mem_of_getElem? (i := 1053) (by decide +kernel)) rfl
theorem wCO_J2_checkIndex_2214a : Cond.code yJ2_checkIndex_2214a cJ2_checkIndex_2214a 2 none ∈ gTb := gm (List.mem_of_getElem? (i := 1054) (by decide +kernel)) rfl
theorem wML_J2_414 : Cond.methodLink RJ2 414 yJ0_checkIndex_df160 ∈ gTb := gm (List.mem_of_getElem? (i := 1055) (by decide +kernel)) rfl
theorem wST_J0_checkIndex_df160 : Cond.static yJ0_checkIndex_df160 ∈ gTb := gm (List.mem_of_getElem? (i := 1056) (by decide +kernel)) rfl
theorem wCO_J0_checkIndex_df160 : Cond.code yJ0_checkIndex_df160 cJ0_checkIndex_df160 2 none ∈ gTb := gm (List.mem_of_getElem? (i := 1057) (by decide +kernel)) rfl
theorem wML_J0_1059 : Cond.methodLink RJ0 1059 yJ3_checkIndex_8e157 ∈ gTb := gm (List.mem_of_getElem? (i := 1058) (by decide +kernel)) rfl
theorem wML_X5_249 : Cond.methodLink RX5 249 yJ4_append_bf812 ∈ gTb := gm (List.mem_of_getElem? (i := 1059) (by decide +kernel)) rfl
theorem wML_X5_252 : Cond.methodLink RX5 252 yJ4_length_8abf5 ∈ gTb := gm (List.mem_of_getElem? (i := 1060) (by decide +kernel)) rfl
theorem wML_X5_255 : Cond.methodLink RX5 255 yJ4_charAt_5068e ∈ gTb := gm (List.mem_of_getElem? (i := 1061) (by decide +kernel)) rfl
theorem wIM_J4_charAt_5068e : Cond.instanceMethod yJ4_charAt_5068e ∈ gTb := gm (List.mem_of_getElem? (i := 1062) (by decide +kernel)) rfl
theorem wSE_J4_J4_charAt_5068e : Cond.selects RJ4 yJ4_charAt_5068e yJ4_charAt_5068e ∈ gTb := gm (List.mem_of_getElem? (i := 1063) (by decide +kernel)) rfl
theorem wCO_J4_charAt_5068e : Cond.code yJ4_charAt_5068e cJ4_charAt_5068e 2 (Option.some Jvm.ClassFile.FieldType.char) ∈ gTb := gm (List.mem_of_getElem? (i := 1064) (by decide +kernel)) rfl
theorem wML_J4_329 : Cond.methodLink RJ4 329 yJ5_charAt_5068e ∈ gTb := gm (List.mem_of_getElem? (i := 1065) (by decide +kernel)) rfl
theorem wIM_J5_charAt_5068e : Cond.instanceMethod yJ5_charAt_5068e ∈ gTb := gm (List.mem_of_getElem? (i := 1066) (by decide +kernel)) rfl
theorem wCO_J5_charAt_5068e : Cond.code yJ5_charAt_5068e cJ5_charAt_5068e 5 (Option.some Jvm.ClassFile.FieldType.char) ∈ gTb := gm (List.mem_of_getElem? (i := 1067) (by decide +kernel)) rfl
theorem wML_J5_138 : Cond.methodLink RJ5 138 yJ9_min_7cf53 ∈ gTb := gm (List.mem_of_getElem? (i := 1068) (by decide +kernel)) rfl
theorem wML_J5_144 : Cond.methodLink RJ5 144 yJ0_checkIndex_df160 ∈ gTb := gm (List.mem_of_getElem? (i := 1069) (by decide +kernel)) rfl
theorem wML_J5_148 : Cond.methodLink RJ5 148 yJ2_getChar_3b067 ∈ gTb := gm (List.mem_of_getElem? (i := 1070) (by decide +kernel)) rfl
theorem wML_L_117 : Cond.methodLink RL 117 yX5_held ∈ gTb := gm (List.mem_of_getElem? (i := 1071) (by decide +kernel)) rfl
theorem wIM_X5_held : Cond.instanceMethod yX5_held ∈ gTb := gm (List.mem_of_getElem? (i := 1072) (by decide +kernel)) rfl
theorem wSE_X5_X5_held : Cond.selects RX5 yX5_held yX5_held ∈ gTb := gm (List.mem_of_getElem? (i := 1073) (by decide +kernel)) rfl
theorem wCO_X5_held : Cond.code yX5_held cX5_held 4 (Option.some Jvm.ClassFile.FieldType.int) ∈ gTb := gm (List.mem_of_getElem? (i := 1074) (by decide +kernel)) rfl
theorem wML_X5_281 : Cond.methodLink RX5 281 yX0_daysLeft ∈ gTb := gm (List.mem_of_getElem? (i := 1075) (by decide +kernel)) rfl
theorem wAC_int : Cond.arrayClass Jvm.ClassFile.FieldType.int ∈ gTb := gm (List.mem_of_getElem? (i := 1076) (by decide +kernel)) rfl
theorem wCN_L_125 : Cond.constant RL 125 (2147483647) ∈ gTb := gm (List.mem_of_getElem? (i := 1077) (by decide +kernel)) rfl
theorem wCN_L_126 : Cond.constant RL 126 (46021) ∈ gTb := gm (List.mem_of_getElem? (i := 1078) (by decide +kernel)) rfl
theorem wSM_J5_append_1080 : Cond.sameMethod RJ5 RJ5 "append" "(Ljava/lang/String;)Ljava/lang/AbstractStringBuilder;" ∈ gTb := gm (List.mem_of_getElem? (i := 1080) (by decide +kernel)) rfl
theorem wSM_J5_appendNull_1081 : Cond.sameMethod RJ5 RJ5 "appendNull" "()Ljava/lang/AbstractStringBuilder;" ∈ gTb := gm (List.mem_of_getElem? (i := 1081) (by decide +kernel)) rfl
theorem wSM_J5_ensureCapacityInternal_1082 : Cond.sameMethod RJ5 RJ5 "ensureCapacityInternal" "(I)V" ∈ gTb := gm (List.mem_of_getElem? (i := 1082) (by decide +kernel)) rfl
theorem wSM_J5_newCapacity_1083 : Cond.sameMethod RJ5 RJ5 "newCapacity" "(I)I" ∈ gTb := gm (List.mem_of_getElem? (i := 1083) (by decide +kernel)) rfl
theorem wSM_J5_putStringAt_1084 : Cond.sameMethod RJ5 RJ5 "putStringAt" "(ILjava/lang/String;)V" ∈ gTb := gm (List.mem_of_getElem? (i := 1084) (by decide +kernel)) rfl
theorem wSM_J5_inflateIfNeededFor_1085 : Cond.sameMethod RJ5 RJ5 "inflateIfNeededFor" "(Ljava/lang/String;)V" ∈ gTb := gm (List.mem_of_getElem? (i := 1085) (by decide +kernel)) rfl
theorem wSM_J5_inflate_1086 : Cond.sameMethod RJ5 RJ5 "inflate" "()V" ∈ gTb := gm (List.mem_of_getElem? (i := 1086) (by decide +kernel)) rfl
theorem wSM_J5_append_1087 : Cond.sameMethod RJ5 RJ5 "append" "(I)Ljava/lang/AbstractStringBuilder;" ∈ gTb := gm (List.mem_of_getElem? (i := 1087) (by decide +kernel)) rfl
theorem wSM_J5_append_1088 : Cond.sameMethod RJ5 RJ5 "append" "(C)Ljava/lang/AbstractStringBuilder;" ∈ gTb := gm (List.mem_of_getElem? (i := 1088) (by decide +kernel)) rfl
theorem wSE_J4_J4_length_8abf5 : Cond.selects RJ4 yJ4_length_8abf5 yJ4_length_8abf5 ∈ gTb := gm (List.mem_of_getElem? (i := 1089) (by decide +kernel)) rfl
theorem wSM_J5_charAt_1090 : Cond.sameMethod RJ5 RJ5 "charAt" "(I)C" ∈ gTb := gm (List.mem_of_getElem? (i := 1090) (by decide +kernel)) rfl
theorem wx_castable_1091 : Cond.castable RX3 "java/lang/Object" ∈ lw_tbl := List.mem_of_getElem? (i := 1091) (by decide +kernel)
theorem wx_castable_1092 : Cond.castable RX1 "java/lang/Object" ∈ lw_tbl := List.mem_of_getElem? (i := 1092) (by decide +kernel)
theorem wx_castable_1093 : Cond.castable RX0 "java/lang/Object" ∈ lw_tbl := List.mem_of_getElem? (i := 1093) (by decide +kernel)
theorem wx_castable_1094 : Cond.castable RX5 "java/lang/Object" ∈ lw_tbl := List.mem_of_getElem? (i := 1094) (by decide +kernel)
theorem wx_castable_1095 : Cond.castable RJx4a65c "java/lang/Object" ∈ lw_tbl := List.mem_of_getElem? (i := 1095) (by decide +kernel)
theorem wx_castable_1096 : Cond.castable "java/lang/IndexOutOfBoundsException" "java/lang/Object" ∈ lw_tbl := List.mem_of_getElem? (i := 1096) (by decide +kernel)
theorem wx_castable_1097 : Cond.castable RJ4 "java/lang/Object" ∈ lw_tbl := List.mem_of_getElem? (i := 1097) (by decide +kernel)
theorem wx_castable_1098 : Cond.castable "java/lang/IllegalStateException" "java/lang/Object" ∈ lw_tbl := List.mem_of_getElem? (i := 1098) (by decide +kernel)
theorem wx_castable_1099 : Cond.castable RX2 "java/lang/Object" ∈ lw_tbl := List.mem_of_getElem? (i := 1099) (by decide +kernel)
theorem wx_castable_1100 : Cond.castable RJ0 "java/lang/Object" ∈ lw_tbl := List.mem_of_getElem? (i := 1100) (by decide +kernel)
theorem wx_castable_1101 : Cond.castable "java/lang/IllegalArgumentException" "java/lang/Object" ∈ lw_tbl := List.mem_of_getElem? (i := 1101) (by decide +kernel)
theorem wx_castable_1102 : Cond.castable RX4 "java/lang/Object" ∈ lw_tbl := List.mem_of_getElem? (i := 1102) (by decide +kernel)
theorem wx_castable_1103 : Cond.castable "java/lang/Throwable" "java/lang/Object" ∈ lw_tbl := List.mem_of_getElem? (i := 1103) (by decide +kernel)
theorem wx_declares_1106 : Cond.declares ⟨"java/lang/Object", "getClass", "()Ljava/lang/Class;"⟩ ∈ lw_tbl := List.mem_of_getElem? (i := 1106) (by decide +kernel)
theorem wx_castable_1107 : Cond.castable "[LMuseumTill$Till;" "java/lang/Object" ∈ lw_tbl := List.mem_of_getElem? (i := 1107) (by decide +kernel)
theorem wx_castable_1108 : Cond.castable "[LMuseumTill$Room;" "java/lang/Object" ∈ lw_tbl := List.mem_of_getElem? (i := 1108) (by decide +kernel)
theorem wx_castable_1109 : Cond.castable "[LMuseumTill$Member;" "java/lang/Object" ∈ lw_tbl := List.mem_of_getElem? (i := 1109) (by decide +kernel)
theorem wx_castable_1110 : Cond.castable "[B" "java/lang/Object" ∈ lw_tbl := List.mem_of_getElem? (i := 1110) (by decide +kernel)
theorem wx_castable_1111 : Cond.castable "[Ljava/lang/Object;" "java/lang/Object" ∈ lw_tbl := List.mem_of_getElem? (i := 1111) (by decide +kernel)
theorem wx_castable_1112 : Cond.castable "[I" "java/lang/Object" ∈ lw_tbl := List.mem_of_getElem? (i := 1112) (by decide +kernel)
theorem inG_X0 : ∀ w ∈ u_ws RX0 TX0 2, w ∈ gTb := fun w h => gm ((by decide +kernel : ∀ w ∈ u_ws RX0 TX0 2, w ∈ lw_tbl) w h) ((by decide +kernel : ∀ w ∈ u_ws RX0 TX0 2, goodWord w = true) w h)
theorem inG_X1 : ∀ w ∈ u_ws RX1 TX1 6, w ∈ gTb := fun w h => gm ((by decide +kernel : ∀ w ∈ u_ws RX1 TX1 6, w ∈ lw_tbl) w h) ((by decide +kernel : ∀ w ∈ u_ws RX1 TX1 6, goodWord w = true) w h)
theorem inG_X2 : ∀ w ∈ u_ws RX2 TX2 9, w ∈ gTb := fun w h => gm ((by decide +kernel : ∀ w ∈ u_ws RX2 TX2 9, w ∈ lw_tbl) w h) ((by decide +kernel : ∀ w ∈ u_ws RX2 TX2 9, goodWord w = true) w h)
theorem inG_X3 : ∀ w ∈ u_ws RX3 TX3 5, w ∈ gTb := fun w h => gm ((by decide +kernel : ∀ w ∈ u_ws RX3 TX3 5, w ∈ lw_tbl) w h) ((by decide +kernel : ∀ w ∈ u_ws RX3 TX3 5, goodWord w = true) w h)
theorem inG_X4 : ∀ w ∈ u_ws RX4 TX4 8, w ∈ gTb := fun w h => gm ((by decide +kernel : ∀ w ∈ u_ws RX4 TX4 8, w ∈ lw_tbl) w h) ((by decide +kernel : ∀ w ∈ u_ws RX4 TX4 8, goodWord w = true) w h)
theorem inG_X5 : ∀ w ∈ u_ws RX5 TX5 8, w ∈ gTb := fun w h => gm ((by decide +kernel : ∀ w ∈ u_ws RX5 TX5 8, w ∈ lw_tbl) w h) ((by decide +kernel : ∀ w ∈ u_ws RX5 TX5 8, goodWord w = true) w h)
theorem inG_J4 : ∀ w ∈ u_ws RJ4 TJ4 4, w ∈ gTb := fun w h => gm ((by decide +kernel : ∀ w ∈ u_ws RJ4 TJ4 4, w ∈ lw_tbl) w h) ((by decide +kernel : ∀ w ∈ u_ws RJ4 TJ4 4, goodWord w = true) w h)
theorem inG_Jx4a65c : ∀ w ∈ u_ws RJx4a65c TJx4a65c 3, w ∈ gTb := fun w h => gm ((by decide +kernel : ∀ w ∈ u_ws RJx4a65c TJx4a65c 3, w ∈ lw_tbl) w h) ((by decide +kernel : ∀ w ∈ u_ws RJx4a65c TJx4a65c 3, goodWord w = true) w h)
