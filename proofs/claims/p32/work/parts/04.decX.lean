theorem dX0_init_0 : decode cX0_init 0 = .ok (.aload_n 0, 1) := by decide +kernel
theorem dX0_init_1 : decode cX0_init 1 = .ok (.invokespecial 3, 3) := by decide +kernel
theorem dX0_init_4 : decode cX0_init 4 = .ok (.aload_n 0, 1) := by decide +kernel
theorem dX0_init_5 : decode cX0_init 5 = .ok (.iconst (-1), 1) := by decide +kernel
theorem dX0_init_6 : decode cX0_init 6 = .ok (.putfield 9, 3) := by decide +kernel
theorem dX0_init_9 : decode cX0_init 9 = .ok (.return_, 1) := by decide +kernel
theorem dX0_belongs_0 : decode cX0_belongs 0 = .ok (.aload_n 0, 1) := by decide +kernel
theorem dX0_belongs_1 : decode cX0_belongs 1 = .ok (.getfield 9, 3) := by decide +kernel
theorem dX0_belongs_4 : decode cX0_belongs 4 = .ok (.iload_n 1, 1) := by decide +kernel
theorem dX0_belongs_5 : decode cX0_belongs 5 = .ok (.if_icmp .lt 7, 3) := by decide +kernel
theorem dX0_belongs_8 : decode cX0_belongs 8 = .ok (.iconst 1, 1) := by decide +kernel
theorem dX0_belongs_9 : decode cX0_belongs 9 = .ok (.goto 4, 3) := by decide +kernel
theorem dX0_belongs_12 : decode cX0_belongs 12 = .ok (.iconst 0, 1) := by decide +kernel
theorem dX0_belongs_13 : decode cX0_belongs 13 = .ok (.ireturn, 1) := by decide +kernel
theorem dX0_daysLeft_0 : decode cX0_daysLeft 0 = .ok (.aload_n 0, 1) := by decide +kernel
theorem dX0_daysLeft_1 : decode cX0_daysLeft 1 = .ok (.iload_n 1, 1) := by decide +kernel
theorem dX0_daysLeft_2 : decode cX0_daysLeft 2 = .ok (.invokevirtual 15, 3) := by decide +kernel
theorem dX0_daysLeft_5 : decode cX0_daysLeft 5 = .ok (.ifCond .eq 14, 3) := by decide +kernel
theorem dX0_daysLeft_8 : decode cX0_daysLeft 8 = .ok (.aload_n 0, 1) := by decide +kernel
theorem dX0_daysLeft_9 : decode cX0_daysLeft 9 = .ok (.getfield 9, 3) := by decide +kernel
theorem dX0_daysLeft_12 : decode cX0_daysLeft 12 = .ok (.iload_n 1, 1) := by decide +kernel
theorem dX0_daysLeft_13 : decode cX0_daysLeft 13 = .ok (.isub, 1) := by decide +kernel
theorem dX0_daysLeft_14 : decode cX0_daysLeft 14 = .ok (.iconst 1, 1) := by decide +kernel
theorem dX0_daysLeft_15 : decode cX0_daysLeft 15 = .ok (.iadd, 1) := by decide +kernel
theorem dX0_daysLeft_16 : decode cX0_daysLeft 16 = .ok (.goto 4, 3) := by decide +kernel
theorem dX0_daysLeft_19 : decode cX0_daysLeft 19 = .ok (.iconst 0, 1) := by decide +kernel
theorem dX0_daysLeft_20 : decode cX0_daysLeft 20 = .ok (.ireturn, 1) := by decide +kernel
theorem dX0_daysEnded_0 : decode cX0_daysEnded 0 = .ok (.aload_n 0, 1) := by decide +kernel
theorem dX0_daysEnded_1 : decode cX0_daysEnded 1 = .ok (.getfield 19, 3) := by decide +kernel
theorem dX0_daysEnded_4 : decode cX0_daysEnded 4 = .ok (.bipush 30, 2) := by decide +kernel
theorem dX0_daysEnded_6 : decode cX0_daysEnded 6 = .ok (.imul, 1) := by decide +kernel
theorem dX0_daysEnded_7 : decode cX0_daysEnded 7 = .ok (.aload_n 0, 1) := by decide +kernel
theorem dX0_daysEnded_8 : decode cX0_daysEnded 8 = .ok (.iload_n 1, 1) := by decide +kernel
theorem dX0_daysEnded_9 : decode cX0_daysEnded 9 = .ok (.invokevirtual 22, 3) := by decide +kernel
theorem dX0_daysEnded_12 : decode cX0_daysEnded 12 = .ok (.isub, 1) := by decide +kernel
theorem dX0_daysEnded_13 : decode cX0_daysEnded 13 = .ok (.ireturn, 1) := by decide +kernel
theorem dX1_init_0 : decode cX1_init 0 = .ok (.aload_n 0, 1) := by decide +kernel
theorem dX1_init_1 : decode cX1_init 1 = .ok (.invokespecial 3, 3) := by decide +kernel
theorem dX1_init_4 : decode cX1_init 4 = .ok (.aload_n 0, 1) := by decide +kernel
theorem dX1_init_5 : decode cX1_init 5 = .ok (.iconst 3, 1) := by decide +kernel
theorem dX1_init_6 : decode cX1_init 6 = .ok (.putfield 9, 3) := by decide +kernel
theorem dX1_init_9 : decode cX1_init 9 = .ok (.aload_n 0, 1) := by decide +kernel
theorem dX1_init_10 : decode cX1_init 10 = .ok (.new 15, 3) := by decide +kernel
theorem dX1_init_13 : decode cX1_init 13 = .ok (.dup, 1) := by decide +kernel
theorem dX1_init_14 : decode cX1_init 14 = .ok (.invokespecial 17, 3) := by decide +kernel
theorem dX1_init_17 : decode cX1_init 17 = .ok (.putfield 18, 3) := by decide +kernel
theorem dX1_init_20 : decode cX1_init 20 = .ok (.aload_n 0, 1) := by decide +kernel
theorem dX1_init_21 : decode cX1_init 21 = .ok (.iload_n 1, 1) := by decide +kernel
theorem dX1_init_22 : decode cX1_init 22 = .ok (.putfield 22, 3) := by decide +kernel
theorem dX1_init_25 : decode cX1_init 25 = .ok (.aload_n 0, 1) := by decide +kernel
theorem dX1_init_26 : decode cX1_init 26 = .ok (.iload_n 1, 1) := by decide +kernel
theorem dX1_init_27 : decode cX1_init 27 = .ok (.iconst 3, 1) := by decide +kernel
theorem dX1_init_28 : decode cX1_init 28 = .ok (.idiv, 1) := by decide +kernel
theorem dX1_init_29 : decode cX1_init 29 = .ok (.putfield 25, 3) := by decide +kernel
theorem dX1_init_32 : decode cX1_init 32 = .ok (.return_, 1) := by decide +kernel
theorem dX1_queueUp_0 : decode cX1_queueUp 0 = .ok (.aload_n 1, 1) := by decide +kernel
theorem dX1_queueUp_1 : decode cX1_queueUp 1 = .ok (.aload_n 0, 1) := by decide +kernel
theorem dX1_queueUp_2 : decode cX1_queueUp 2 = .ok (.getfield 22, 3) := by decide +kernel
theorem dX1_queueUp_5 : decode cX1_queueUp 5 = .ok (.putfield 28, 3) := by decide +kernel
theorem dX1_queueUp_8 : decode cX1_queueUp 8 = .ok (.aload_n 1, 1) := by decide +kernel
theorem dX1_queueUp_9 : decode cX1_queueUp 9 = .ok (.iconst 1, 1) := by decide +kernel
theorem dX1_queueUp_10 : decode cX1_queueUp 10 = .ok (.putfield 33, 3) := by decide +kernel
theorem dX1_queueUp_13 : decode cX1_queueUp 13 = .ok (.aload_n 1, 1) := by decide +kernel
theorem dX1_queueUp_14 : decode cX1_queueUp 14 = .ok (.getfield 37, 3) := by decide +kernel
theorem dX1_queueUp_17 : decode cX1_queueUp 17 = .ok (.iconst 2, 1) := by decide +kernel
theorem dX1_queueUp_18 : decode cX1_queueUp 18 = .ok (.if_icmp .ne 18, 3) := by decide +kernel
theorem dX1_queueUp_21 : decode cX1_queueUp 21 = .ok (.aload_n 0, 1) := by decide +kernel
theorem dX1_queueUp_22 : decode cX1_queueUp 22 = .ok (.getfield 18, 3) := by decide +kernel
theorem dX1_queueUp_25 : decode cX1_queueUp 25 = .ok (.aload_n 0, 1) := by decide +kernel
theorem dX1_queueUp_26 : decode cX1_queueUp 26 = .ok (.invokevirtual 40, 3) := by decide +kernel
theorem dX1_queueUp_29 : decode cX1_queueUp 29 = .ok (.aload_n 1, 1) := by decide +kernel
theorem dX1_queueUp_30 : decode cX1_queueUp 30 = .ok (.invokevirtual 44, 3) := by decide +kernel
theorem dX1_queueUp_33 : decode cX1_queueUp 33 = .ok (.goto 12, 3) := by decide +kernel
theorem dX1_queueUp_36 : decode cX1_queueUp 36 = .ok (.aload_n 0, 1) := by decide +kernel
theorem dX1_queueUp_37 : decode cX1_queueUp 37 = .ok (.getfield 18, 3) := by decide +kernel
theorem dX1_queueUp_40 : decode cX1_queueUp 40 = .ok (.aload_n 1, 1) := by decide +kernel
theorem dX1_queueUp_41 : decode cX1_queueUp 41 = .ok (.invokevirtual 48, 3) := by decide +kernel
theorem dX1_queueUp_44 : decode cX1_queueUp 44 = .ok (.pop, 1) := by decide +kernel
theorem dX1_queueUp_45 : decode cX1_queueUp 45 = .ok (.return_, 1) := by decide +kernel
theorem dX1_waitingMembers_0 : decode cX1_waitingMembers 0 = .ok (.iconst 0, 1) := by decide +kernel
theorem dX1_waitingMembers_1 : decode cX1_waitingMembers 1 = .ok (.istore_n 1, 1) := by decide +kernel
theorem dX1_waitingMembers_2 : decode cX1_waitingMembers 2 = .ok (.iload_n 1, 1) := by decide +kernel
theorem dX1_waitingMembers_3 : decode cX1_waitingMembers 3 = .ok (.aload_n 0, 1) := by decide +kernel
theorem dX1_waitingMembers_4 : decode cX1_waitingMembers 4 = .ok (.getfield 18, 3) := by decide +kernel
theorem dX1_waitingMembers_7 : decode cX1_waitingMembers 7 = .ok (.invokevirtual 51, 3) := by decide +kernel
theorem dX1_waitingMembers_10 : decode cX1_waitingMembers 10 = .ok (.if_icmp .ge 27, 3) := by decide +kernel
theorem dX1_waitingMembers_13 : decode cX1_waitingMembers 13 = .ok (.aload_n 0, 1) := by decide +kernel
theorem dX1_waitingMembers_14 : decode cX1_waitingMembers 14 = .ok (.getfield 18, 3) := by decide +kernel
theorem dX1_waitingMembers_17 : decode cX1_waitingMembers 17 = .ok (.iload_n 1, 1) := by decide +kernel
theorem dX1_waitingMembers_18 : decode cX1_waitingMembers 18 = .ok (.invokevirtual 54, 3) := by decide +kernel
theorem dX1_waitingMembers_21 : decode cX1_waitingMembers 21 = .ok (.checkcast 29, 3) := by decide +kernel
theorem dX1_waitingMembers_24 : decode cX1_waitingMembers 24 = .ok (.getfield 37, 3) := by decide +kernel
theorem dX1_waitingMembers_27 : decode cX1_waitingMembers 27 = .ok (.iconst 2, 1) := by decide +kernel
theorem dX1_waitingMembers_28 : decode cX1_waitingMembers 28 = .ok (.if_icmp .ne 9, 3) := by decide +kernel
theorem dX1_waitingMembers_31 : decode cX1_waitingMembers 31 = .ok (.iinc 1 1, 3) := by decide +kernel
theorem dX1_waitingMembers_34 : decode cX1_waitingMembers 34 = .ok (.goto (-32), 3) := by decide +kernel
theorem dX1_waitingMembers_37 : decode cX1_waitingMembers 37 = .ok (.iload_n 1, 1) := by decide +kernel
theorem dX1_waitingMembers_38 : decode cX1_waitingMembers 38 = .ok (.ireturn, 1) := by decide +kernel
theorem dX1_leaveQueue_0 : decode cX1_leaveQueue 0 = .ok (.iconst 0, 1) := by decide +kernel
theorem dX1_leaveQueue_1 : decode cX1_leaveQueue 1 = .ok (.istore_n 2, 1) := by decide +kernel
theorem dX1_leaveQueue_2 : decode cX1_leaveQueue 2 = .ok (.iload_n 2, 1) := by decide +kernel
theorem dX1_leaveQueue_3 : decode cX1_leaveQueue 3 = .ok (.aload_n 0, 1) := by decide +kernel
theorem dX1_leaveQueue_4 : decode cX1_leaveQueue 4 = .ok (.getfield 18, 3) := by decide +kernel
theorem dX1_leaveQueue_7 : decode cX1_leaveQueue 7 = .ok (.invokevirtual 51, 3) := by decide +kernel
theorem dX1_leaveQueue_10 : decode cX1_leaveQueue 10 = .ok (.if_icmp .ge 31, 3) := by decide +kernel
theorem dX1_leaveQueue_13 : decode cX1_leaveQueue 13 = .ok (.aload_n 0, 1) := by decide +kernel
theorem dX1_leaveQueue_14 : decode cX1_leaveQueue 14 = .ok (.getfield 18, 3) := by decide +kernel
theorem dX1_leaveQueue_17 : decode cX1_leaveQueue 17 = .ok (.iload_n 2, 1) := by decide +kernel
theorem dX1_leaveQueue_18 : decode cX1_leaveQueue 18 = .ok (.invokevirtual 54, 3) := by decide +kernel
theorem dX1_leaveQueue_21 : decode cX1_leaveQueue 21 = .ok (.aload_n 1, 1) := by decide +kernel
theorem dX1_leaveQueue_22 : decode cX1_leaveQueue 22 = .ok (.if_acmp .ne 13, 3) := by decide +kernel
theorem dX1_leaveQueue_25 : decode cX1_leaveQueue 25 = .ok (.aload_n 0, 1) := by decide +kernel
theorem dX1_leaveQueue_26 : decode cX1_leaveQueue 26 = .ok (.getfield 18, 3) := by decide +kernel
theorem dX1_leaveQueue_29 : decode cX1_leaveQueue 29 = .ok (.iload_n 2, 1) := by decide +kernel
theorem dX1_leaveQueue_30 : decode cX1_leaveQueue 30 = .ok (.invokevirtual 58, 3) := by decide +kernel
theorem dX1_leaveQueue_33 : decode cX1_leaveQueue 33 = .ok (.pop, 1) := by decide +kernel
theorem dX1_leaveQueue_34 : decode cX1_leaveQueue 34 = .ok (.return_, 1) := by decide +kernel
theorem dX1_leaveQueue_35 : decode cX1_leaveQueue 35 = .ok (.iinc 2 1, 3) := by decide +kernel
theorem dX1_leaveQueue_38 : decode cX1_leaveQueue 38 = .ok (.goto (-36), 3) := by decide +kernel
theorem dX1_leaveQueue_41 : decode cX1_leaveQueue 41 = .ok (.return_, 1) := by decide +kernel
theorem dX2_init_0 : decode cX2_init 0 = .ok (.aload_n 0, 1) := by decide +kernel
theorem dX2_init_1 : decode cX2_init 1 = .ok (.invokespecial 3, 3) := by decide +kernel
theorem dX2_init_4 : decode cX2_init 4 = .ok (.aload_n 0, 1) := by decide +kernel
theorem dX2_init_5 : decode cX2_init 5 = .ok (.iconst (-1), 1) := by decide +kernel
theorem dX2_init_6 : decode cX2_init 6 = .ok (.putfield 9, 3) := by decide +kernel
theorem dX2_init_9 : decode cX2_init 9 = .ok (.aload_n 0, 1) := by decide +kernel
theorem dX2_init_10 : decode cX2_init 10 = .ok (.iload_n 1, 1) := by decide +kernel
theorem dX2_init_11 : decode cX2_init 11 = .ok (.putfield 15, 3) := by decide +kernel
theorem dX2_init_14 : decode cX2_init 14 = .ok (.aload_n 0, 1) := by decide +kernel
theorem dX2_init_15 : decode cX2_init 15 = .ok (.iload_n 2, 1) := by decide +kernel
theorem dX2_init_16 : decode cX2_init 16 = .ok (.putfield 18, 3) := by decide +kernel
theorem dX2_init_19 : decode cX2_init 19 = .ok (.aload_n 0, 1) := by decide +kernel
theorem dX2_init_20 : decode cX2_init 20 = .ok (.iload_n 3, 1) := by decide +kernel
theorem dX2_init_21 : decode cX2_init 21 = .ok (.putfield 21, 3) := by decide +kernel
theorem dX2_init_24 : decode cX2_init 24 = .ok (.aload_n 0, 1) := by decide +kernel
theorem dX2_init_25 : decode cX2_init 25 = .ok (.iload 4, 2) := by decide +kernel
theorem dX2_init_27 : decode cX2_init 27 = .ok (.putfield 24, 3) := by decide +kernel
theorem dX2_init_30 : decode cX2_init 30 = .ok (.aload_n 0, 1) := by decide +kernel
theorem dX2_init_31 : decode cX2_init 31 = .ok (.iload 5, 2) := by decide +kernel
theorem dX2_init_33 : decode cX2_init 33 = .ok (.putfield 27, 3) := by decide +kernel
theorem dX2_init_36 : decode cX2_init 36 = .ok (.return_, 1) := by decide +kernel
theorem dX2_isFor_0 : decode cX2_isFor 0 = .ok (.aload_n 0, 1) := by decide +kernel
theorem dX2_isFor_1 : decode cX2_isFor 1 = .ok (.getfield 21, 3) := by decide +kernel
theorem dX2_isFor_4 : decode cX2_isFor 4 = .ok (.iconst (-1), 1) := by decide +kernel
theorem dX2_isFor_5 : decode cX2_isFor 5 = .ok (.if_icmp .eq 11, 3) := by decide +kernel
theorem dX2_isFor_8 : decode cX2_isFor 8 = .ok (.aload_n 0, 1) := by decide +kernel
theorem dX2_isFor_9 : decode cX2_isFor 9 = .ok (.getfield 21, 3) := by decide +kernel
theorem dX2_isFor_12 : decode cX2_isFor 12 = .ok (.iload_n 1, 1) := by decide +kernel
theorem dX2_isFor_13 : decode cX2_isFor 13 = .ok (.if_icmp .ne 7, 3) := by decide +kernel
theorem dX2_isFor_16 : decode cX2_isFor 16 = .ok (.iconst 1, 1) := by decide +kernel
theorem dX2_isFor_17 : decode cX2_isFor 17 = .ok (.goto 4, 3) := by decide +kernel
theorem dX2_isFor_20 : decode cX2_isFor 20 = .ok (.iconst 0, 1) := by decide +kernel
theorem dX2_isFor_21 : decode cX2_isFor 21 = .ok (.ireturn, 1) := by decide +kernel
theorem dX2_isOfMember_0 : decode cX2_isOfMember 0 = .ok (.aload_n 0, 1) := by decide +kernel
theorem dX2_isOfMember_1 : decode cX2_isOfMember 1 = .ok (.getfield 30, 3) := by decide +kernel
theorem dX2_isOfMember_4 : decode cX2_isOfMember 4 = .ok (.ifCond .ne 23, 3) := by decide +kernel
theorem dX2_isOfMember_7 : decode cX2_isOfMember 7 = .ok (.aload_n 0, 1) := by decide +kernel
theorem dX2_isOfMember_8 : decode cX2_isOfMember 8 = .ok (.getfield 18, 3) := by decide +kernel
theorem dX2_isOfMember_11 : decode cX2_isOfMember 11 = .ok (.iload_n 2, 1) := by decide +kernel
theorem dX2_isOfMember_12 : decode cX2_isOfMember 12 = .ok (.if_icmp .ne 15, 3) := by decide +kernel
theorem dX2_isOfMember_15 : decode cX2_isOfMember 15 = .ok (.aload_n 0, 1) := by decide +kernel
theorem dX2_isOfMember_16 : decode cX2_isOfMember 16 = .ok (.getfield 24, 3) := by decide +kernel
theorem dX2_isOfMember_19 : decode cX2_isOfMember 19 = .ok (.iload_n 1, 1) := by decide +kernel
theorem dX2_isOfMember_20 : decode cX2_isOfMember 20 = .ok (.if_icmp .ne 7, 3) := by decide +kernel
theorem dX2_isOfMember_23 : decode cX2_isOfMember 23 = .ok (.iconst 1, 1) := by decide +kernel
theorem dX2_isOfMember_24 : decode cX2_isOfMember 24 = .ok (.goto 4, 3) := by decide +kernel
theorem dX2_isOfMember_27 : decode cX2_isOfMember 27 = .ok (.iconst 0, 1) := by decide +kernel
theorem dX2_isOfMember_28 : decode cX2_isOfMember 28 = .ok (.ireturn, 1) := by decide +kernel
theorem dX2_leaveRoom_0 : decode cX2_leaveRoom 0 = .ok (.aload_n 0, 1) := by decide +kernel
theorem dX2_leaveRoom_1 : decode cX2_leaveRoom 1 = .ok (.iconst (-1), 1) := by decide +kernel
theorem dX2_leaveRoom_2 : decode cX2_leaveRoom 2 = .ok (.putfield 9, 3) := by decide +kernel
theorem dX2_leaveRoom_5 : decode cX2_leaveRoom 5 = .ok (.aload_n 0, 1) := by decide +kernel
theorem dX2_leaveRoom_6 : decode cX2_leaveRoom 6 = .ok (.iconst 0, 1) := by decide +kernel
theorem dX2_leaveRoom_7 : decode cX2_leaveRoom 7 = .ok (.putfield 34, 3) := by decide +kernel
theorem dX2_leaveRoom_10 : decode cX2_leaveRoom 10 = .ok (.return_, 1) := by decide +kernel
theorem dX3_init_0 : decode cX3_init 0 = .ok (.aload_n 0, 1) := by decide +kernel
theorem dX3_init_1 : decode cX3_init 1 = .ok (.invokespecial 1, 3) := by decide +kernel
theorem dX3_init_4 : decode cX3_init 4 = .ok (.aload_n 0, 1) := by decide +kernel
theorem dX3_init_5 : decode cX3_init 5 = .ok (.iload_n 1, 1) := by decide +kernel
theorem dX3_init_6 : decode cX3_init 6 = .ok (.putfield 7, 3) := by decide +kernel
theorem dX3_init_9 : decode cX3_init 9 = .ok (.return_, 1) := by decide +kernel
theorem dX3_bookFee_0 : decode cX3_bookFee 0 = .ok (.aload_n 0, 1) := by decide +kernel
theorem dX3_bookFee_1 : decode cX3_bookFee 1 = .ok (.dup, 1) := by decide +kernel
theorem dX3_bookFee_2 : decode cX3_bookFee 2 = .ok (.getfield 13, 3) := by decide +kernel
theorem dX3_bookFee_5 : decode cX3_bookFee 5 = .ok (.iload_n 1, 1) := by decide +kernel
theorem dX3_bookFee_6 : decode cX3_bookFee 6 = .ok (.iadd, 1) := by decide +kernel
theorem dX3_bookFee_7 : decode cX3_bookFee 7 = .ok (.putfield 13, 3) := by decide +kernel
theorem dX3_bookFee_10 : decode cX3_bookFee 10 = .ok (.aload_n 0, 1) := by decide +kernel
theorem dX3_bookFee_11 : decode cX3_bookFee 11 = .ok (.dup, 1) := by decide +kernel
theorem dX3_bookFee_12 : decode cX3_bookFee 12 = .ok (.getfield 16, 3) := by decide +kernel
theorem dX3_bookFee_15 : decode cX3_bookFee 15 = .ok (.iload_n 1, 1) := by decide +kernel
theorem dX3_bookFee_16 : decode cX3_bookFee 16 = .ok (.iadd, 1) := by decide +kernel
theorem dX3_bookFee_17 : decode cX3_bookFee 17 = .ok (.putfield 16, 3) := by decide +kernel
theorem dX3_bookFee_20 : decode cX3_bookFee 20 = .ok (.return_, 1) := by decide +kernel
theorem dX3_bookSale_0 : decode cX3_bookSale 0 = .ok (.aload_n 0, 1) := by decide +kernel
theorem dX3_bookSale_1 : decode cX3_bookSale 1 = .ok (.dup, 1) := by decide +kernel
theorem dX3_bookSale_2 : decode cX3_bookSale 2 = .ok (.getfield 19, 3) := by decide +kernel
theorem dX3_bookSale_5 : decode cX3_bookSale 5 = .ok (.iload_n 1, 1) := by decide +kernel
theorem dX3_bookSale_6 : decode cX3_bookSale 6 = .ok (.iadd, 1) := by decide +kernel
theorem dX3_bookSale_7 : decode cX3_bookSale 7 = .ok (.putfield 19, 3) := by decide +kernel
theorem dX3_bookSale_10 : decode cX3_bookSale 10 = .ok (.aload_n 0, 1) := by decide +kernel
theorem dX3_bookSale_11 : decode cX3_bookSale 11 = .ok (.dup, 1) := by decide +kernel
theorem dX3_bookSale_12 : decode cX3_bookSale 12 = .ok (.getfield 16, 3) := by decide +kernel
theorem dX3_bookSale_15 : decode cX3_bookSale 15 = .ok (.iload_n 1, 1) := by decide +kernel
theorem dX3_bookSale_16 : decode cX3_bookSale 16 = .ok (.iadd, 1) := by decide +kernel
theorem dX3_bookSale_17 : decode cX3_bookSale 17 = .ok (.putfield 16, 3) := by decide +kernel
theorem dX3_bookSale_20 : decode cX3_bookSale 20 = .ok (.return_, 1) := by decide +kernel
theorem dX3_bookGift_0 : decode cX3_bookGift 0 = .ok (.aload_n 0, 1) := by decide +kernel
theorem dX3_bookGift_1 : decode cX3_bookGift 1 = .ok (.dup, 1) := by decide +kernel
theorem dX3_bookGift_2 : decode cX3_bookGift 2 = .ok (.getfield 22, 3) := by decide +kernel
theorem dX3_bookGift_5 : decode cX3_bookGift 5 = .ok (.iload_n 1, 1) := by decide +kernel
theorem dX3_bookGift_6 : decode cX3_bookGift 6 = .ok (.iadd, 1) := by decide +kernel
theorem dX3_bookGift_7 : decode cX3_bookGift 7 = .ok (.putfield 22, 3) := by decide +kernel
theorem dX3_bookGift_10 : decode cX3_bookGift 10 = .ok (.aload_n 0, 1) := by decide +kernel
theorem dX3_bookGift_11 : decode cX3_bookGift 11 = .ok (.dup, 1) := by decide +kernel
theorem dX3_bookGift_12 : decode cX3_bookGift 12 = .ok (.getfield 16, 3) := by decide +kernel
theorem dX3_bookGift_15 : decode cX3_bookGift 15 = .ok (.iload_n 1, 1) := by decide +kernel
theorem dX3_bookGift_16 : decode cX3_bookGift 16 = .ok (.iadd, 1) := by decide +kernel
theorem dX3_bookGift_17 : decode cX3_bookGift 17 = .ok (.putfield 16, 3) := by decide +kernel
theorem dX3_bookGift_20 : decode cX3_bookGift 20 = .ok (.return_, 1) := by decide +kernel
theorem dX4_init_0 : decode cX4_init 0 = .ok (.aload_n 0, 1) := by decide +kernel
theorem dX4_init_1 : decode cX4_init 1 = .ok (.invokespecial 3, 3) := by decide +kernel
theorem dX4_init_4 : decode cX4_init 4 = .ok (.aload_n 0, 1) := by decide +kernel
theorem dX4_init_5 : decode cX4_init 5 = .ok (.bipush 20, 2) := by decide +kernel
theorem dX4_init_7 : decode cX4_init 7 = .ok (.putfield 9, 3) := by decide +kernel
theorem dX4_init_10 : decode cX4_init 10 = .ok (.aload_n 0, 1) := by decide +kernel
theorem dX4_init_11 : decode cX4_init 11 = .ok (.iload_n 1, 1) := by decide +kernel
theorem dX4_init_12 : decode cX4_init 12 = .ok (.putfield 15, 3) := by decide +kernel
theorem dX4_init_15 : decode cX4_init 15 = .ok (.aload_n 0, 1) := by decide +kernel
theorem dX4_init_16 : decode cX4_init 16 = .ok (.aload_n 2, 1) := by decide +kernel
theorem dX4_init_17 : decode cX4_init 17 = .ok (.getfield 18, 3) := by decide +kernel
theorem dX4_init_20 : decode cX4_init 20 = .ok (.putfield 23, 3) := by decide +kernel
theorem dX4_init_23 : decode cX4_init 23 = .ok (.aload_n 0, 1) := by decide +kernel
theorem dX4_init_24 : decode cX4_init 24 = .ok (.aload_n 2, 1) := by decide +kernel
theorem dX4_init_25 : decode cX4_init 25 = .ok (.getfield 24, 3) := by decide +kernel
theorem dX4_init_28 : decode cX4_init 28 = .ok (.putfield 25, 3) := by decide +kernel
theorem dX4_init_31 : decode cX4_init 31 = .ok (.return_, 1) := by decide +kernel
theorem dX5_init_0 : decode cX5_init 0 = .ok (.aload_n 0, 1) := by decide +kernel
theorem dX5_init_1 : decode cX5_init 1 = .ok (.invokespecial 3, 3) := by decide +kernel
theorem dX5_init_4 : decode cX5_init 4 = .ok (.aload_n 0, 1) := by decide +kernel
theorem dX5_init_5 : decode cX5_init 5 = .ok (.iconst 5, 1) := by decide +kernel
theorem dX5_init_6 : decode cX5_init 6 = .ok (.anewarray 9, 3) := by decide +kernel
theorem dX5_init_9 : decode cX5_init 9 = .ok (.putfield 11, 3) := by decide +kernel
theorem dX5_init_12 : decode cX5_init 12 = .ok (.aload_n 0, 1) := by decide +kernel
theorem dX5_init_13 : decode cX5_init 13 = .ok (.bipush 12, 2) := by decide +kernel
theorem dX5_init_15 : decode cX5_init 15 = .ok (.anewarray 15, 3) := by decide +kernel
theorem dX5_init_18 : decode cX5_init 18 = .ok (.putfield 17, 3) := by decide +kernel
theorem dX5_init_21 : decode cX5_init 21 = .ok (.aload_n 0, 1) := by decide +kernel
theorem dX5_init_22 : decode cX5_init 22 = .ok (.bipush 6, 2) := by decide +kernel
theorem dX5_init_24 : decode cX5_init 24 = .ok (.anewarray 21, 3) := by decide +kernel
theorem dX5_init_27 : decode cX5_init 27 = .ok (.putfield 23, 3) := by decide +kernel
theorem dX5_init_30 : decode cX5_init 30 = .ok (.aload_n 0, 1) := by decide +kernel
theorem dX5_init_31 : decode cX5_init 31 = .ok (.new 27, 3) := by decide +kernel
theorem dX5_init_34 : decode cX5_init 34 = .ok (.dup, 1) := by decide +kernel
theorem dX5_init_35 : decode cX5_init 35 = .ok (.invokespecial 29, 3) := by decide +kernel
theorem dX5_init_38 : decode cX5_init 38 = .ok (.putfield 30, 3) := by decide +kernel
theorem dX5_init_41 : decode cX5_init 41 = .ok (.aload_n 0, 1) := by decide +kernel
theorem dX5_init_42 : decode cX5_init 42 = .ok (.new 27, 3) := by decide +kernel
theorem dX5_init_45 : decode cX5_init 45 = .ok (.dup, 1) := by decide +kernel
theorem dX5_init_46 : decode cX5_init 46 = .ok (.invokespecial 29, 3) := by decide +kernel
theorem dX5_init_49 : decode cX5_init 49 = .ok (.putfield 34, 3) := by decide +kernel
theorem dX5_init_52 : decode cX5_init 52 = .ok (.iconst 0, 1) := by decide +kernel
theorem dX5_init_53 : decode cX5_init 53 = .ok (.istore_n 1, 1) := by decide +kernel
theorem dX5_init_54 : decode cX5_init 54 = .ok (.iload_n 1, 1) := by decide +kernel
theorem dX5_init_55 : decode cX5_init 55 = .ok (.aload_n 0, 1) := by decide +kernel
theorem dX5_init_56 : decode cX5_init 56 = .ok (.getfield 11, 3) := by decide +kernel
theorem dX5_init_59 : decode cX5_init 59 = .ok (.arraylength, 1) := by decide +kernel
theorem dX5_init_60 : decode cX5_init 60 = .ok (.if_icmp .ge 35, 3) := by decide +kernel
theorem dX5_init_63 : decode cX5_init 63 = .ok (.aload_n 0, 1) := by decide +kernel
theorem dX5_init_64 : decode cX5_init 64 = .ok (.getfield 11, 3) := by decide +kernel
theorem dX5_init_67 : decode cX5_init 67 = .ok (.iload_n 1, 1) := by decide +kernel
theorem dX5_init_68 : decode cX5_init 68 = .ok (.new 9, 3) := by decide +kernel
theorem dX5_init_71 : decode cX5_init 71 = .ok (.dup, 1) := by decide +kernel
theorem dX5_init_72 : decode cX5_init 72 = .ok (.iload_n 1, 1) := by decide +kernel
theorem dX5_init_73 : decode cX5_init 73 = .ok (.ifCond .ne 9, 3) := by decide +kernel
theorem dX5_init_76 : decode cX5_init 76 = .ok (.sipush 1500, 3) := by decide +kernel
theorem dX5_init_79 : decode cX5_init 79 = .ok (.goto 6, 3) := by decide +kernel
theorem dX5_init_82 : decode cX5_init 82 = .ok (.sipush 600, 3) := by decide +kernel
theorem dX5_init_85 : decode cX5_init 85 = .ok (.invokespecial 37, 3) := by decide +kernel
theorem dX5_init_88 : decode cX5_init 88 = .ok (.aastore, 1) := by decide +kernel
theorem dX5_init_89 : decode cX5_init 89 = .ok (.iinc 1 1, 3) := by decide +kernel
theorem dX5_init_92 : decode cX5_init 92 = .ok (.goto (-38), 3) := by decide +kernel
theorem dX5_init_95 : decode cX5_init 95 = .ok (.iconst 0, 1) := by decide +kernel
theorem dX5_init_96 : decode cX5_init 96 = .ok (.istore_n 1, 1) := by decide +kernel
theorem dX5_init_97 : decode cX5_init 97 = .ok (.iload_n 1, 1) := by decide +kernel
theorem dX5_init_98 : decode cX5_init 98 = .ok (.aload_n 0, 1) := by decide +kernel
theorem dX5_init_99 : decode cX5_init 99 = .ok (.getfield 17, 3) := by decide +kernel
theorem dX5_init_102 : decode cX5_init 102 = .ok (.arraylength, 1) := by decide +kernel
theorem dX5_init_103 : decode cX5_init 103 = .ok (.if_icmp .ge 23, 3) := by decide +kernel
theorem dX5_init_106 : decode cX5_init 106 = .ok (.aload_n 0, 1) := by decide +kernel
theorem dX5_init_107 : decode cX5_init 107 = .ok (.getfield 17, 3) := by decide +kernel
theorem dX5_init_110 : decode cX5_init 110 = .ok (.iload_n 1, 1) := by decide +kernel
theorem dX5_init_111 : decode cX5_init 111 = .ok (.new 15, 3) := by decide +kernel
theorem dX5_init_114 : decode cX5_init 114 = .ok (.dup, 1) := by decide +kernel
theorem dX5_init_115 : decode cX5_init 115 = .ok (.iload_n 1, 1) := by decide +kernel
theorem dX5_init_116 : decode cX5_init 116 = .ok (.invokespecial 40, 3) := by decide +kernel
theorem dX5_init_119 : decode cX5_init 119 = .ok (.aastore, 1) := by decide +kernel
theorem dX5_init_120 : decode cX5_init 120 = .ok (.iinc 1 1, 3) := by decide +kernel
theorem dX5_init_123 : decode cX5_init 123 = .ok (.goto (-26), 3) := by decide +kernel
theorem dX5_init_126 : decode cX5_init 126 = .ok (.iconst 0, 1) := by decide +kernel
theorem dX5_init_127 : decode cX5_init 127 = .ok (.istore_n 1, 1) := by decide +kernel
theorem dX5_init_128 : decode cX5_init 128 = .ok (.iload_n 1, 1) := by decide +kernel
theorem dX5_init_129 : decode cX5_init 129 = .ok (.aload_n 0, 1) := by decide +kernel
theorem dX5_init_130 : decode cX5_init 130 = .ok (.getfield 23, 3) := by decide +kernel
theorem dX5_init_133 : decode cX5_init 133 = .ok (.arraylength, 1) := by decide +kernel
theorem dX5_init_134 : decode cX5_init 134 = .ok (.if_icmp .ge 22, 3) := by decide +kernel
theorem dX5_init_137 : decode cX5_init 137 = .ok (.aload_n 0, 1) := by decide +kernel
theorem dX5_init_138 : decode cX5_init 138 = .ok (.getfield 23, 3) := by decide +kernel
theorem dX5_init_141 : decode cX5_init 141 = .ok (.iload_n 1, 1) := by decide +kernel
theorem dX5_init_142 : decode cX5_init 142 = .ok (.new 21, 3) := by decide +kernel
theorem dX5_init_145 : decode cX5_init 145 = .ok (.dup, 1) := by decide +kernel
theorem dX5_init_146 : decode cX5_init 146 = .ok (.invokespecial 41, 3) := by decide +kernel
theorem dX5_init_149 : decode cX5_init 149 = .ok (.aastore, 1) := by decide +kernel
theorem dX5_init_150 : decode cX5_init 150 = .ok (.iinc 1 1, 3) := by decide +kernel
theorem dX5_init_153 : decode cX5_init 153 = .ok (.goto (-25), 3) := by decide +kernel
theorem dX5_init_156 : decode cX5_init 156 = .ok (.return_, 1) := by decide +kernel
theorem dX5_setPrice_0 : decode cX5_setPrice 0 = .ok (.aload_n 0, 1) := by decide +kernel
theorem dX5_setPrice_1 : decode cX5_setPrice 1 = .ok (.iload_n 1, 1) := by decide +kernel
theorem dX5_setPrice_2 : decode cX5_setPrice 2 = .ok (.invokevirtual 42, 3) := by decide +kernel
theorem dX5_setPrice_5 : decode cX5_setPrice 5 = .ok (.astore_n 3, 1) := by decide +kernel
theorem dX5_setPrice_6 : decode cX5_setPrice 6 = .ok (.iload_n 2, 1) := by decide +kernel
theorem dX5_setPrice_7 : decode cX5_setPrice 7 = .ok (.iconst 0, 1) := by decide +kernel
theorem dX5_setPrice_8 : decode cX5_setPrice 8 = .ok (.sipush 10000, 3) := by decide +kernel
theorem dX5_setPrice_11 : decode cX5_setPrice 11 = .ok (.invokestatic 46, 3) := by decide +kernel
theorem dX5_setPrice_14 : decode cX5_setPrice 14 = .ok (.aload_n 3, 1) := by decide +kernel
theorem dX5_setPrice_15 : decode cX5_setPrice 15 = .ok (.getfield 50, 3) := by decide +kernel
theorem dX5_setPrice_18 : decode cX5_setPrice 18 = .ok (.istore 4, 2) := by decide +kernel
theorem dX5_setPrice_20 : decode cX5_setPrice 20 = .ok (.aload_n 3, 1) := by decide +kernel
theorem dX5_setPrice_21 : decode cX5_setPrice 21 = .ok (.iload_n 2, 1) := by decide +kernel
theorem dX5_setPrice_22 : decode cX5_setPrice 22 = .ok (.putfield 50, 3) := by decide +kernel
theorem dX5_setPrice_25 : decode cX5_setPrice 25 = .ok (.iload 4, 2) := by decide +kernel
theorem dX5_setPrice_27 : decode cX5_setPrice 27 = .ok (.ireturn, 1) := by decide +kernel
theorem dX5_buy_0 : decode cX5_buy 0 = .ok (.aload_n 0, 1) := by decide +kernel
theorem dX5_buy_1 : decode cX5_buy 1 = .ok (.iload_n 1, 1) := by decide +kernel
theorem dX5_buy_2 : decode cX5_buy 2 = .ok (.invokevirtual 42, 3) := by decide +kernel
theorem dX5_buy_5 : decode cX5_buy 5 = .ok (.astore_n 2, 1) := by decide +kernel
theorem dX5_buy_6 : decode cX5_buy 6 = .ok (.aload_n 0, 1) := by decide +kernel
theorem dX5_buy_7 : decode cX5_buy 7 = .ok (.invokevirtual 54, 3) := by decide +kernel
theorem dX5_buy_10 : decode cX5_buy 10 = .ok (.aload_n 0, 1) := by decide +kernel
theorem dX5_buy_11 : decode cX5_buy 11 = .ok (.iload_n 1, 1) := by decide +kernel
theorem dX5_buy_12 : decode cX5_buy 12 = .ok (.iconst (-1), 1) := by decide +kernel
theorem dX5_buy_13 : decode cX5_buy 13 = .ok (.if_icmp .ne 7, 3) := by decide +kernel
theorem dX5_buy_16 : decode cX5_buy 16 = .ok (.iconst 1, 1) := by decide +kernel
theorem dX5_buy_17 : decode cX5_buy 17 = .ok (.goto 4, 3) := by decide +kernel
theorem dX5_buy_20 : decode cX5_buy 20 = .ok (.iconst 0, 1) := by decide +kernel
theorem dX5_buy_21 : decode cX5_buy 21 = .ok (.iload_n 1, 1) := by decide +kernel
theorem dX5_buy_22 : decode cX5_buy 22 = .ok (.iconst (-1), 1) := by decide +kernel
theorem dX5_buy_23 : decode cX5_buy 23 = .ok (.aload_n 2, 1) := by decide +kernel
theorem dX5_buy_24 : decode cX5_buy 24 = .ok (.getfield 50, 3) := by decide +kernel
theorem dX5_buy_27 : decode cX5_buy 27 = .ok (.invokevirtual 57, 3) := by decide +kernel
theorem dX5_buy_30 : decode cX5_buy 30 = .ok (.ireturn, 1) := by decide +kernel
theorem dX5_admit_0 : decode cX5_admit 0 = .ok (.aload_n 0, 1) := by decide +kernel
theorem dX5_admit_1 : decode cX5_admit 1 = .ok (.iload_n 1, 1) := by decide +kernel
theorem dX5_admit_2 : decode cX5_admit 2 = .ok (.invokevirtual 61, 3) := by decide +kernel
theorem dX5_admit_5 : decode cX5_admit 5 = .ok (.aload_n 0, 1) := by decide +kernel
theorem dX5_admit_6 : decode cX5_admit 6 = .ok (.getfield 65, 3) := by decide +kernel
theorem dX5_admit_9 : decode cX5_admit 9 = .ok (.invokevirtual 68, 3) := by decide +kernel
theorem dX5_admit_12 : decode cX5_admit 12 = .ok (.ifCond .ne 13, 3) := by decide +kernel
theorem dX5_admit_15 : decode cX5_admit 15 = .ok (.new 72, 3) := by decide +kernel
theorem dX5_admit_18 : decode cX5_admit 18 = .ok (.dup, 1) := by decide +kernel
theorem dX5_admit_19 : decode cX5_admit 19 = .ok (.ldc 74, 2) := by decide +kernel
theorem dX5_admit_21 : decode cX5_admit 21 = .ok (.invokespecial 76, 3) := by decide +kernel
theorem dX5_admit_24 : decode cX5_admit 24 = .ok (.athrow, 1) := by decide +kernel
theorem dX5_admit_25 : decode cX5_admit 25 = .ok (.aload_n 0, 1) := by decide +kernel
theorem dX5_admit_26 : decode cX5_admit 26 = .ok (.iload_n 1, 1) := by decide +kernel
theorem dX5_admit_27 : decode cX5_admit 27 = .ok (.iconst 2, 1) := by decide +kernel
theorem dX5_admit_28 : decode cX5_admit 28 = .ok (.invokevirtual 79, 3) := by decide +kernel
theorem dX5_admit_31 : decode cX5_admit 31 = .ok (.ifCond .le 7, 3) := by decide +kernel
theorem dX5_admit_34 : decode cX5_admit 34 = .ok (.iconst 1, 1) := by decide +kernel
theorem dX5_admit_35 : decode cX5_admit 35 = .ok (.goto 4, 3) := by decide +kernel
theorem dX5_admit_38 : decode cX5_admit 38 = .ok (.iconst 0, 1) := by decide +kernel
theorem dX5_admit_39 : decode cX5_admit 39 = .ok (.istore_n 3, 1) := by decide +kernel
theorem dX5_admit_40 : decode cX5_admit 40 = .ok (.iload_n 3, 1) := by decide +kernel
theorem dX5_admit_41 : decode cX5_admit 41 = .ok (.iload_n 2, 1) := by decide +kernel
theorem dX5_admit_42 : decode cX5_admit 42 = .ok (.if_icmp .eq 13, 3) := by decide +kernel
theorem dX5_admit_45 : decode cX5_admit 45 = .ok (.new 72, 3) := by decide +kernel
theorem dX5_admit_48 : decode cX5_admit 48 = .ok (.dup, 1) := by decide +kernel
theorem dX5_admit_49 : decode cX5_admit 49 = .ok (.ldc 83, 2) := by decide +kernel
theorem dX5_admit_51 : decode cX5_admit 51 = .ok (.invokespecial 76, 3) := by decide +kernel
theorem dX5_admit_54 : decode cX5_admit 54 = .ok (.athrow, 1) := by decide +kernel
theorem dX5_admit_55 : decode cX5_admit 55 = .ok (.iload_n 2, 1) := by decide +kernel
theorem dX5_admit_56 : decode cX5_admit 56 = .ok (.ifCond .eq 23, 3) := by decide +kernel
theorem dX5_admit_59 : decode cX5_admit 59 = .ok (.aload_n 0, 1) := by decide +kernel
theorem dX5_admit_60 : decode cX5_admit 60 = .ok (.iload_n 1, 1) := by decide +kernel
theorem dX5_admit_61 : decode cX5_admit 61 = .ok (.iconst 3, 1) := by decide +kernel
theorem dX5_admit_62 : decode cX5_admit 62 = .ok (.invokevirtual 79, 3) := by decide +kernel
theorem dX5_admit_65 : decode cX5_admit 65 = .ok (.iconst 2, 1) := by decide +kernel
theorem dX5_admit_66 : decode cX5_admit 66 = .ok (.if_icmp .lt 13, 3) := by decide +kernel
theorem dX5_admit_69 : decode cX5_admit 69 = .ok (.new 72, 3) := by decide +kernel
theorem dX5_admit_72 : decode cX5_admit 72 = .ok (.dup, 1) := by decide +kernel
theorem dX5_admit_73 : decode cX5_admit 73 = .ok (.ldc 85, 2) := by decide +kernel
theorem dX5_admit_75 : decode cX5_admit 75 = .ok (.invokespecial 76, 3) := by decide +kernel
theorem dX5_admit_78 : decode cX5_admit 78 = .ok (.athrow, 1) := by decide +kernel
theorem dX5_admit_79 : decode cX5_admit 79 = .ok (.aload_n 0, 1) := by decide +kernel
theorem dX5_admit_80 : decode cX5_admit 80 = .ok (.invokevirtual 54, 3) := by decide +kernel
theorem dX5_admit_83 : decode cX5_admit 83 = .ok (.iload_n 2, 1) := by decide +kernel
theorem dX5_admit_84 : decode cX5_admit 84 = .ok (.ifCond .eq 16, 3) := by decide +kernel
theorem dX5_admit_87 : decode cX5_admit 87 = .ok (.aload_n 0, 1) := by decide +kernel
theorem dX5_admit_88 : decode cX5_admit 88 = .ok (.iconst (-1), 1) := by decide +kernel
theorem dX5_admit_89 : decode cX5_admit 89 = .ok (.invokevirtual 42, 3) := by decide +kernel
theorem dX5_admit_92 : decode cX5_admit 92 = .ok (.getfield 50, 3) := by decide +kernel
theorem dX5_admit_95 : decode cX5_admit 95 = .ok (.iconst 2, 1) := by decide +kernel
theorem dX5_admit_96 : decode cX5_admit 96 = .ok (.idiv, 1) := by decide +kernel
theorem dX5_admit_97 : decode cX5_admit 97 = .ok (.goto 4, 3) := by decide +kernel
theorem dX5_admit_100 : decode cX5_admit 100 = .ok (.iconst 0, 1) := by decide +kernel
theorem dX5_admit_101 : decode cX5_admit 101 = .ok (.istore 4, 2) := by decide +kernel
theorem dX5_admit_103 : decode cX5_admit 103 = .ok (.aload_n 0, 1) := by decide +kernel
theorem dX5_admit_104 : decode cX5_admit 104 = .ok (.iload_n 2, 1) := by decide +kernel
theorem dX5_admit_105 : decode cX5_admit 105 = .ok (.ifCond .eq 7, 3) := by decide +kernel
theorem dX5_admit_108 : decode cX5_admit 108 = .ok (.iconst 3, 1) := by decide +kernel
theorem dX5_admit_109 : decode cX5_admit 109 = .ok (.goto 4, 3) := by decide +kernel
theorem dX5_admit_112 : decode cX5_admit 112 = .ok (.iconst 2, 1) := by decide +kernel
theorem dX5_admit_113 : decode cX5_admit 113 = .ok (.iconst (-1), 1) := by decide +kernel
theorem dX5_admit_114 : decode cX5_admit 114 = .ok (.iload_n 1, 1) := by decide +kernel
theorem dX5_admit_115 : decode cX5_admit 115 = .ok (.iload 4, 2) := by decide +kernel
theorem dX5_admit_117 : decode cX5_admit 117 = .ok (.invokevirtual 57, 3) := by decide +kernel
theorem dX5_admit_120 : decode cX5_admit 120 = .ok (.ireturn, 1) := by decide +kernel
theorem dX5_giveBack_0 : decode cX5_giveBack 0 = .ok (.aload_n 0, 1) := by decide +kernel
theorem dX5_giveBack_1 : decode cX5_giveBack 1 = .ok (.iload_n 1, 1) := by decide +kernel
theorem dX5_giveBack_2 : decode cX5_giveBack 2 = .ok (.invokevirtual 87, 3) := by decide +kernel
theorem dX5_giveBack_5 : decode cX5_giveBack 5 = .ok (.astore_n 2, 1) := by decide +kernel
theorem dX5_giveBack_6 : decode cX5_giveBack 6 = .ok (.aload_n 0, 1) := by decide +kernel
theorem dX5_giveBack_7 : decode cX5_giveBack 7 = .ok (.aload_n 2, 1) := by decide +kernel
theorem dX5_giveBack_8 : decode cX5_giveBack 8 = .ok (.invokevirtual 91, 3) := by decide +kernel
theorem dX5_giveBack_11 : decode cX5_giveBack 11 = .ok (.aload_n 2, 1) := by decide +kernel
theorem dX5_giveBack_12 : decode cX5_giveBack 12 = .ok (.getfield 95, 3) := by decide +kernel
theorem dX5_giveBack_15 : decode cX5_giveBack 15 = .ok (.ifCond .ne 18, 3) := by decide +kernel
theorem dX5_giveBack_18 : decode cX5_giveBack 18 = .ok (.aload_n 2, 1) := by decide +kernel
theorem dX5_giveBack_19 : decode cX5_giveBack 19 = .ok (.getfield 100, 3) := by decide +kernel
theorem dX5_giveBack_22 : decode cX5_giveBack 22 = .ok (.ifCond .ne 11, 3) := by decide +kernel
theorem dX5_giveBack_25 : decode cX5_giveBack 25 = .ok (.aload_n 0, 1) := by decide +kernel
theorem dX5_giveBack_26 : decode cX5_giveBack 26 = .ok (.aload_n 2, 1) := by decide +kernel
theorem dX5_giveBack_27 : decode cX5_giveBack 27 = .ok (.invokevirtual 104, 3) := by decide +kernel
theorem dX5_giveBack_30 : decode cX5_giveBack 30 = .ok (.ifCond .ne 13, 3) := by decide +kernel
theorem dX5_giveBack_33 : decode cX5_giveBack 33 = .ok (.new 72, 3) := by decide +kernel
theorem dX5_giveBack_36 : decode cX5_giveBack 36 = .ok (.dup, 1) := by decide +kernel
theorem dX5_giveBack_37 : decode cX5_giveBack 37 = .ok (.ldc 108, 2) := by decide +kernel
theorem dX5_giveBack_39 : decode cX5_giveBack 39 = .ok (.invokespecial 76, 3) := by decide +kernel
theorem dX5_giveBack_42 : decode cX5_giveBack 42 = .ok (.athrow, 1) := by decide +kernel
theorem dX5_giveBack_43 : decode cX5_giveBack 43 = .ok (.aload_n 2, 1) := by decide +kernel
theorem dX5_giveBack_44 : decode cX5_giveBack 44 = .ok (.iconst 1, 1) := by decide +kernel
theorem dX5_giveBack_45 : decode cX5_giveBack 45 = .ok (.putfield 110, 3) := by decide +kernel
theorem dX5_giveBack_48 : decode cX5_giveBack 48 = .ok (.aload_n 0, 1) := by decide +kernel
theorem dX5_giveBack_49 : decode cX5_giveBack 49 = .ok (.dup, 1) := by decide +kernel
theorem dX5_giveBack_50 : decode cX5_giveBack 50 = .ok (.getfield 113, 3) := by decide +kernel
theorem dX5_giveBack_53 : decode cX5_giveBack 53 = .ok (.aload_n 2, 1) := by decide +kernel
theorem dX5_giveBack_54 : decode cX5_giveBack 54 = .ok (.getfield 116, 3) := by decide +kernel
theorem dX5_giveBack_57 : decode cX5_giveBack 57 = .ok (.isub, 1) := by decide +kernel
theorem dX5_giveBack_58 : decode cX5_giveBack 58 = .ok (.putfield 113, 3) := by decide +kernel
theorem dX5_giveBack_61 : decode cX5_giveBack 61 = .ok (.aload_n 2, 1) := by decide +kernel
theorem dX5_giveBack_62 : decode cX5_giveBack 62 = .ok (.getfield 116, 3) := by decide +kernel
theorem dX5_giveBack_65 : decode cX5_giveBack 65 = .ok (.ireturn, 1) := by decide +kernel
theorem dX5_join_0 : decode cX5_join 0 = .ok (.aload_n 0, 1) := by decide +kernel
theorem dX5_join_1 : decode cX5_join 1 = .ok (.iload_n 1, 1) := by decide +kernel
theorem dX5_join_2 : decode cX5_join 2 = .ok (.invokevirtual 61, 3) := by decide +kernel
theorem dX5_join_5 : decode cX5_join 5 = .ok (.astore_n 2, 1) := by decide +kernel
theorem dX5_join_6 : decode cX5_join 6 = .ok (.aload_n 2, 1) := by decide +kernel
theorem dX5_join_7 : decode cX5_join 7 = .ok (.aload_n 0, 1) := by decide +kernel
theorem dX5_join_8 : decode cX5_join 8 = .ok (.getfield 65, 3) := by decide +kernel
theorem dX5_join_11 : decode cX5_join 11 = .ok (.invokevirtual 68, 3) := by decide +kernel
theorem dX5_join_14 : decode cX5_join 14 = .ok (.ifCond .eq 13, 3) := by decide +kernel
theorem dX5_join_17 : decode cX5_join 17 = .ok (.new 72, 3) := by decide +kernel
theorem dX5_join_20 : decode cX5_join 20 = .ok (.dup, 1) := by decide +kernel
theorem dX5_join_21 : decode cX5_join 21 = .ok (.ldc 119, 2) := by decide +kernel
theorem dX5_join_23 : decode cX5_join 23 = .ok (.invokespecial 76, 3) := by decide +kernel
theorem dX5_join_26 : decode cX5_join 26 = .ok (.athrow, 1) := by decide +kernel
theorem dX5_join_27 : decode cX5_join 27 = .ok (.aload_n 2, 1) := by decide +kernel
theorem dX5_join_28 : decode cX5_join 28 = .ok (.dup, 1) := by decide +kernel
theorem dX5_join_29 : decode cX5_join 29 = .ok (.getfield 121, 3) := by decide +kernel
theorem dX5_join_32 : decode cX5_join 32 = .ok (.iconst 1, 1) := by decide +kernel
theorem dX5_join_33 : decode cX5_join 33 = .ok (.iadd, 1) := by decide +kernel
theorem dX5_join_34 : decode cX5_join 34 = .ok (.putfield 121, 3) := by decide +kernel
theorem dX5_join_37 : decode cX5_join 37 = .ok (.aload_n 2, 1) := by decide +kernel
theorem dX5_join_38 : decode cX5_join 38 = .ok (.aload_n 0, 1) := by decide +kernel
theorem dX5_join_39 : decode cX5_join 39 = .ok (.getfield 65, 3) := by decide +kernel
theorem dX5_join_42 : decode cX5_join 42 = .ok (.bipush 30, 2) := by decide +kernel
theorem dX5_join_44 : decode cX5_join 44 = .ok (.iadd, 1) := by decide +kernel
theorem dX5_join_45 : decode cX5_join 45 = .ok (.iconst 1, 1) := by decide +kernel
theorem dX5_join_46 : decode cX5_join 46 = .ok (.isub, 1) := by decide +kernel
theorem dX5_join_47 : decode cX5_join 47 = .ok (.putfield 124, 3) := by decide +kernel
theorem dX5_join_50 : decode cX5_join 50 = .ok (.aload_n 0, 1) := by decide +kernel
theorem dX5_join_51 : decode cX5_join 51 = .ok (.dup, 1) := by decide +kernel
theorem dX5_join_52 : decode cX5_join 52 = .ok (.getfield 113, 3) := by decide +kernel
theorem dX5_join_55 : decode cX5_join 55 = .ok (.sipush 6000, 3) := by decide +kernel
theorem dX5_join_58 : decode cX5_join 58 = .ok (.iadd, 1) := by decide +kernel
theorem dX5_join_59 : decode cX5_join 59 = .ok (.putfield 113, 3) := by decide +kernel
theorem dX5_join_62 : decode cX5_join 62 = .ok (.aload_n 2, 1) := by decide +kernel
theorem dX5_join_63 : decode cX5_join 63 = .ok (.getfield 124, 3) := by decide +kernel
theorem dX5_join_66 : decode cX5_join 66 = .ok (.ireturn, 1) := by decide +kernel
theorem dX5_setCap_0 : decode cX5_setCap 0 = .ok (.aload_n 0, 1) := by decide +kernel
theorem dX5_setCap_1 : decode cX5_setCap 1 = .ok (.iload_n 1, 1) := by decide +kernel
theorem dX5_setCap_2 : decode cX5_setCap 2 = .ok (.invokevirtual 127, 3) := by decide +kernel
theorem dX5_setCap_5 : decode cX5_setCap 5 = .ok (.astore_n 3, 1) := by decide +kernel
theorem dX5_setCap_6 : decode cX5_setCap 6 = .ok (.iload_n 2, 1) := by decide +kernel
theorem dX5_setCap_7 : decode cX5_setCap 7 = .ok (.iconst 0, 1) := by decide +kernel
theorem dX5_setCap_8 : decode cX5_setCap 8 = .ok (.bipush 20, 2) := by decide +kernel
theorem dX5_setCap_10 : decode cX5_setCap 10 = .ok (.invokestatic 46, 3) := by decide +kernel
theorem dX5_setCap_13 : decode cX5_setCap 13 = .ok (.aload_n 3, 1) := by decide +kernel
theorem dX5_setCap_14 : decode cX5_setCap 14 = .ok (.iload_n 2, 1) := by decide +kernel
theorem dX5_setCap_15 : decode cX5_setCap 15 = .ok (.putfield 131, 3) := by decide +kernel
theorem dX5_setCap_18 : decode cX5_setCap 18 = .ok (.aload_n 0, 1) := by decide +kernel
theorem dX5_setCap_19 : decode cX5_setCap 19 = .ok (.aload_n 3, 1) := by decide +kernel
theorem dX5_setCap_20 : decode cX5_setCap 20 = .ok (.invokevirtual 134, 3) := by decide +kernel
theorem dX5_setCap_23 : decode cX5_setCap 23 = .ok (.aload_n 3, 1) := by decide +kernel
theorem dX5_setCap_24 : decode cX5_setCap 24 = .ok (.getfield 138, 3) := by decide +kernel
theorem dX5_setCap_27 : decode cX5_setCap 27 = .ok (.ireturn, 1) := by decide +kernel
theorem dX5_close_0 : decode cX5_close 0 = .ok (.aload_n 0, 1) := by decide +kernel
theorem dX5_close_1 : decode cX5_close 1 = .ok (.iload_n 1, 1) := by decide +kernel
theorem dX5_close_2 : decode cX5_close 2 = .ok (.invokevirtual 127, 3) := by decide +kernel
theorem dX5_close_5 : decode cX5_close 5 = .ok (.astore_n 3, 1) := by decide +kernel
theorem dX5_close_6 : decode cX5_close 6 = .ok (.aload_n 3, 1) := by decide +kernel
theorem dX5_close_7 : decode cX5_close 7 = .ok (.iload_n 2, 1) := by decide +kernel
theorem dX5_close_8 : decode cX5_close 8 = .ok (.putfield 141, 3) := by decide +kernel
theorem dX5_close_11 : decode cX5_close 11 = .ok (.iload_n 2, 1) := by decide +kernel
theorem dX5_close_12 : decode cX5_close 12 = .ok (.ifCond .eq 11, 3) := by decide +kernel
theorem dX5_close_15 : decode cX5_close 15 = .ok (.aload_n 0, 1) := by decide +kernel
theorem dX5_close_16 : decode cX5_close 16 = .ok (.aload_n 3, 1) := by decide +kernel
theorem dX5_close_17 : decode cX5_close 17 = .ok (.invokevirtual 144, 3) := by decide +kernel
theorem dX5_close_20 : decode cX5_close 20 = .ok (.goto 4, 3) := by decide +kernel
theorem dX5_close_23 : decode cX5_close 23 = .ok (.iconst 0, 1) := by decide +kernel
theorem dX5_close_24 : decode cX5_close 24 = .ok (.ireturn, 1) := by decide +kernel
theorem dX5_enter_0 : decode cX5_enter 0 = .ok (.aload_n 0, 1) := by decide +kernel
theorem dX5_enter_1 : decode cX5_enter 1 = .ok (.iload_n 1, 1) := by decide +kernel
theorem dX5_enter_2 : decode cX5_enter 2 = .ok (.invokevirtual 87, 3) := by decide +kernel
theorem dX5_enter_5 : decode cX5_enter 5 = .ok (.astore_n 3, 1) := by decide +kernel
theorem dX5_enter_6 : decode cX5_enter 6 = .ok (.aload_n 0, 1) := by decide +kernel
theorem dX5_enter_7 : decode cX5_enter 7 = .ok (.iload_n 2, 1) := by decide +kernel
theorem dX5_enter_8 : decode cX5_enter 8 = .ok (.invokevirtual 127, 3) := by decide +kernel
theorem dX5_enter_11 : decode cX5_enter 11 = .ok (.astore 4, 2) := by decide +kernel
theorem dX5_enter_13 : decode cX5_enter 13 = .ok (.aload_n 0, 1) := by decide +kernel
theorem dX5_enter_14 : decode cX5_enter 14 = .ok (.aload_n 3, 1) := by decide +kernel
theorem dX5_enter_15 : decode cX5_enter 15 = .ok (.invokevirtual 91, 3) := by decide +kernel
theorem dX5_enter_18 : decode cX5_enter 18 = .ok (.aload_n 3, 1) := by decide +kernel
theorem dX5_enter_19 : decode cX5_enter 19 = .ok (.aload 4, 2) := by decide +kernel
theorem dX5_enter_21 : decode cX5_enter 21 = .ok (.getfield 148, 3) := by decide +kernel
theorem dX5_enter_24 : decode cX5_enter 24 = .ok (.invokevirtual 151, 3) := by decide +kernel
theorem dX5_enter_27 : decode cX5_enter 27 = .ok (.ifCond .eq 19, 3) := by decide +kernel
theorem dX5_enter_30 : decode cX5_enter 30 = .ok (.aload_n 3, 1) := by decide +kernel
theorem dX5_enter_31 : decode cX5_enter 31 = .ok (.getfield 154, 3) := by decide +kernel
theorem dX5_enter_34 : decode cX5_enter 34 = .ok (.iconst (-1), 1) := by decide +kernel
theorem dX5_enter_35 : decode cX5_enter 35 = .ok (.if_icmp .ne 11, 3) := by decide +kernel
theorem dX5_enter_38 : decode cX5_enter 38 = .ok (.aload 4, 2) := by decide +kernel
theorem dX5_enter_40 : decode cX5_enter 40 = .ok (.getfield 141, 3) := by decide +kernel
theorem dX5_enter_43 : decode cX5_enter 43 = .ok (.ifCond .eq 13, 3) := by decide +kernel
theorem dX5_enter_46 : decode cX5_enter 46 = .ok (.new 72, 3) := by decide +kernel
theorem dX5_enter_49 : decode cX5_enter 49 = .ok (.dup, 1) := by decide +kernel
theorem dX5_enter_50 : decode cX5_enter 50 = .ok (.ldc 157, 2) := by decide +kernel
theorem dX5_enter_52 : decode cX5_enter 52 = .ok (.invokespecial 76, 3) := by decide +kernel
theorem dX5_enter_55 : decode cX5_enter 55 = .ok (.athrow, 1) := by decide +kernel
theorem dX5_enter_56 : decode cX5_enter 56 = .ok (.aload 4, 2) := by decide +kernel
theorem dX5_enter_58 : decode cX5_enter 58 = .ok (.aload_n 3, 1) := by decide +kernel
theorem dX5_enter_59 : decode cX5_enter 59 = .ok (.invokevirtual 159, 3) := by decide +kernel
theorem dX5_enter_62 : decode cX5_enter 62 = .ok (.aload_n 0, 1) := by decide +kernel
theorem dX5_enter_63 : decode cX5_enter 63 = .ok (.aload 4, 2) := by decide +kernel
theorem dX5_enter_65 : decode cX5_enter 65 = .ok (.invokevirtual 134, 3) := by decide +kernel
theorem dX5_enter_68 : decode cX5_enter 68 = .ok (.aload_n 3, 1) := by decide +kernel
theorem dX5_enter_69 : decode cX5_enter 69 = .ok (.getfield 100, 3) := by decide +kernel
theorem dX5_enter_72 : decode cX5_enter 72 = .ok (.ifCond .ne 7, 3) := by decide +kernel
theorem dX5_enter_75 : decode cX5_enter 75 = .ok (.iconst 1, 1) := by decide +kernel
theorem dX5_enter_76 : decode cX5_enter 76 = .ok (.goto 4, 3) := by decide +kernel
theorem dX5_enter_79 : decode cX5_enter 79 = .ok (.iconst 0, 1) := by decide +kernel
theorem dX5_enter_80 : decode cX5_enter 80 = .ok (.ireturn, 1) := by decide +kernel
theorem dX5_goOut_0 : decode cX5_goOut 0 = .ok (.aload_n 0, 1) := by decide +kernel
theorem dX5_goOut_1 : decode cX5_goOut 1 = .ok (.iload_n 1, 1) := by decide +kernel
theorem dX5_goOut_2 : decode cX5_goOut 2 = .ok (.invokevirtual 87, 3) := by decide +kernel
theorem dX5_goOut_5 : decode cX5_goOut 5 = .ok (.astore_n 2, 1) := by decide +kernel
theorem dX5_goOut_6 : decode cX5_goOut 6 = .ok (.aload_n 2, 1) := by decide +kernel
theorem dX5_goOut_7 : decode cX5_goOut 7 = .ok (.getfield 154, 3) := by decide +kernel
theorem dX5_goOut_10 : decode cX5_goOut 10 = .ok (.iconst (-1), 1) := by decide +kernel
theorem dX5_goOut_11 : decode cX5_goOut 11 = .ok (.if_icmp .ne 13, 3) := by decide +kernel
theorem dX5_goOut_14 : decode cX5_goOut 14 = .ok (.new 72, 3) := by decide +kernel
theorem dX5_goOut_17 : decode cX5_goOut 17 = .ok (.dup, 1) := by decide +kernel
theorem dX5_goOut_18 : decode cX5_goOut 18 = .ok (.ldc 162, 2) := by decide +kernel
theorem dX5_goOut_20 : decode cX5_goOut 20 = .ok (.invokespecial 76, 3) := by decide +kernel
theorem dX5_goOut_23 : decode cX5_goOut 23 = .ok (.athrow, 1) := by decide +kernel
theorem dX5_goOut_24 : decode cX5_goOut 24 = .ok (.aload_n 0, 1) := by decide +kernel
theorem dX5_goOut_25 : decode cX5_goOut 25 = .ok (.aload_n 2, 1) := by decide +kernel
theorem dX5_goOut_26 : decode cX5_goOut 26 = .ok (.getfield 154, 3) := by decide +kernel
theorem dX5_goOut_29 : decode cX5_goOut 29 = .ok (.invokevirtual 127, 3) := by decide +kernel
theorem dX5_goOut_32 : decode cX5_goOut 32 = .ok (.astore_n 3, 1) := by decide +kernel
theorem dX5_goOut_33 : decode cX5_goOut 33 = .ok (.aload_n 2, 1) := by decide +kernel
theorem dX5_goOut_34 : decode cX5_goOut 34 = .ok (.getfield 100, 3) := by decide +kernel
theorem dX5_goOut_37 : decode cX5_goOut 37 = .ok (.ifCond .eq 11, 3) := by decide +kernel
theorem dX5_goOut_40 : decode cX5_goOut 40 = .ok (.aload_n 3, 1) := by decide +kernel
theorem dX5_goOut_41 : decode cX5_goOut 41 = .ok (.aload_n 2, 1) := by decide +kernel
theorem dX5_goOut_42 : decode cX5_goOut 42 = .ok (.invokevirtual 164, 3) := by decide +kernel
theorem dX5_goOut_45 : decode cX5_goOut 45 = .ok (.goto 13, 3) := by decide +kernel
theorem dX5_goOut_48 : decode cX5_goOut 48 = .ok (.aload_n 3, 1) := by decide +kernel
theorem dX5_goOut_49 : decode cX5_goOut 49 = .ok (.dup, 1) := by decide +kernel
theorem dX5_goOut_50 : decode cX5_goOut 50 = .ok (.getfield 138, 3) := by decide +kernel
theorem dX5_goOut_53 : decode cX5_goOut 53 = .ok (.iconst 1, 1) := by decide +kernel
theorem dX5_goOut_54 : decode cX5_goOut 54 = .ok (.isub, 1) := by decide +kernel
theorem dX5_goOut_55 : decode cX5_goOut 55 = .ok (.putfield 138, 3) := by decide +kernel
theorem dX5_goOut_58 : decode cX5_goOut 58 = .ok (.aload_n 2, 1) := by decide +kernel
theorem dX5_goOut_59 : decode cX5_goOut 59 = .ok (.invokevirtual 167, 3) := by decide +kernel
theorem dX5_goOut_62 : decode cX5_goOut 62 = .ok (.aload_n 0, 1) := by decide +kernel
theorem dX5_goOut_63 : decode cX5_goOut 63 = .ok (.aload_n 3, 1) := by decide +kernel
theorem dX5_goOut_64 : decode cX5_goOut 64 = .ok (.invokevirtual 134, 3) := by decide +kernel
theorem dX5_goOut_67 : decode cX5_goOut 67 = .ok (.aload_n 3, 1) := by decide +kernel
theorem dX5_goOut_68 : decode cX5_goOut 68 = .ok (.getfield 170, 3) := by decide +kernel
theorem dX5_goOut_71 : decode cX5_goOut 71 = .ok (.ireturn, 1) := by decide +kernel
theorem dX5_addWork_0 : decode cX5_addWork 0 = .ok (.aload_n 0, 1) := by decide +kernel
theorem dX5_addWork_1 : decode cX5_addWork 1 = .ok (.iload_n 1, 1) := by decide +kernel
theorem dX5_addWork_2 : decode cX5_addWork 2 = .ok (.invokevirtual 127, 3) := by decide +kernel
theorem dX5_addWork_5 : decode cX5_addWork 5 = .ok (.astore_n 2, 1) := by decide +kernel
theorem dX5_addWork_6 : decode cX5_addWork 6 = .ok (.aload_n 0, 1) := by decide +kernel
theorem dX5_addWork_7 : decode cX5_addWork 7 = .ok (.getfield 34, 3) := by decide +kernel
theorem dX5_addWork_10 : decode cX5_addWork 10 = .ok (.invokevirtual 173, 3) := by decide +kernel
theorem dX5_addWork_13 : decode cX5_addWork 13 = .ok (.bipush 12, 2) := by decide +kernel
theorem dX5_addWork_15 : decode cX5_addWork 15 = .ok (.if_icmp .lt 13, 3) := by decide +kernel
theorem dX5_addWork_18 : decode cX5_addWork 18 = .ok (.new 72, 3) := by decide +kernel
theorem dX5_addWork_21 : decode cX5_addWork 21 = .ok (.dup, 1) := by decide +kernel
theorem dX5_addWork_22 : decode cX5_addWork 22 = .ok (.ldc 177, 2) := by decide +kernel
theorem dX5_addWork_24 : decode cX5_addWork 24 = .ok (.invokespecial 76, 3) := by decide +kernel
theorem dX5_addWork_27 : decode cX5_addWork 27 = .ok (.athrow, 1) := by decide +kernel
theorem dX5_addWork_28 : decode cX5_addWork 28 = .ok (.new 179, 3) := by decide +kernel
theorem dX5_addWork_31 : decode cX5_addWork 31 = .ok (.dup, 1) := by decide +kernel
theorem dX5_addWork_32 : decode cX5_addWork 32 = .ok (.aload_n 0, 1) := by decide +kernel
theorem dX5_addWork_33 : decode cX5_addWork 33 = .ok (.getfield 34, 3) := by decide +kernel
theorem dX5_addWork_36 : decode cX5_addWork 36 = .ok (.invokevirtual 173, 3) := by decide +kernel
theorem dX5_addWork_39 : decode cX5_addWork 39 = .ok (.aload_n 2, 1) := by decide +kernel
theorem dX5_addWork_40 : decode cX5_addWork 40 = .ok (.invokespecial 181, 3) := by decide +kernel
theorem dX5_addWork_43 : decode cX5_addWork 43 = .ok (.astore_n 3, 1) := by decide +kernel
theorem dX5_addWork_44 : decode cX5_addWork 44 = .ok (.aload_n 0, 1) := by decide +kernel
theorem dX5_addWork_45 : decode cX5_addWork 45 = .ok (.getfield 34, 3) := by decide +kernel
theorem dX5_addWork_48 : decode cX5_addWork 48 = .ok (.aload_n 3, 1) := by decide +kernel
theorem dX5_addWork_49 : decode cX5_addWork 49 = .ok (.invokevirtual 184, 3) := by decide +kernel
theorem dX5_addWork_52 : decode cX5_addWork 52 = .ok (.pop, 1) := by decide +kernel
theorem dX5_addWork_53 : decode cX5_addWork 53 = .ok (.aload_n 3, 1) := by decide +kernel
theorem dX5_addWork_54 : decode cX5_addWork 54 = .ok (.getfield 188, 3) := by decide +kernel
theorem dX5_addWork_57 : decode cX5_addWork 57 = .ok (.ireturn, 1) := by decide +kernel
theorem dX5_hang_0 : decode cX5_hang 0 = .ok (.aload_n 0, 1) := by decide +kernel
theorem dX5_hang_1 : decode cX5_hang 1 = .ok (.iload_n 1, 1) := by decide +kernel
theorem dX5_hang_2 : decode cX5_hang 2 = .ok (.invokevirtual 189, 3) := by decide +kernel
theorem dX5_hang_5 : decode cX5_hang 5 = .ok (.astore_n 3, 1) := by decide +kernel
theorem dX5_hang_6 : decode cX5_hang 6 = .ok (.aload_n 0, 1) := by decide +kernel
theorem dX5_hang_7 : decode cX5_hang 7 = .ok (.iload_n 2, 1) := by decide +kernel
theorem dX5_hang_8 : decode cX5_hang 8 = .ok (.invokevirtual 127, 3) := by decide +kernel
theorem dX5_hang_11 : decode cX5_hang 11 = .ok (.astore 4, 2) := by decide +kernel
theorem dX5_hang_13 : decode cX5_hang 13 = .ok (.aload_n 3, 1) := by decide +kernel
theorem dX5_hang_14 : decode cX5_hang 14 = .ok (.getfield 193, 3) := by decide +kernel
theorem dX5_hang_17 : decode cX5_hang 17 = .ok (.istore 5, 2) := by decide +kernel
theorem dX5_hang_19 : decode cX5_hang 19 = .ok (.aload 4, 2) := by decide +kernel
theorem dX5_hang_21 : decode cX5_hang 21 = .ok (.getfield 148, 3) := by decide +kernel
theorem dX5_hang_24 : decode cX5_hang 24 = .ok (.aload_n 0, 1) := by decide +kernel
theorem dX5_hang_25 : decode cX5_hang 25 = .ok (.iload 5, 2) := by decide +kernel
theorem dX5_hang_27 : decode cX5_hang 27 = .ok (.invokevirtual 127, 3) := by decide +kernel
theorem dX5_hang_30 : decode cX5_hang 30 = .ok (.getfield 148, 3) := by decide +kernel
theorem dX5_hang_33 : decode cX5_hang 33 = .ok (.if_icmp .eq 13, 3) := by decide +kernel
theorem dX5_hang_36 : decode cX5_hang 36 = .ok (.new 72, 3) := by decide +kernel
theorem dX5_hang_39 : decode cX5_hang 39 = .ok (.dup, 1) := by decide +kernel
theorem dX5_hang_40 : decode cX5_hang 40 = .ok (.ldc 194, 2) := by decide +kernel
theorem dX5_hang_42 : decode cX5_hang 42 = .ok (.invokespecial 76, 3) := by decide +kernel
theorem dX5_hang_45 : decode cX5_hang 45 = .ok (.athrow, 1) := by decide +kernel
theorem dX5_hang_46 : decode cX5_hang 46 = .ok (.aload_n 3, 1) := by decide +kernel
theorem dX5_hang_47 : decode cX5_hang 47 = .ok (.aload 4, 2) := by decide +kernel
theorem dX5_hang_49 : decode cX5_hang 49 = .ok (.getfield 170, 3) := by decide +kernel
theorem dX5_hang_52 : decode cX5_hang 52 = .ok (.putfield 193, 3) := by decide +kernel
theorem dX5_hang_55 : decode cX5_hang 55 = .ok (.iload 5, 2) := by decide +kernel
theorem dX5_hang_57 : decode cX5_hang 57 = .ok (.ireturn, 1) := by decide +kernel
theorem dX5_lend_0 : decode cX5_lend 0 = .ok (.aload_n 0, 1) := by decide +kernel
theorem dX5_lend_1 : decode cX5_lend 1 = .ok (.iload_n 1, 1) := by decide +kernel
theorem dX5_lend_2 : decode cX5_lend 2 = .ok (.invokevirtual 189, 3) := by decide +kernel
theorem dX5_lend_5 : decode cX5_lend 5 = .ok (.astore 4, 2) := by decide +kernel
theorem dX5_lend_7 : decode cX5_lend 7 = .ok (.aload_n 0, 1) := by decide +kernel
theorem dX5_lend_8 : decode cX5_lend 8 = .ok (.iload_n 2, 1) := by decide +kernel
theorem dX5_lend_9 : decode cX5_lend 9 = .ok (.invokevirtual 127, 3) := by decide +kernel
theorem dX5_lend_12 : decode cX5_lend 12 = .ok (.astore 5, 2) := by decide +kernel
theorem dX5_lend_14 : decode cX5_lend 14 = .ok (.iload_n 3, 1) := by decide +kernel
theorem dX5_lend_15 : decode cX5_lend 15 = .ok (.iconst 0, 1) := by decide +kernel
theorem dX5_lend_16 : decode cX5_lend 16 = .ok (.sipush 1000, 3) := by decide +kernel
theorem dX5_lend_19 : decode cX5_lend 19 = .ok (.invokestatic 46, 3) := by decide +kernel
theorem dX5_lend_22 : decode cX5_lend 22 = .ok (.aload 4, 2) := by decide +kernel
theorem dX5_lend_24 : decode cX5_lend 24 = .ok (.getfield 196, 3) := by decide +kernel
theorem dX5_lend_27 : decode cX5_lend 27 = .ok (.ifCond .ne 16, 3) := by decide +kernel
theorem dX5_lend_30 : decode cX5_lend 30 = .ok (.aload 5, 2) := by decide +kernel
theorem dX5_lend_32 : decode cX5_lend 32 = .ok (.getfield 148, 3) := by decide +kernel
theorem dX5_lend_35 : decode cX5_lend 35 = .ok (.aload 4, 2) := by decide +kernel
theorem dX5_lend_37 : decode cX5_lend 37 = .ok (.getfield 199, 3) := by decide +kernel
theorem dX5_lend_40 : decode cX5_lend 40 = .ok (.if_icmp .ne 13, 3) := by decide +kernel
theorem dX5_lend_43 : decode cX5_lend 43 = .ok (.new 72, 3) := by decide +kernel
theorem dX5_lend_46 : decode cX5_lend 46 = .ok (.dup, 1) := by decide +kernel
theorem dX5_lend_47 : decode cX5_lend 47 = .ok (.ldc 200, 2) := by decide +kernel
theorem dX5_lend_49 : decode cX5_lend 49 = .ok (.invokespecial 76, 3) := by decide +kernel
theorem dX5_lend_52 : decode cX5_lend 52 = .ok (.athrow, 1) := by decide +kernel
theorem dX5_lend_53 : decode cX5_lend 53 = .ok (.aload 4, 2) := by decide +kernel
theorem dX5_lend_55 : decode cX5_lend 55 = .ok (.iconst 1, 1) := by decide +kernel
theorem dX5_lend_56 : decode cX5_lend 56 = .ok (.putfield 196, 3) := by decide +kernel
theorem dX5_lend_59 : decode cX5_lend 59 = .ok (.aload 4, 2) := by decide +kernel
theorem dX5_lend_61 : decode cX5_lend 61 = .ok (.iload_n 3, 1) := by decide +kernel
theorem dX5_lend_62 : decode cX5_lend 62 = .ok (.putfield 202, 3) := by decide +kernel
theorem dX5_lend_65 : decode cX5_lend 65 = .ok (.aload 4, 2) := by decide +kernel
theorem dX5_lend_67 : decode cX5_lend 67 = .ok (.iconst 0, 1) := by decide +kernel
theorem dX5_lend_68 : decode cX5_lend 68 = .ok (.putfield 205, 3) := by decide +kernel
theorem dX5_lend_71 : decode cX5_lend 71 = .ok (.aload 4, 2) := by decide +kernel
theorem dX5_lend_73 : decode cX5_lend 73 = .ok (.aload 5, 2) := by decide +kernel
theorem dX5_lend_75 : decode cX5_lend 75 = .ok (.getfield 170, 3) := by decide +kernel
theorem dX5_lend_78 : decode cX5_lend 78 = .ok (.putfield 193, 3) := by decide +kernel
theorem dX5_lend_81 : decode cX5_lend 81 = .ok (.aload 5, 2) := by decide +kernel
theorem dX5_lend_83 : decode cX5_lend 83 = .ok (.getfield 148, 3) := by decide +kernel
theorem dX5_lend_86 : decode cX5_lend 86 = .ok (.ireturn, 1) := by decide +kernel
theorem dX5_bringHome_0 : decode cX5_bringHome 0 = .ok (.aload_n 0, 1) := by decide +kernel
theorem dX5_bringHome_1 : decode cX5_bringHome 1 = .ok (.iload_n 1, 1) := by decide +kernel
theorem dX5_bringHome_2 : decode cX5_bringHome 2 = .ok (.invokevirtual 189, 3) := by decide +kernel
theorem dX5_bringHome_5 : decode cX5_bringHome 5 = .ok (.astore_n 3, 1) := by decide +kernel
theorem dX5_bringHome_6 : decode cX5_bringHome 6 = .ok (.aload_n 0, 1) := by decide +kernel
theorem dX5_bringHome_7 : decode cX5_bringHome 7 = .ok (.iload_n 2, 1) := by decide +kernel
theorem dX5_bringHome_8 : decode cX5_bringHome 8 = .ok (.invokevirtual 127, 3) := by decide +kernel
theorem dX5_bringHome_11 : decode cX5_bringHome 11 = .ok (.astore 4, 2) := by decide +kernel
theorem dX5_bringHome_13 : decode cX5_bringHome 13 = .ok (.aload_n 3, 1) := by decide +kernel
theorem dX5_bringHome_14 : decode cX5_bringHome 14 = .ok (.getfield 196, 3) := by decide +kernel
theorem dX5_bringHome_17 : decode cX5_bringHome 17 = .ok (.ifCond .eq 15, 3) := by decide +kernel
theorem dX5_bringHome_20 : decode cX5_bringHome 20 = .ok (.aload 4, 2) := by decide +kernel
theorem dX5_bringHome_22 : decode cX5_bringHome 22 = .ok (.getfield 148, 3) := by decide +kernel
theorem dX5_bringHome_25 : decode cX5_bringHome 25 = .ok (.aload_n 3, 1) := by decide +kernel
theorem dX5_bringHome_26 : decode cX5_bringHome 26 = .ok (.getfield 199, 3) := by decide +kernel
theorem dX5_bringHome_29 : decode cX5_bringHome 29 = .ok (.if_icmp .eq 13, 3) := by decide +kernel
theorem dX5_bringHome_32 : decode cX5_bringHome 32 = .ok (.new 72, 3) := by decide +kernel
theorem dX5_bringHome_35 : decode cX5_bringHome 35 = .ok (.dup, 1) := by decide +kernel
theorem dX5_bringHome_36 : decode cX5_bringHome 36 = .ok (.ldc 208, 2) := by decide +kernel
theorem dX5_bringHome_38 : decode cX5_bringHome 38 = .ok (.invokespecial 76, 3) := by decide +kernel
theorem dX5_bringHome_41 : decode cX5_bringHome 41 = .ok (.athrow, 1) := by decide +kernel
theorem dX5_bringHome_42 : decode cX5_bringHome 42 = .ok (.aload_n 3, 1) := by decide +kernel
theorem dX5_bringHome_43 : decode cX5_bringHome 43 = .ok (.iconst 0, 1) := by decide +kernel
theorem dX5_bringHome_44 : decode cX5_bringHome 44 = .ok (.putfield 196, 3) := by decide +kernel
theorem dX5_bringHome_47 : decode cX5_bringHome 47 = .ok (.aload_n 3, 1) := by decide +kernel
theorem dX5_bringHome_48 : decode cX5_bringHome 48 = .ok (.aload 4, 2) := by decide +kernel
theorem dX5_bringHome_50 : decode cX5_bringHome 50 = .ok (.getfield 170, 3) := by decide +kernel
theorem dX5_bringHome_53 : decode cX5_bringHome 53 = .ok (.putfield 193, 3) := by decide +kernel
theorem dX5_bringHome_56 : decode cX5_bringHome 56 = .ok (.aload_n 3, 1) := by decide +kernel
theorem dX5_bringHome_57 : decode cX5_bringHome 57 = .ok (.getfield 205, 3) := by decide +kernel
theorem dX5_bringHome_60 : decode cX5_bringHome 60 = .ok (.ireturn, 1) := by decide +kernel
theorem dX5_setShare_0 : decode cX5_setShare 0 = .ok (.aload_n 0, 1) := by decide +kernel
theorem dX5_setShare_1 : decode cX5_setShare 1 = .ok (.iload_n 1, 1) := by decide +kernel
theorem dX5_setShare_2 : decode cX5_setShare 2 = .ok (.invokevirtual 189, 3) := by decide +kernel
theorem dX5_setShare_5 : decode cX5_setShare 5 = .ok (.astore_n 3, 1) := by decide +kernel
theorem dX5_setShare_6 : decode cX5_setShare 6 = .ok (.iload_n 2, 1) := by decide +kernel
theorem dX5_setShare_7 : decode cX5_setShare 7 = .ok (.iconst 0, 1) := by decide +kernel
theorem dX5_setShare_8 : decode cX5_setShare 8 = .ok (.bipush 100, 2) := by decide +kernel
theorem dX5_setShare_10 : decode cX5_setShare 10 = .ok (.invokestatic 46, 3) := by decide +kernel
theorem dX5_setShare_13 : decode cX5_setShare 13 = .ok (.aload_n 3, 1) := by decide +kernel
theorem dX5_setShare_14 : decode cX5_setShare 14 = .ok (.getfield 210, 3) := by decide +kernel
theorem dX5_setShare_17 : decode cX5_setShare 17 = .ok (.istore 4, 2) := by decide +kernel
theorem dX5_setShare_19 : decode cX5_setShare 19 = .ok (.aload_n 3, 1) := by decide +kernel
theorem dX5_setShare_20 : decode cX5_setShare 20 = .ok (.iload_n 2, 1) := by decide +kernel
theorem dX5_setShare_21 : decode cX5_setShare 21 = .ok (.putfield 210, 3) := by decide +kernel
theorem dX5_setShare_24 : decode cX5_setShare 24 = .ok (.iload 4, 2) := by decide +kernel
theorem dX5_setShare_26 : decode cX5_setShare 26 = .ok (.ireturn, 1) := by decide +kernel
theorem dX5_sell_0 : decode cX5_sell 0 = .ok (.iload_n 1, 1) := by decide +kernel
theorem dX5_sell_1 : decode cX5_sell 1 = .ok (.invokestatic 213, 3) := by decide +kernel
theorem dX5_sell_4 : decode cX5_sell 4 = .ok (.aload_n 0, 1) := by decide +kernel
theorem dX5_sell_5 : decode cX5_sell 5 = .ok (.iload_n 2, 1) := by decide +kernel
theorem dX5_sell_6 : decode cX5_sell 6 = .ok (.invokevirtual 189, 3) := by decide +kernel
theorem dX5_sell_9 : decode cX5_sell 9 = .ok (.astore 4, 2) := by decide +kernel
theorem dX5_sell_11 : decode cX5_sell 11 = .ok (.iload_n 3, 1) := by decide +kernel
theorem dX5_sell_12 : decode cX5_sell 12 = .ok (.iconst 1, 1) := by decide +kernel
theorem dX5_sell_13 : decode cX5_sell 13 = .ok (.ldc 216, 2) := by decide +kernel
theorem dX5_sell_15 : decode cX5_sell 15 = .ok (.invokestatic 46, 3) := by decide +kernel
theorem dX5_sell_18 : decode cX5_sell 18 = .ok (.aload 4, 2) := by decide +kernel
theorem dX5_sell_20 : decode cX5_sell 20 = .ok (.getfield 199, 3) := by decide +kernel
theorem dX5_sell_23 : decode cX5_sell 23 = .ok (.iload_n 1, 1) := by decide +kernel
theorem dX5_sell_24 : decode cX5_sell 24 = .ok (.if_icmp .ne 7, 3) := by decide +kernel
theorem dX5_sell_27 : decode cX5_sell 27 = .ok (.iconst 0, 1) := by decide +kernel
theorem dX5_sell_28 : decode cX5_sell 28 = .ok (.goto 13, 3) := by decide +kernel
theorem dX5_sell_31 : decode cX5_sell 31 = .ok (.iload_n 3, 1) := by decide +kernel
theorem dX5_sell_32 : decode cX5_sell 32 = .ok (.aload 4, 2) := by decide +kernel
theorem dX5_sell_34 : decode cX5_sell 34 = .ok (.getfield 210, 3) := by decide +kernel
theorem dX5_sell_37 : decode cX5_sell 37 = .ok (.imul, 1) := by decide +kernel
theorem dX5_sell_38 : decode cX5_sell 38 = .ok (.bipush 100, 2) := by decide +kernel
theorem dX5_sell_40 : decode cX5_sell 40 = .ok (.idiv, 1) := by decide +kernel
theorem dX5_sell_41 : decode cX5_sell 41 = .ok (.istore 5, 2) := by decide +kernel
theorem dX5_sell_43 : decode cX5_sell 43 = .ok (.aload_n 0, 1) := by decide +kernel
theorem dX5_sell_44 : decode cX5_sell 44 = .ok (.aload 4, 2) := by decide +kernel
theorem dX5_sell_46 : decode cX5_sell 46 = .ok (.getfield 199, 3) := by decide +kernel
theorem dX5_sell_49 : decode cX5_sell 49 = .ok (.invokevirtual 42, 3) := by decide +kernel
theorem dX5_sell_52 : decode cX5_sell 52 = .ok (.iload 5, 2) := by decide +kernel
theorem dX5_sell_54 : decode cX5_sell 54 = .ok (.invokevirtual 217, 3) := by decide +kernel
theorem dX5_sell_57 : decode cX5_sell 57 = .ok (.aload_n 0, 1) := by decide +kernel
theorem dX5_sell_58 : decode cX5_sell 58 = .ok (.iload_n 1, 1) := by decide +kernel
theorem dX5_sell_59 : decode cX5_sell 59 = .ok (.invokevirtual 42, 3) := by decide +kernel
theorem dX5_sell_62 : decode cX5_sell 62 = .ok (.iload_n 3, 1) := by decide +kernel
theorem dX5_sell_63 : decode cX5_sell 63 = .ok (.iload 5, 2) := by decide +kernel
theorem dX5_sell_65 : decode cX5_sell 65 = .ok (.isub, 1) := by decide +kernel
theorem dX5_sell_66 : decode cX5_sell 66 = .ok (.invokevirtual 217, 3) := by decide +kernel
theorem dX5_sell_69 : decode cX5_sell 69 = .ok (.aload_n 0, 1) := by decide +kernel
theorem dX5_sell_70 : decode cX5_sell 70 = .ok (.dup, 1) := by decide +kernel
theorem dX5_sell_71 : decode cX5_sell 71 = .ok (.getfield 113, 3) := by decide +kernel
theorem dX5_sell_74 : decode cX5_sell 74 = .ok (.iload_n 3, 1) := by decide +kernel
theorem dX5_sell_75 : decode cX5_sell 75 = .ok (.iadd, 1) := by decide +kernel
theorem dX5_sell_76 : decode cX5_sell 76 = .ok (.putfield 113, 3) := by decide +kernel
theorem dX5_sell_79 : decode cX5_sell 79 = .ok (.iload_n 3, 1) := by decide +kernel
theorem dX5_sell_80 : decode cX5_sell 80 = .ok (.iload 5, 2) := by decide +kernel
theorem dX5_sell_82 : decode cX5_sell 82 = .ok (.isub, 1) := by decide +kernel
theorem dX5_sell_83 : decode cX5_sell 83 = .ok (.ireturn, 1) := by decide +kernel
theorem dX5_give_0 : decode cX5_give 0 = .ok (.iload_n 1, 1) := by decide +kernel
theorem dX5_give_1 : decode cX5_give 1 = .ok (.invokestatic 213, 3) := by decide +kernel
theorem dX5_give_4 : decode cX5_give 4 = .ok (.iload_n 3, 1) := by decide +kernel
theorem dX5_give_5 : decode cX5_give 5 = .ok (.iconst (-1), 1) := by decide +kernel
theorem dX5_give_6 : decode cX5_give 6 = .ok (.if_icmp .eq 22, 3) := by decide +kernel
theorem dX5_give_9 : decode cX5_give 9 = .ok (.aload_n 0, 1) := by decide +kernel
theorem dX5_give_10 : decode cX5_give 10 = .ok (.iload_n 3, 1) := by decide +kernel
theorem dX5_give_11 : decode cX5_give 11 = .ok (.invokevirtual 61, 3) := by decide +kernel
theorem dX5_give_14 : decode cX5_give 14 = .ok (.aload_n 0, 1) := by decide +kernel
theorem dX5_give_15 : decode cX5_give 15 = .ok (.getfield 65, 3) := by decide +kernel
theorem dX5_give_18 : decode cX5_give 18 = .ok (.invokevirtual 68, 3) := by decide +kernel
theorem dX5_give_21 : decode cX5_give 21 = .ok (.ifCond .eq 7, 3) := by decide +kernel
theorem dX5_give_24 : decode cX5_give 24 = .ok (.iconst 1, 1) := by decide +kernel
theorem dX5_give_25 : decode cX5_give 25 = .ok (.goto 4, 3) := by decide +kernel
theorem dX5_give_28 : decode cX5_give 28 = .ok (.iconst 0, 1) := by decide +kernel
theorem dX5_give_29 : decode cX5_give 29 = .ok (.istore 4, 2) := by decide +kernel
theorem dX5_give_31 : decode cX5_give 31 = .ok (.iload_n 2, 1) := by decide +kernel
theorem dX5_give_32 : decode cX5_give 32 = .ok (.iconst 1, 1) := by decide +kernel
theorem dX5_give_33 : decode cX5_give 33 = .ok (.ldc 216, 2) := by decide +kernel
theorem dX5_give_35 : decode cX5_give 35 = .ok (.invokestatic 46, 3) := by decide +kernel
theorem dX5_give_38 : decode cX5_give 38 = .ok (.iload 4, 2) := by decide +kernel
theorem dX5_give_40 : decode cX5_give 40 = .ok (.ifCond .eq 9, 3) := by decide +kernel
theorem dX5_give_43 : decode cX5_give 43 = .ok (.iload_n 2, 1) := by decide +kernel
theorem dX5_give_44 : decode cX5_give 44 = .ok (.iconst 4, 1) := by decide +kernel
theorem dX5_give_45 : decode cX5_give 45 = .ok (.idiv, 1) := by decide +kernel
theorem dX5_give_46 : decode cX5_give 46 = .ok (.goto 4, 3) := by decide +kernel
theorem dX5_give_49 : decode cX5_give 49 = .ok (.iconst 0, 1) := by decide +kernel
theorem dX5_give_50 : decode cX5_give 50 = .ok (.istore 5, 2) := by decide +kernel
theorem dX5_give_52 : decode cX5_give 52 = .ok (.aload_n 0, 1) := by decide +kernel
theorem dX5_give_53 : decode cX5_give 53 = .ok (.iconst (-1), 1) := by decide +kernel
theorem dX5_give_54 : decode cX5_give 54 = .ok (.invokevirtual 42, 3) := by decide +kernel
theorem dX5_give_57 : decode cX5_give 57 = .ok (.iload 5, 2) := by decide +kernel
theorem dX5_give_59 : decode cX5_give 59 = .ok (.ineg, 1) := by decide +kernel
theorem dX5_give_60 : decode cX5_give 60 = .ok (.invokevirtual 220, 3) := by decide +kernel
theorem dX5_give_63 : decode cX5_give 63 = .ok (.aload_n 0, 1) := by decide +kernel
theorem dX5_give_64 : decode cX5_give 64 = .ok (.iload_n 1, 1) := by decide +kernel
theorem dX5_give_65 : decode cX5_give 65 = .ok (.invokevirtual 42, 3) := by decide +kernel
theorem dX5_give_68 : decode cX5_give 68 = .ok (.iload_n 2, 1) := by decide +kernel
theorem dX5_give_69 : decode cX5_give 69 = .ok (.iload 5, 2) := by decide +kernel
theorem dX5_give_71 : decode cX5_give 71 = .ok (.iadd, 1) := by decide +kernel
theorem dX5_give_72 : decode cX5_give 72 = .ok (.invokevirtual 220, 3) := by decide +kernel
theorem dX5_give_75 : decode cX5_give 75 = .ok (.aload_n 0, 1) := by decide +kernel
theorem dX5_give_76 : decode cX5_give 76 = .ok (.dup, 1) := by decide +kernel
theorem dX5_give_77 : decode cX5_give 77 = .ok (.getfield 113, 3) := by decide +kernel
theorem dX5_give_80 : decode cX5_give 80 = .ok (.iload_n 2, 1) := by decide +kernel
theorem dX5_give_81 : decode cX5_give 81 = .ok (.iadd, 1) := by decide +kernel
theorem dX5_give_82 : decode cX5_give 82 = .ok (.putfield 113, 3) := by decide +kernel
theorem dX5_give_85 : decode cX5_give 85 = .ok (.iload_n 2, 1) := by decide +kernel
theorem dX5_give_86 : decode cX5_give 86 = .ok (.iload 5, 2) := by decide +kernel
theorem dX5_give_88 : decode cX5_give 88 = .ok (.iadd, 1) := by decide +kernel
theorem dX5_give_89 : decode cX5_give 89 = .ok (.ireturn, 1) := by decide +kernel
theorem dX5_advance_0 : decode cX5_advance 0 = .ok (.iload_n 1, 1) := by decide +kernel
theorem dX5_advance_1 : decode cX5_advance 1 = .ok (.iconst 1, 1) := by decide +kernel
theorem dX5_advance_2 : decode cX5_advance 2 = .ok (.bipush 60, 2) := by decide +kernel
theorem dX5_advance_4 : decode cX5_advance 4 = .ok (.invokestatic 46, 3) := by decide +kernel
theorem dX5_advance_7 : decode cX5_advance 7 = .ok (.aload_n 0, 1) := by decide +kernel
theorem dX5_advance_8 : decode cX5_advance 8 = .ok (.getfield 65, 3) := by decide +kernel
theorem dX5_advance_11 : decode cX5_advance 11 = .ok (.iload_n 1, 1) := by decide +kernel
theorem dX5_advance_12 : decode cX5_advance 12 = .ok (.iadd, 1) := by decide +kernel
theorem dX5_advance_13 : decode cX5_advance 13 = .ok (.sipush 2000, 3) := by decide +kernel
theorem dX5_advance_16 : decode cX5_advance 16 = .ok (.if_icmp .le 13, 3) := by decide +kernel
theorem dX5_advance_19 : decode cX5_advance 19 = .ok (.new 72, 3) := by decide +kernel
theorem dX5_advance_22 : decode cX5_advance 22 = .ok (.dup, 1) := by decide +kernel
theorem dX5_advance_23 : decode cX5_advance 23 = .ok (.ldc 223, 2) := by decide +kernel
theorem dX5_advance_25 : decode cX5_advance 25 = .ok (.invokespecial 76, 3) := by decide +kernel
theorem dX5_advance_28 : decode cX5_advance 28 = .ok (.athrow, 1) := by decide +kernel
theorem dX5_advance_29 : decode cX5_advance 29 = .ok (.iconst 0, 1) := by decide +kernel
theorem dX5_advance_30 : decode cX5_advance 30 = .ok (.istore_n 2, 1) := by decide +kernel
theorem dX5_advance_31 : decode cX5_advance 31 = .ok (.iload_n 2, 1) := by decide +kernel
theorem dX5_advance_32 : decode cX5_advance 32 = .ok (.iload_n 1, 1) := by decide +kernel
theorem dX5_advance_33 : decode cX5_advance 33 = .ok (.if_icmp .ge 13, 3) := by decide +kernel
theorem dX5_advance_36 : decode cX5_advance 36 = .ok (.aload_n 0, 1) := by decide +kernel
theorem dX5_advance_37 : decode cX5_advance 37 = .ok (.invokevirtual 225, 3) := by decide +kernel
theorem dX5_advance_40 : decode cX5_advance 40 = .ok (.iinc 2 1, 3) := by decide +kernel
theorem dX5_advance_43 : decode cX5_advance 43 = .ok (.goto (-12), 3) := by decide +kernel
theorem dX5_advance_46 : decode cX5_advance 46 = .ok (.aload_n 0, 1) := by decide +kernel
theorem dX5_advance_47 : decode cX5_advance 47 = .ok (.getfield 65, 3) := by decide +kernel
theorem dX5_advance_50 : decode cX5_advance 50 = .ok (.ireturn, 1) := by decide +kernel
theorem dX5_day_0 : decode cX5_day 0 = .ok (.aload_n 0, 1) := by decide +kernel
theorem dX5_day_1 : decode cX5_day 1 = .ok (.getfield 65, 3) := by decide +kernel
theorem dX5_day_4 : decode cX5_day 4 = .ok (.ireturn, 1) := by decide +kernel
theorem dX5_tickets_0 : decode cX5_tickets 0 = .ok (.aload_n 0, 1) := by decide +kernel
theorem dX5_tickets_1 : decode cX5_tickets 1 = .ok (.getfield 30, 3) := by decide +kernel
theorem dX5_tickets_4 : decode cX5_tickets 4 = .ok (.invokevirtual 173, 3) := by decide +kernel
theorem dX5_tickets_7 : decode cX5_tickets 7 = .ok (.ireturn, 1) := by decide +kernel
theorem dX5_whereIs_0 : decode cX5_whereIs 0 = .ok (.aload_n 0, 1) := by decide +kernel
theorem dX5_whereIs_1 : decode cX5_whereIs 1 = .ok (.iload_n 1, 1) := by decide +kernel
theorem dX5_whereIs_2 : decode cX5_whereIs 2 = .ok (.invokevirtual 87, 3) := by decide +kernel
theorem dX5_whereIs_5 : decode cX5_whereIs 5 = .ok (.astore_n 2, 1) := by decide +kernel
theorem dX5_whereIs_6 : decode cX5_whereIs 6 = .ok (.aload_n 2, 1) := by decide +kernel
theorem dX5_whereIs_7 : decode cX5_whereIs 7 = .ok (.getfield 100, 3) := by decide +kernel
theorem dX5_whereIs_10 : decode cX5_whereIs 10 = .ok (.ifCond .eq 13, 3) := by decide +kernel
theorem dX5_whereIs_13 : decode cX5_whereIs 13 = .ok (.bipush 100, 2) := by decide +kernel
theorem dX5_whereIs_15 : decode cX5_whereIs 15 = .ok (.aload_n 2, 1) := by decide +kernel
theorem dX5_whereIs_16 : decode cX5_whereIs 16 = .ok (.getfield 154, 3) := by decide +kernel
theorem dX5_whereIs_19 : decode cX5_whereIs 19 = .ok (.iadd, 1) := by decide +kernel
theorem dX5_whereIs_20 : decode cX5_whereIs 20 = .ok (.goto 7, 3) := by decide +kernel
theorem dX5_whereIs_23 : decode cX5_whereIs 23 = .ok (.aload_n 2, 1) := by decide +kernel
theorem dX5_whereIs_24 : decode cX5_whereIs 24 = .ok (.getfield 154, 3) := by decide +kernel
theorem dX5_whereIs_27 : decode cX5_whereIs 27 = .ok (.ireturn, 1) := by decide +kernel
theorem dX5_seen_0 : decode cX5_seen 0 = .ok (.aload_n 0, 1) := by decide +kernel
theorem dX5_seen_1 : decode cX5_seen 1 = .ok (.iload_n 1, 1) := by decide +kernel
theorem dX5_seen_2 : decode cX5_seen 2 = .ok (.invokevirtual 87, 3) := by decide +kernel
theorem dX5_seen_5 : decode cX5_seen 5 = .ok (.getfield 95, 3) := by decide +kernel
theorem dX5_seen_8 : decode cX5_seen 8 = .ok (.ireturn, 1) := by decide +kernel
theorem dX5_inside_0 : decode cX5_inside 0 = .ok (.aload_n 0, 1) := by decide +kernel
theorem dX5_inside_1 : decode cX5_inside 1 = .ok (.iload_n 1, 1) := by decide +kernel
theorem dX5_inside_2 : decode cX5_inside 2 = .ok (.invokevirtual 127, 3) := by decide +kernel
theorem dX5_inside_5 : decode cX5_inside 5 = .ok (.getfield 138, 3) := by decide +kernel
theorem dX5_inside_8 : decode cX5_inside 8 = .ok (.ireturn, 1) := by decide +kernel
theorem dX5_queued_0 : decode cX5_queued 0 = .ok (.aload_n 0, 1) := by decide +kernel
theorem dX5_queued_1 : decode cX5_queued 1 = .ok (.iload_n 1, 1) := by decide +kernel
theorem dX5_queued_2 : decode cX5_queued 2 = .ok (.invokevirtual 127, 3) := by decide +kernel
theorem dX5_queued_5 : decode cX5_queued 5 = .ok (.getfield 228, 3) := by decide +kernel
theorem dX5_queued_8 : decode cX5_queued 8 = .ok (.astore_n 3, 1) := by decide +kernel
theorem dX5_queued_9 : decode cX5_queued 9 = .ok (.iload_n 2, 1) := by decide +kernel
theorem dX5_queued_10 : decode cX5_queued 10 = .ok (.invokestatic 231, 3) := by decide +kernel
theorem dX5_queued_13 : decode cX5_queued 13 = .ok (.iload_n 2, 1) := by decide +kernel
theorem dX5_queued_14 : decode cX5_queued 14 = .ok (.aload_n 3, 1) := by decide +kernel
theorem dX5_queued_15 : decode cX5_queued 15 = .ok (.invokevirtual 173, 3) := by decide +kernel
theorem dX5_queued_18 : decode cX5_queued 18 = .ok (.if_icmp .ge 17, 3) := by decide +kernel
theorem dX5_queued_21 : decode cX5_queued 21 = .ok (.aload_n 3, 1) := by decide +kernel
theorem dX5_queued_22 : decode cX5_queued 22 = .ok (.iload_n 2, 1) := by decide +kernel
theorem dX5_queued_23 : decode cX5_queued 23 = .ok (.invokevirtual 234, 3) := by decide +kernel
theorem dX5_queued_26 : decode cX5_queued 26 = .ok (.checkcast 96, 3) := by decide +kernel
theorem dX5_queued_29 : decode cX5_queued 29 = .ok (.getfield 238, 3) := by decide +kernel
theorem dX5_queued_32 : decode cX5_queued 32 = .ok (.goto 4, 3) := by decide +kernel
theorem dX5_queued_35 : decode cX5_queued 35 = .ok (.iconst (-1), 1) := by decide +kernel
theorem dX5_queued_36 : decode cX5_queued 36 = .ok (.ireturn, 1) := by decide +kernel
theorem dX5_views_0 : decode cX5_views 0 = .ok (.aload_n 0, 1) := by decide +kernel
theorem dX5_views_1 : decode cX5_views 1 = .ok (.iload_n 1, 1) := by decide +kernel
theorem dX5_views_2 : decode cX5_views 2 = .ok (.invokevirtual 189, 3) := by decide +kernel
theorem dX5_views_5 : decode cX5_views 5 = .ok (.getfield 239, 3) := by decide +kernel
theorem dX5_views_8 : decode cX5_views 8 = .ok (.ireturn, 1) := by decide +kernel
theorem dX5_titleAt_0 : decode cX5_titleAt 0 = .ok (.aload_n 0, 1) := by decide +kernel
theorem dX5_titleAt_1 : decode cX5_titleAt 1 = .ok (.iload_n 1, 1) := by decide +kernel
theorem dX5_titleAt_2 : decode cX5_titleAt 2 = .ok (.invokevirtual 189, 3) := by decide +kernel
theorem dX5_titleAt_5 : decode cX5_titleAt 5 = .ok (.astore_n 3, 1) := by decide +kernel
theorem dX5_titleAt_6 : decode cX5_titleAt 6 = .ok (.iload_n 2, 1) := by decide +kernel
theorem dX5_titleAt_7 : decode cX5_titleAt 7 = .ok (.invokestatic 231, 3) := by decide +kernel
theorem dX5_titleAt_10 : decode cX5_titleAt 10 = .ok (.new 242, 3) := by decide +kernel
theorem dX5_titleAt_13 : decode cX5_titleAt 13 = .ok (.dup, 1) := by decide +kernel
theorem dX5_titleAt_14 : decode cX5_titleAt 14 = .ok (.invokespecial 244, 3) := by decide +kernel
theorem dX5_titleAt_17 : decode cX5_titleAt 17 = .ok (.astore 4, 2) := by decide +kernel
theorem dX5_titleAt_19 : decode cX5_titleAt 19 = .ok (.aload 4, 2) := by decide +kernel
theorem dX5_titleAt_21 : decode cX5_titleAt 21 = .ok (.bipush 65, 2) := by decide +kernel
theorem dX5_titleAt_23 : decode cX5_titleAt 23 = .ok (.aload_n 3, 1) := by decide +kernel
theorem dX5_titleAt_24 : decode cX5_titleAt 24 = .ok (.getfield 199, 3) := by decide +kernel
theorem dX5_titleAt_27 : decode cX5_titleAt 27 = .ok (.iadd, 1) := by decide +kernel
theorem dX5_titleAt_28 : decode cX5_titleAt 28 = .ok (.i2c, 1) := by decide +kernel
theorem dX5_titleAt_29 : decode cX5_titleAt 29 = .ok (.invokevirtual 245, 3) := by decide +kernel
theorem dX5_titleAt_32 : decode cX5_titleAt 32 = .ok (.aload_n 3, 1) := by decide +kernel
theorem dX5_titleAt_33 : decode cX5_titleAt 33 = .ok (.getfield 188, 3) := by decide +kernel
theorem dX5_titleAt_36 : decode cX5_titleAt 36 = .ok (.invokevirtual 249, 3) := by decide +kernel
theorem dX5_titleAt_39 : decode cX5_titleAt 39 = .ok (.bipush 64, 2) := by decide +kernel
theorem dX5_titleAt_41 : decode cX5_titleAt 41 = .ok (.invokevirtual 245, 3) := by decide +kernel
theorem dX5_titleAt_44 : decode cX5_titleAt 44 = .ok (.aload_n 3, 1) := by decide +kernel
theorem dX5_titleAt_45 : decode cX5_titleAt 45 = .ok (.getfield 193, 3) := by decide +kernel
theorem dX5_titleAt_48 : decode cX5_titleAt 48 = .ok (.invokevirtual 249, 3) := by decide +kernel
theorem dX5_titleAt_51 : decode cX5_titleAt 51 = .ok (.pop, 1) := by decide +kernel
theorem dX5_titleAt_52 : decode cX5_titleAt 52 = .ok (.aload_n 3, 1) := by decide +kernel
theorem dX5_titleAt_53 : decode cX5_titleAt 53 = .ok (.getfield 196, 3) := by decide +kernel
theorem dX5_titleAt_56 : decode cX5_titleAt 56 = .ok (.ifCond .eq 18, 3) := by decide +kernel
theorem dX5_titleAt_59 : decode cX5_titleAt 59 = .ok (.aload 4, 2) := by decide +kernel
theorem dX5_titleAt_61 : decode cX5_titleAt 61 = .ok (.bipush 36, 2) := by decide +kernel
theorem dX5_titleAt_63 : decode cX5_titleAt 63 = .ok (.invokevirtual 245, 3) := by decide +kernel
theorem dX5_titleAt_66 : decode cX5_titleAt 66 = .ok (.aload_n 3, 1) := by decide +kernel
theorem dX5_titleAt_67 : decode cX5_titleAt 67 = .ok (.getfield 202, 3) := by decide +kernel
theorem dX5_titleAt_70 : decode cX5_titleAt 70 = .ok (.invokevirtual 249, 3) := by decide +kernel
theorem dX5_titleAt_73 : decode cX5_titleAt 73 = .ok (.pop, 1) := by decide +kernel
theorem dX5_titleAt_74 : decode cX5_titleAt 74 = .ok (.iload_n 2, 1) := by decide +kernel
theorem dX5_titleAt_75 : decode cX5_titleAt 75 = .ok (.aload 4, 2) := by decide +kernel
theorem dX5_titleAt_77 : decode cX5_titleAt 77 = .ok (.invokevirtual 252, 3) := by decide +kernel
theorem dX5_titleAt_80 : decode cX5_titleAt 80 = .ok (.if_icmp .ge 12, 3) := by decide +kernel
theorem dX5_titleAt_83 : decode cX5_titleAt 83 = .ok (.aload 4, 2) := by decide +kernel
theorem dX5_titleAt_85 : decode cX5_titleAt 85 = .ok (.iload_n 2, 1) := by decide +kernel
theorem dX5_titleAt_86 : decode cX5_titleAt 86 = .ok (.invokevirtual 255, 3) := by decide +kernel
theorem dX5_titleAt_89 : decode cX5_titleAt 89 = .ok (.goto 4, 3) := by decide +kernel
theorem dX5_titleAt_92 : decode cX5_titleAt 92 = .ok (.iconst (-1), 1) := by decide +kernel
theorem dX5_titleAt_93 : decode cX5_titleAt 93 = .ok (.ireturn, 1) := by decide +kernel
theorem dX5_money_0 : decode cX5_money 0 = .ok (.aload_n 0, 1) := by decide +kernel
theorem dX5_money_1 : decode cX5_money 1 = .ok (.iload_n 1, 1) := by decide +kernel
theorem dX5_money_2 : decode cX5_money 2 = .ok (.invokevirtual 42, 3) := by decide +kernel
theorem dX5_money_5 : decode cX5_money 5 = .ok (.getfield 259, 3) := by decide +kernel
theorem dX5_money_8 : decode cX5_money 8 = .ok (.ireturn, 1) := by decide +kernel
theorem dX5_moneyBySeen_0 : decode cX5_moneyBySeen 0 = .ok (.aload_n 0, 1) := by decide +kernel
theorem dX5_moneyBySeen_1 : decode cX5_moneyBySeen 1 = .ok (.iload_n 1, 1) := by decide +kernel
theorem dX5_moneyBySeen_2 : decode cX5_moneyBySeen 2 = .ok (.invokevirtual 42, 3) := by decide +kernel
theorem dX5_moneyBySeen_5 : decode cX5_moneyBySeen 5 = .ok (.astore_n 2, 1) := by decide +kernel
theorem dX5_moneyBySeen_6 : decode cX5_moneyBySeen 6 = .ok (.aload_n 2, 1) := by decide +kernel
theorem dX5_moneyBySeen_7 : decode cX5_moneyBySeen 7 = .ok (.getfield 262, 3) := by decide +kernel
theorem dX5_moneyBySeen_10 : decode cX5_moneyBySeen 10 = .ok (.aload_n 2, 1) := by decide +kernel
theorem dX5_moneyBySeen_11 : decode cX5_moneyBySeen 11 = .ok (.getfield 265, 3) := by decide +kernel
theorem dX5_moneyBySeen_14 : decode cX5_moneyBySeen 14 = .ok (.iadd, 1) := by decide +kernel
theorem dX5_moneyBySeen_15 : decode cX5_moneyBySeen 15 = .ok (.aload_n 2, 1) := by decide +kernel
theorem dX5_moneyBySeen_16 : decode cX5_moneyBySeen 16 = .ok (.getfield 268, 3) := by decide +kernel
theorem dX5_moneyBySeen_19 : decode cX5_moneyBySeen 19 = .ok (.iadd, 1) := by decide +kernel
theorem dX5_moneyBySeen_20 : decode cX5_moneyBySeen 20 = .ok (.aload_n 0, 1) := by decide +kernel
theorem dX5_moneyBySeen_21 : decode cX5_moneyBySeen 21 = .ok (.iload_n 1, 1) := by decide +kernel
theorem dX5_moneyBySeen_22 : decode cX5_moneyBySeen 22 = .ok (.invokevirtual 271, 3) := by decide +kernel
theorem dX5_moneyBySeen_25 : decode cX5_moneyBySeen 25 = .ok (.iadd, 1) := by decide +kernel
theorem dX5_moneyBySeen_26 : decode cX5_moneyBySeen 26 = .ok (.aload_n 0, 1) := by decide +kernel
theorem dX5_moneyBySeen_27 : decode cX5_moneyBySeen 27 = .ok (.iload_n 1, 1) := by decide +kernel
theorem dX5_moneyBySeen_28 : decode cX5_moneyBySeen 28 = .ok (.invokevirtual 275, 3) := by decide +kernel
theorem dX5_moneyBySeen_31 : decode cX5_moneyBySeen 31 = .ok (.iadd, 1) := by decide +kernel
theorem dX5_moneyBySeen_32 : decode cX5_moneyBySeen 32 = .ok (.ireturn, 1) := by decide +kernel
theorem dX5_held_0 : decode cX5_held 0 = .ok (.iconst 0, 1) := by decide +kernel
theorem dX5_held_1 : decode cX5_held 1 = .ok (.istore_n 1, 1) := by decide +kernel
theorem dX5_held_2 : decode cX5_held 2 = .ok (.aload_n 0, 1) := by decide +kernel
theorem dX5_held_3 : decode cX5_held 3 = .ok (.getfield 278, 3) := by decide +kernel
theorem dX5_held_6 : decode cX5_held 6 = .ok (.istore_n 2, 1) := by decide +kernel
theorem dX5_held_7 : decode cX5_held 7 = .ok (.iload_n 2, 1) := by decide +kernel
theorem dX5_held_8 : decode cX5_held 8 = .ok (.aload_n 0, 1) := by decide +kernel
theorem dX5_held_9 : decode cX5_held 9 = .ok (.getfield 30, 3) := by decide +kernel
theorem dX5_held_12 : decode cX5_held 12 = .ok (.invokevirtual 173, 3) := by decide +kernel
theorem dX5_held_15 : decode cX5_held 15 = .ok (.if_icmp .ge 39, 3) := by decide +kernel
theorem dX5_held_18 : decode cX5_held 18 = .ok (.aload_n 0, 1) := by decide +kernel
theorem dX5_held_19 : decode cX5_held 19 = .ok (.getfield 30, 3) := by decide +kernel
theorem dX5_held_22 : decode cX5_held 22 = .ok (.iload_n 2, 1) := by decide +kernel
theorem dX5_held_23 : decode cX5_held 23 = .ok (.invokevirtual 234, 3) := by decide +kernel
theorem dX5_held_26 : decode cX5_held 26 = .ok (.checkcast 96, 3) := by decide +kernel
theorem dX5_held_29 : decode cX5_held 29 = .ok (.astore_n 3, 1) := by decide +kernel
theorem dX5_held_30 : decode cX5_held 30 = .ok (.iload_n 1, 1) := by decide +kernel
theorem dX5_held_31 : decode cX5_held 31 = .ok (.aload_n 3, 1) := by decide +kernel
theorem dX5_held_32 : decode cX5_held 32 = .ok (.getfield 110, 3) := by decide +kernel
theorem dX5_held_35 : decode cX5_held 35 = .ok (.ifCond .eq 7, 3) := by decide +kernel
theorem dX5_held_38 : decode cX5_held 38 = .ok (.iconst 0, 1) := by decide +kernel
theorem dX5_held_39 : decode cX5_held 39 = .ok (.goto 7, 3) := by decide +kernel
theorem dX5_held_42 : decode cX5_held 42 = .ok (.aload_n 3, 1) := by decide +kernel
theorem dX5_held_43 : decode cX5_held 43 = .ok (.getfield 116, 3) := by decide +kernel
theorem dX5_held_46 : decode cX5_held 46 = .ok (.iadd, 1) := by decide +kernel
theorem dX5_held_47 : decode cX5_held 47 = .ok (.istore_n 1, 1) := by decide +kernel
theorem dX5_held_48 : decode cX5_held 48 = .ok (.iinc 2 1, 3) := by decide +kernel
theorem dX5_held_51 : decode cX5_held 51 = .ok (.goto (-44), 3) := by decide +kernel
theorem dX5_held_54 : decode cX5_held 54 = .ok (.iconst 0, 1) := by decide +kernel
theorem dX5_held_55 : decode cX5_held 55 = .ok (.istore_n 2, 1) := by decide +kernel
theorem dX5_held_56 : decode cX5_held 56 = .ok (.iload_n 2, 1) := by decide +kernel
theorem dX5_held_57 : decode cX5_held 57 = .ok (.aload_n 0, 1) := by decide +kernel
theorem dX5_held_58 : decode cX5_held 58 = .ok (.getfield 23, 3) := by decide +kernel
theorem dX5_held_61 : decode cX5_held 61 = .ok (.arraylength, 1) := by decide +kernel
theorem dX5_held_62 : decode cX5_held 62 = .ok (.if_icmp .ge 29, 3) := by decide +kernel
theorem dX5_held_65 : decode cX5_held 65 = .ok (.iload_n 1, 1) := by decide +kernel
theorem dX5_held_66 : decode cX5_held 66 = .ok (.aload_n 0, 1) := by decide +kernel
theorem dX5_held_67 : decode cX5_held 67 = .ok (.getfield 23, 3) := by decide +kernel
theorem dX5_held_70 : decode cX5_held 70 = .ok (.iload_n 2, 1) := by decide +kernel
theorem dX5_held_71 : decode cX5_held 71 = .ok (.aaload, 1) := by decide +kernel
theorem dX5_held_72 : decode cX5_held 72 = .ok (.aload_n 0, 1) := by decide +kernel
theorem dX5_held_73 : decode cX5_held 73 = .ok (.getfield 65, 3) := by decide +kernel
theorem dX5_held_76 : decode cX5_held 76 = .ok (.invokevirtual 281, 3) := by decide +kernel
theorem dX5_held_79 : decode cX5_held 79 = .ok (.sipush 200, 3) := by decide +kernel
theorem dX5_held_82 : decode cX5_held 82 = .ok (.imul, 1) := by decide +kernel
theorem dX5_held_83 : decode cX5_held 83 = .ok (.iadd, 1) := by decide +kernel
theorem dX5_held_84 : decode cX5_held 84 = .ok (.istore_n 1, 1) := by decide +kernel
theorem dX5_held_85 : decode cX5_held 85 = .ok (.iinc 2 1, 3) := by decide +kernel
theorem dX5_held_88 : decode cX5_held 88 = .ok (.goto (-32), 3) := by decide +kernel
theorem dX5_held_91 : decode cX5_held 91 = .ok (.iload_n 1, 1) := by decide +kernel
theorem dX5_held_92 : decode cX5_held 92 = .ok (.ireturn, 1) := by decide +kernel
theorem dX5_takings_0 : decode cX5_takings 0 = .ok (.aload_n 0, 1) := by decide +kernel
theorem dX5_takings_1 : decode cX5_takings 1 = .ok (.getfield 113, 3) := by decide +kernel
theorem dX5_takings_4 : decode cX5_takings 4 = .ok (.ireturn, 1) := by decide +kernel
theorem dX5_tillAt_0 : decode cX5_tillAt 0 = .ok (.iload_n 1, 1) := by decide +kernel
theorem dX5_tillAt_1 : decode cX5_tillAt 1 = .ok (.iconst (-1), 1) := by decide +kernel
theorem dX5_tillAt_2 : decode cX5_tillAt 2 = .ok (.if_icmp .lt 8, 3) := by decide +kernel
theorem dX5_tillAt_5 : decode cX5_tillAt 5 = .ok (.iload_n 1, 1) := by decide +kernel
theorem dX5_tillAt_6 : decode cX5_tillAt 6 = .ok (.iconst 4, 1) := by decide +kernel
theorem dX5_tillAt_7 : decode cX5_tillAt 7 = .ok (.if_icmp .lt 14, 3) := by decide +kernel
theorem dX5_tillAt_10 : decode cX5_tillAt 10 = .ok (.new 284, 3) := by decide +kernel
theorem dX5_tillAt_13 : decode cX5_tillAt 13 = .ok (.dup, 1) := by decide +kernel
theorem dX5_tillAt_14 : decode cX5_tillAt 14 = .ok (.ldc_w 286, 3) := by decide +kernel
theorem dX5_tillAt_17 : decode cX5_tillAt 17 = .ok (.invokespecial 288, 3) := by decide +kernel
theorem dX5_tillAt_20 : decode cX5_tillAt 20 = .ok (.athrow, 1) := by decide +kernel
theorem dX5_tillAt_21 : decode cX5_tillAt 21 = .ok (.aload_n 0, 1) := by decide +kernel
theorem dX5_tillAt_22 : decode cX5_tillAt 22 = .ok (.getfield 11, 3) := by decide +kernel
theorem dX5_tillAt_25 : decode cX5_tillAt 25 = .ok (.iload_n 1, 1) := by decide +kernel
theorem dX5_tillAt_26 : decode cX5_tillAt 26 = .ok (.iconst 1, 1) := by decide +kernel
theorem dX5_tillAt_27 : decode cX5_tillAt 27 = .ok (.iadd, 1) := by decide +kernel
theorem dX5_tillAt_28 : decode cX5_tillAt 28 = .ok (.aaload, 1) := by decide +kernel
theorem dX5_tillAt_29 : decode cX5_tillAt 29 = .ok (.areturn, 1) := by decide +kernel
theorem dX5_checkRealHouse_0 : decode cX5_checkRealHouse 0 = .ok (.iload_n 0, 1) := by decide +kernel
theorem dX5_checkRealHouse_1 : decode cX5_checkRealHouse 1 = .ok (.ifCond .lt 8, 3) := by decide +kernel
theorem dX5_checkRealHouse_4 : decode cX5_checkRealHouse 4 = .ok (.iload_n 0, 1) := by decide +kernel
theorem dX5_checkRealHouse_5 : decode cX5_checkRealHouse 5 = .ok (.iconst 4, 1) := by decide +kernel
theorem dX5_checkRealHouse_6 : decode cX5_checkRealHouse 6 = .ok (.if_icmp .lt 14, 3) := by decide +kernel
theorem dX5_checkRealHouse_9 : decode cX5_checkRealHouse 9 = .ok (.new 284, 3) := by decide +kernel
theorem dX5_checkRealHouse_12 : decode cX5_checkRealHouse 12 = .ok (.dup, 1) := by decide +kernel
theorem dX5_checkRealHouse_13 : decode cX5_checkRealHouse 13 = .ok (.ldc_w 286, 3) := by decide +kernel
theorem dX5_checkRealHouse_16 : decode cX5_checkRealHouse 16 = .ok (.invokespecial 288, 3) := by decide +kernel
theorem dX5_checkRealHouse_19 : decode cX5_checkRealHouse 19 = .ok (.athrow, 1) := by decide +kernel
theorem dX5_checkRealHouse_20 : decode cX5_checkRealHouse 20 = .ok (.return_, 1) := by decide +kernel
theorem dX5_roomAt_0 : decode cX5_roomAt 0 = .ok (.iload_n 1, 1) := by decide +kernel
theorem dX5_roomAt_1 : decode cX5_roomAt 1 = .ok (.ifCond .lt 12, 3) := by decide +kernel
theorem dX5_roomAt_4 : decode cX5_roomAt 4 = .ok (.iload_n 1, 1) := by decide +kernel
theorem dX5_roomAt_5 : decode cX5_roomAt 5 = .ok (.aload_n 0, 1) := by decide +kernel
theorem dX5_roomAt_6 : decode cX5_roomAt 6 = .ok (.getfield 17, 3) := by decide +kernel
theorem dX5_roomAt_9 : decode cX5_roomAt 9 = .ok (.arraylength, 1) := by decide +kernel
theorem dX5_roomAt_10 : decode cX5_roomAt 10 = .ok (.if_icmp .lt 14, 3) := by decide +kernel
theorem dX5_roomAt_13 : decode cX5_roomAt 13 = .ok (.new 284, 3) := by decide +kernel
theorem dX5_roomAt_16 : decode cX5_roomAt 16 = .ok (.dup, 1) := by decide +kernel
theorem dX5_roomAt_17 : decode cX5_roomAt 17 = .ok (.ldc_w 289, 3) := by decide +kernel
theorem dX5_roomAt_20 : decode cX5_roomAt 20 = .ok (.invokespecial 288, 3) := by decide +kernel
theorem dX5_roomAt_23 : decode cX5_roomAt 23 = .ok (.athrow, 1) := by decide +kernel
theorem dX5_roomAt_24 : decode cX5_roomAt 24 = .ok (.aload_n 0, 1) := by decide +kernel
theorem dX5_roomAt_25 : decode cX5_roomAt 25 = .ok (.getfield 17, 3) := by decide +kernel
theorem dX5_roomAt_28 : decode cX5_roomAt 28 = .ok (.iload_n 1, 1) := by decide +kernel
theorem dX5_roomAt_29 : decode cX5_roomAt 29 = .ok (.aaload, 1) := by decide +kernel
theorem dX5_roomAt_30 : decode cX5_roomAt 30 = .ok (.areturn, 1) := by decide +kernel
theorem dX5_memberAt_0 : decode cX5_memberAt 0 = .ok (.iload_n 1, 1) := by decide +kernel
theorem dX5_memberAt_1 : decode cX5_memberAt 1 = .ok (.ifCond .lt 12, 3) := by decide +kernel
theorem dX5_memberAt_4 : decode cX5_memberAt 4 = .ok (.iload_n 1, 1) := by decide +kernel
theorem dX5_memberAt_5 : decode cX5_memberAt 5 = .ok (.aload_n 0, 1) := by decide +kernel
theorem dX5_memberAt_6 : decode cX5_memberAt 6 = .ok (.getfield 23, 3) := by decide +kernel
theorem dX5_memberAt_9 : decode cX5_memberAt 9 = .ok (.arraylength, 1) := by decide +kernel
theorem dX5_memberAt_10 : decode cX5_memberAt 10 = .ok (.if_icmp .lt 14, 3) := by decide +kernel
theorem dX5_memberAt_13 : decode cX5_memberAt 13 = .ok (.new 284, 3) := by decide +kernel
theorem dX5_memberAt_16 : decode cX5_memberAt 16 = .ok (.dup, 1) := by decide +kernel
theorem dX5_memberAt_17 : decode cX5_memberAt 17 = .ok (.ldc_w 291, 3) := by decide +kernel
theorem dX5_memberAt_20 : decode cX5_memberAt 20 = .ok (.invokespecial 288, 3) := by decide +kernel
theorem dX5_memberAt_23 : decode cX5_memberAt 23 = .ok (.athrow, 1) := by decide +kernel
theorem dX5_memberAt_24 : decode cX5_memberAt 24 = .ok (.aload_n 0, 1) := by decide +kernel
theorem dX5_memberAt_25 : decode cX5_memberAt 25 = .ok (.getfield 23, 3) := by decide +kernel
theorem dX5_memberAt_28 : decode cX5_memberAt 28 = .ok (.iload_n 1, 1) := by decide +kernel
theorem dX5_memberAt_29 : decode cX5_memberAt 29 = .ok (.aaload, 1) := by decide +kernel
theorem dX5_memberAt_30 : decode cX5_memberAt 30 = .ok (.areturn, 1) := by decide +kernel
theorem dX5_ticketAt_0 : decode cX5_ticketAt 0 = .ok (.iload_n 1, 1) := by decide +kernel
theorem dX5_ticketAt_1 : decode cX5_ticketAt 1 = .ok (.ifCond .lt 14, 3) := by decide +kernel
theorem dX5_ticketAt_4 : decode cX5_ticketAt 4 = .ok (.iload_n 1, 1) := by decide +kernel
theorem dX5_ticketAt_5 : decode cX5_ticketAt 5 = .ok (.aload_n 0, 1) := by decide +kernel
theorem dX5_ticketAt_6 : decode cX5_ticketAt 6 = .ok (.getfield 30, 3) := by decide +kernel
theorem dX5_ticketAt_9 : decode cX5_ticketAt 9 = .ok (.invokevirtual 173, 3) := by decide +kernel
theorem dX5_ticketAt_12 : decode cX5_ticketAt 12 = .ok (.if_icmp .lt 14, 3) := by decide +kernel
theorem dX5_ticketAt_15 : decode cX5_ticketAt 15 = .ok (.new 284, 3) := by decide +kernel
theorem dX5_ticketAt_18 : decode cX5_ticketAt 18 = .ok (.dup, 1) := by decide +kernel
theorem dX5_ticketAt_19 : decode cX5_ticketAt 19 = .ok (.ldc_w 293, 3) := by decide +kernel
theorem dX5_ticketAt_22 : decode cX5_ticketAt 22 = .ok (.invokespecial 288, 3) := by decide +kernel
theorem dX5_ticketAt_25 : decode cX5_ticketAt 25 = .ok (.athrow, 1) := by decide +kernel
theorem dX5_ticketAt_26 : decode cX5_ticketAt 26 = .ok (.aload_n 0, 1) := by decide +kernel
theorem dX5_ticketAt_27 : decode cX5_ticketAt 27 = .ok (.getfield 30, 3) := by decide +kernel
theorem dX5_ticketAt_30 : decode cX5_ticketAt 30 = .ok (.iload_n 1, 1) := by decide +kernel
theorem dX5_ticketAt_31 : decode cX5_ticketAt 31 = .ok (.invokevirtual 234, 3) := by decide +kernel
theorem dX5_ticketAt_34 : decode cX5_ticketAt 34 = .ok (.checkcast 96, 3) := by decide +kernel
theorem dX5_ticketAt_37 : decode cX5_ticketAt 37 = .ok (.areturn, 1) := by decide +kernel
theorem dX5_workAt_0 : decode cX5_workAt 0 = .ok (.iload_n 1, 1) := by decide +kernel
theorem dX5_workAt_1 : decode cX5_workAt 1 = .ok (.ifCond .lt 14, 3) := by decide +kernel
theorem dX5_workAt_4 : decode cX5_workAt 4 = .ok (.iload_n 1, 1) := by decide +kernel
theorem dX5_workAt_5 : decode cX5_workAt 5 = .ok (.aload_n 0, 1) := by decide +kernel
theorem dX5_workAt_6 : decode cX5_workAt 6 = .ok (.getfield 34, 3) := by decide +kernel
theorem dX5_workAt_9 : decode cX5_workAt 9 = .ok (.invokevirtual 173, 3) := by decide +kernel
theorem dX5_workAt_12 : decode cX5_workAt 12 = .ok (.if_icmp .lt 14, 3) := by decide +kernel
theorem dX5_workAt_15 : decode cX5_workAt 15 = .ok (.new 284, 3) := by decide +kernel
theorem dX5_workAt_18 : decode cX5_workAt 18 = .ok (.dup, 1) := by decide +kernel
theorem dX5_workAt_19 : decode cX5_workAt 19 = .ok (.ldc_w 295, 3) := by decide +kernel
theorem dX5_workAt_22 : decode cX5_workAt 22 = .ok (.invokespecial 288, 3) := by decide +kernel
theorem dX5_workAt_25 : decode cX5_workAt 25 = .ok (.athrow, 1) := by decide +kernel
theorem dX5_workAt_26 : decode cX5_workAt 26 = .ok (.aload_n 0, 1) := by decide +kernel
theorem dX5_workAt_27 : decode cX5_workAt 27 = .ok (.getfield 34, 3) := by decide +kernel
theorem dX5_workAt_30 : decode cX5_workAt 30 = .ok (.iload_n 1, 1) := by decide +kernel
theorem dX5_workAt_31 : decode cX5_workAt 31 = .ok (.invokevirtual 234, 3) := by decide +kernel
theorem dX5_workAt_34 : decode cX5_workAt 34 = .ok (.checkcast 179, 3) := by decide +kernel
theorem dX5_workAt_37 : decode cX5_workAt 37 = .ok (.areturn, 1) := by decide +kernel
theorem dX5_checkPlace_0 : decode cX5_checkPlace 0 = .ok (.iload_n 0, 1) := by decide +kernel
theorem dX5_checkPlace_1 : decode cX5_checkPlace 1 = .ok (.ifCond .ge 14, 3) := by decide +kernel
theorem dX5_checkPlace_4 : decode cX5_checkPlace 4 = .ok (.new 284, 3) := by decide +kernel
theorem dX5_checkPlace_7 : decode cX5_checkPlace 7 = .ok (.dup, 1) := by decide +kernel
theorem dX5_checkPlace_8 : decode cX5_checkPlace 8 = .ok (.ldc_w 297, 3) := by decide +kernel
theorem dX5_checkPlace_11 : decode cX5_checkPlace 11 = .ok (.invokespecial 288, 3) := by decide +kernel
theorem dX5_checkPlace_14 : decode cX5_checkPlace 14 = .ok (.athrow, 1) := by decide +kernel
theorem dX5_checkPlace_15 : decode cX5_checkPlace 15 = .ok (.return_, 1) := by decide +kernel
theorem dX5_checkRange_0 : decode cX5_checkRange 0 = .ok (.iload_n 0, 1) := by decide +kernel
theorem dX5_checkRange_1 : decode cX5_checkRange 1 = .ok (.iload_n 1, 1) := by decide +kernel
theorem dX5_checkRange_2 : decode cX5_checkRange 2 = .ok (.if_icmp .lt 8, 3) := by decide +kernel
theorem dX5_checkRange_5 : decode cX5_checkRange 5 = .ok (.iload_n 0, 1) := by decide +kernel
theorem dX5_checkRange_6 : decode cX5_checkRange 6 = .ok (.iload_n 2, 1) := by decide +kernel
theorem dX5_checkRange_7 : decode cX5_checkRange 7 = .ok (.if_icmp .le 14, 3) := by decide +kernel
theorem dX5_checkRange_10 : decode cX5_checkRange 10 = .ok (.new 299, 3) := by decide +kernel
theorem dX5_checkRange_13 : decode cX5_checkRange 13 = .ok (.dup, 1) := by decide +kernel
theorem dX5_checkRange_14 : decode cX5_checkRange 14 = .ok (.ldc_w 301, 3) := by decide +kernel
theorem dX5_checkRange_17 : decode cX5_checkRange 17 = .ok (.invokespecial 303, 3) := by decide +kernel
theorem dX5_checkRange_20 : decode cX5_checkRange 20 = .ok (.athrow, 1) := by decide +kernel
theorem dX5_checkRange_21 : decode cX5_checkRange 21 = .ok (.return_, 1) := by decide +kernel
theorem dX5_checkTicketsLeft_0 : decode cX5_checkTicketsLeft 0 = .ok (.aload_n 0, 1) := by decide +kernel
theorem dX5_checkTicketsLeft_1 : decode cX5_checkTicketsLeft 1 = .ok (.getfield 30, 3) := by decide +kernel
theorem dX5_checkTicketsLeft_4 : decode cX5_checkTicketsLeft 4 = .ok (.invokevirtual 173, 3) := by decide +kernel
theorem dX5_checkTicketsLeft_7 : decode cX5_checkTicketsLeft 7 = .ok (.bipush 80, 2) := by decide +kernel
theorem dX5_checkTicketsLeft_9 : decode cX5_checkTicketsLeft 9 = .ok (.if_icmp .lt 14, 3) := by decide +kernel
theorem dX5_checkTicketsLeft_12 : decode cX5_checkTicketsLeft 12 = .ok (.new 72, 3) := by decide +kernel
theorem dX5_checkTicketsLeft_15 : decode cX5_checkTicketsLeft 15 = .ok (.dup, 1) := by decide +kernel
theorem dX5_checkTicketsLeft_16 : decode cX5_checkTicketsLeft 16 = .ok (.ldc_w 304, 3) := by decide +kernel
theorem dX5_checkTicketsLeft_19 : decode cX5_checkTicketsLeft 19 = .ok (.invokespecial 76, 3) := by decide +kernel
theorem dX5_checkTicketsLeft_22 : decode cX5_checkTicketsLeft 22 = .ok (.athrow, 1) := by decide +kernel
theorem dX5_checkTicketsLeft_23 : decode cX5_checkTicketsLeft 23 = .ok (.return_, 1) := by decide +kernel
theorem dX5_checkUsable_0 : decode cX5_checkUsable 0 = .ok (.aload_n 1, 1) := by decide +kernel
theorem dX5_checkUsable_1 : decode cX5_checkUsable 1 = .ok (.getfield 238, 3) := by decide +kernel
theorem dX5_checkUsable_4 : decode cX5_checkUsable 4 = .ok (.aload_n 0, 1) := by decide +kernel
theorem dX5_checkUsable_5 : decode cX5_checkUsable 5 = .ok (.getfield 278, 3) := by decide +kernel
theorem dX5_checkUsable_8 : decode cX5_checkUsable 8 = .ok (.if_icmp .lt 10, 3) := by decide +kernel
theorem dX5_checkUsable_11 : decode cX5_checkUsable 11 = .ok (.aload_n 1, 1) := by decide +kernel
theorem dX5_checkUsable_12 : decode cX5_checkUsable 12 = .ok (.getfield 110, 3) := by decide +kernel
theorem dX5_checkUsable_15 : decode cX5_checkUsable 15 = .ok (.ifCond .eq 14, 3) := by decide +kernel
theorem dX5_checkUsable_18 : decode cX5_checkUsable 18 = .ok (.new 72, 3) := by decide +kernel
theorem dX5_checkUsable_21 : decode cX5_checkUsable 21 = .ok (.dup, 1) := by decide +kernel
theorem dX5_checkUsable_22 : decode cX5_checkUsable 22 = .ok (.ldc_w 306, 3) := by decide +kernel
theorem dX5_checkUsable_25 : decode cX5_checkUsable 25 = .ok (.invokespecial 76, 3) := by decide +kernel
theorem dX5_checkUsable_28 : decode cX5_checkUsable 28 = .ok (.athrow, 1) := by decide +kernel
theorem dX5_checkUsable_29 : decode cX5_checkUsable 29 = .ok (.return_, 1) := by decide +kernel
theorem dX5_issue_0 : decode cX5_issue 0 = .ok (.new 96, 3) := by decide +kernel
theorem dX5_issue_3 : decode cX5_issue 3 = .ok (.dup, 1) := by decide +kernel
theorem dX5_issue_4 : decode cX5_issue 4 = .ok (.aload_n 0, 1) := by decide +kernel
theorem dX5_issue_5 : decode cX5_issue 5 = .ok (.getfield 30, 3) := by decide +kernel
theorem dX5_issue_8 : decode cX5_issue 8 = .ok (.invokevirtual 173, 3) := by decide +kernel
theorem dX5_issue_11 : decode cX5_issue 11 = .ok (.iload_n 1, 1) := by decide +kernel
theorem dX5_issue_12 : decode cX5_issue 12 = .ok (.iload_n 2, 1) := by decide +kernel
theorem dX5_issue_13 : decode cX5_issue 13 = .ok (.iload_n 3, 1) := by decide +kernel
theorem dX5_issue_14 : decode cX5_issue 14 = .ok (.iload 4, 2) := by decide +kernel
theorem dX5_issue_16 : decode cX5_issue 16 = .ok (.invokespecial 308, 3) := by decide +kernel
theorem dX5_issue_19 : decode cX5_issue 19 = .ok (.astore 5, 2) := by decide +kernel
theorem dX5_issue_21 : decode cX5_issue 21 = .ok (.aload_n 0, 1) := by decide +kernel
theorem dX5_issue_22 : decode cX5_issue 22 = .ok (.getfield 30, 3) := by decide +kernel
theorem dX5_issue_25 : decode cX5_issue 25 = .ok (.aload 5, 2) := by decide +kernel
theorem dX5_issue_27 : decode cX5_issue 27 = .ok (.invokevirtual 184, 3) := by decide +kernel
theorem dX5_issue_30 : decode cX5_issue 30 = .ok (.pop, 1) := by decide +kernel
theorem dX5_issue_31 : decode cX5_issue 31 = .ok (.aload_n 0, 1) := by decide +kernel
theorem dX5_issue_32 : decode cX5_issue 32 = .ok (.dup, 1) := by decide +kernel
theorem dX5_issue_33 : decode cX5_issue 33 = .ok (.getfield 113, 3) := by decide +kernel
theorem dX5_issue_36 : decode cX5_issue 36 = .ok (.iload 4, 2) := by decide +kernel
theorem dX5_issue_38 : decode cX5_issue 38 = .ok (.iadd, 1) := by decide +kernel
theorem dX5_issue_39 : decode cX5_issue 39 = .ok (.putfield 113, 3) := by decide +kernel
theorem dX5_issue_42 : decode cX5_issue 42 = .ok (.aload 5, 2) := by decide +kernel
theorem dX5_issue_44 : decode cX5_issue 44 = .ok (.getfield 238, 3) := by decide +kernel
theorem dX5_issue_47 : decode cX5_issue 47 = .ok (.ireturn, 1) := by decide +kernel
theorem dX5_countOfToday_0 : decode cX5_countOfToday 0 = .ok (.iconst 0, 1) := by decide +kernel
theorem dX5_countOfToday_1 : decode cX5_countOfToday 1 = .ok (.istore_n 3, 1) := by decide +kernel
theorem dX5_countOfToday_2 : decode cX5_countOfToday 2 = .ok (.aload_n 0, 1) := by decide +kernel
theorem dX5_countOfToday_3 : decode cX5_countOfToday 3 = .ok (.getfield 278, 3) := by decide +kernel
theorem dX5_countOfToday_6 : decode cX5_countOfToday 6 = .ok (.istore 4, 2) := by decide +kernel
theorem dX5_countOfToday_8 : decode cX5_countOfToday 8 = .ok (.iload 4, 2) := by decide +kernel
theorem dX5_countOfToday_10 : decode cX5_countOfToday 10 = .ok (.aload_n 0, 1) := by decide +kernel
theorem dX5_countOfToday_11 : decode cX5_countOfToday 11 = .ok (.getfield 30, 3) := by decide +kernel
theorem dX5_countOfToday_14 : decode cX5_countOfToday 14 = .ok (.invokevirtual 173, 3) := by decide +kernel
theorem dX5_countOfToday_17 : decode cX5_countOfToday 17 = .ok (.if_icmp .ge 32, 3) := by decide +kernel
theorem dX5_countOfToday_20 : decode cX5_countOfToday 20 = .ok (.aload_n 0, 1) := by decide +kernel
theorem dX5_countOfToday_21 : decode cX5_countOfToday 21 = .ok (.getfield 30, 3) := by decide +kernel
theorem dX5_countOfToday_24 : decode cX5_countOfToday 24 = .ok (.iload 4, 2) := by decide +kernel
theorem dX5_countOfToday_26 : decode cX5_countOfToday 26 = .ok (.invokevirtual 234, 3) := by decide +kernel
theorem dX5_countOfToday_29 : decode cX5_countOfToday 29 = .ok (.checkcast 96, 3) := by decide +kernel
theorem dX5_countOfToday_32 : decode cX5_countOfToday 32 = .ok (.iload_n 1, 1) := by decide +kernel
theorem dX5_countOfToday_33 : decode cX5_countOfToday 33 = .ok (.iload_n 2, 1) := by decide +kernel
theorem dX5_countOfToday_34 : decode cX5_countOfToday 34 = .ok (.invokevirtual 311, 3) := by decide +kernel
theorem dX5_countOfToday_37 : decode cX5_countOfToday 37 = .ok (.ifCond .eq 6, 3) := by decide +kernel
theorem dX5_countOfToday_40 : decode cX5_countOfToday 40 = .ok (.iinc 3 1, 3) := by decide +kernel
theorem dX5_countOfToday_43 : decode cX5_countOfToday 43 = .ok (.iinc 4 1, 3) := by decide +kernel
theorem dX5_countOfToday_46 : decode cX5_countOfToday 46 = .ok (.goto (-38), 3) := by decide +kernel
theorem dX5_countOfToday_49 : decode cX5_countOfToday 49 = .ok (.iload_n 3, 1) := by decide +kernel
theorem dX5_countOfToday_50 : decode cX5_countOfToday 50 = .ok (.ireturn, 1) := by decide +kernel
theorem dX5_areClosedFor_0 : decode cX5_areClosedFor 0 = .ok (.iconst 0, 1) := by decide +kernel
theorem dX5_areClosedFor_1 : decode cX5_areClosedFor 1 = .ok (.istore_n 2, 1) := by decide +kernel
theorem dX5_areClosedFor_2 : decode cX5_areClosedFor 2 = .ok (.iload_n 2, 1) := by decide +kernel
theorem dX5_areClosedFor_3 : decode cX5_areClosedFor 3 = .ok (.aload_n 0, 1) := by decide +kernel
theorem dX5_areClosedFor_4 : decode cX5_areClosedFor 4 = .ok (.getfield 17, 3) := by decide +kernel
theorem dX5_areClosedFor_7 : decode cX5_areClosedFor 7 = .ok (.arraylength, 1) := by decide +kernel
theorem dX5_areClosedFor_8 : decode cX5_areClosedFor 8 = .ok (.if_icmp .ge 39, 3) := by decide +kernel
theorem dX5_areClosedFor_11 : decode cX5_areClosedFor 11 = .ok (.aload_n 1, 1) := by decide +kernel
theorem dX5_areClosedFor_12 : decode cX5_areClosedFor 12 = .ok (.aload_n 0, 1) := by decide +kernel
theorem dX5_areClosedFor_13 : decode cX5_areClosedFor 13 = .ok (.getfield 17, 3) := by decide +kernel
theorem dX5_areClosedFor_16 : decode cX5_areClosedFor 16 = .ok (.iload_n 2, 1) := by decide +kernel
theorem dX5_areClosedFor_17 : decode cX5_areClosedFor 17 = .ok (.aaload, 1) := by decide +kernel
theorem dX5_areClosedFor_18 : decode cX5_areClosedFor 18 = .ok (.getfield 148, 3) := by decide +kernel
theorem dX5_areClosedFor_21 : decode cX5_areClosedFor 21 = .ok (.invokevirtual 151, 3) := by decide +kernel
theorem dX5_areClosedFor_24 : decode cX5_areClosedFor 24 = .ok (.ifCond .eq 17, 3) := by decide +kernel
theorem dX5_areClosedFor_27 : decode cX5_areClosedFor 27 = .ok (.aload_n 0, 1) := by decide +kernel
theorem dX5_areClosedFor_28 : decode cX5_areClosedFor 28 = .ok (.getfield 17, 3) := by decide +kernel
theorem dX5_areClosedFor_31 : decode cX5_areClosedFor 31 = .ok (.iload_n 2, 1) := by decide +kernel
theorem dX5_areClosedFor_32 : decode cX5_areClosedFor 32 = .ok (.aaload, 1) := by decide +kernel
theorem dX5_areClosedFor_33 : decode cX5_areClosedFor 33 = .ok (.getfield 141, 3) := by decide +kernel
theorem dX5_areClosedFor_36 : decode cX5_areClosedFor 36 = .ok (.ifCond .ne 5, 3) := by decide +kernel
theorem dX5_areClosedFor_39 : decode cX5_areClosedFor 39 = .ok (.iconst 0, 1) := by decide +kernel
theorem dX5_areClosedFor_40 : decode cX5_areClosedFor 40 = .ok (.ireturn, 1) := by decide +kernel
theorem dX5_areClosedFor_41 : decode cX5_areClosedFor 41 = .ok (.iinc 2 1, 3) := by decide +kernel
theorem dX5_areClosedFor_44 : decode cX5_areClosedFor 44 = .ok (.goto (-42), 3) := by decide +kernel
theorem dX5_areClosedFor_47 : decode cX5_areClosedFor 47 = .ok (.iconst 1, 1) := by decide +kernel
theorem dX5_areClosedFor_48 : decode cX5_areClosedFor 48 = .ok (.ireturn, 1) := by decide +kernel
theorem dX5_letQueueIn_0 : decode cX5_letQueueIn 0 = .ok (.aload_n 1, 1) := by decide +kernel
theorem dX5_letQueueIn_1 : decode cX5_letQueueIn 1 = .ok (.getfield 131, 3) := by decide +kernel
theorem dX5_letQueueIn_4 : decode cX5_letQueueIn 4 = .ok (.aload_n 1, 1) := by decide +kernel
theorem dX5_letQueueIn_5 : decode cX5_letQueueIn 5 = .ok (.getfield 138, 3) := by decide +kernel
theorem dX5_letQueueIn_8 : decode cX5_letQueueIn 8 = .ok (.isub, 1) := by decide +kernel
theorem dX5_letQueueIn_9 : decode cX5_letQueueIn 9 = .ok (.istore_n 2, 1) := by decide +kernel
theorem dX5_letQueueIn_10 : decode cX5_letQueueIn 10 = .ok (.iload_n 2, 1) := by decide +kernel
theorem dX5_letQueueIn_11 : decode cX5_letQueueIn 11 = .ok (.ifCond .le 52, 3) := by decide +kernel
theorem dX5_letQueueIn_14 : decode cX5_letQueueIn 14 = .ok (.aload_n 1, 1) := by decide +kernel
theorem dX5_letQueueIn_15 : decode cX5_letQueueIn 15 = .ok (.getfield 228, 3) := by decide +kernel
theorem dX5_letQueueIn_18 : decode cX5_letQueueIn 18 = .ok (.invokevirtual 315, 3) := by decide +kernel
theorem dX5_letQueueIn_21 : decode cX5_letQueueIn 21 = .ok (.ifCond .ne 42, 3) := by decide +kernel
theorem dX5_letQueueIn_24 : decode cX5_letQueueIn 24 = .ok (.aload_n 1, 1) := by decide +kernel
theorem dX5_letQueueIn_25 : decode cX5_letQueueIn 25 = .ok (.getfield 228, 3) := by decide +kernel
theorem dX5_letQueueIn_28 : decode cX5_letQueueIn 28 = .ok (.iconst 0, 1) := by decide +kernel
theorem dX5_letQueueIn_29 : decode cX5_letQueueIn 29 = .ok (.invokevirtual 319, 3) := by decide +kernel
theorem dX5_letQueueIn_32 : decode cX5_letQueueIn 32 = .ok (.checkcast 96, 3) := by decide +kernel
theorem dX5_letQueueIn_35 : decode cX5_letQueueIn 35 = .ok (.astore_n 3, 1) := by decide +kernel
theorem dX5_letQueueIn_36 : decode cX5_letQueueIn 36 = .ok (.aload_n 3, 1) := by decide +kernel
theorem dX5_letQueueIn_37 : decode cX5_letQueueIn 37 = .ok (.iconst 0, 1) := by decide +kernel
theorem dX5_letQueueIn_38 : decode cX5_letQueueIn 38 = .ok (.putfield 100, 3) := by decide +kernel
theorem dX5_letQueueIn_41 : decode cX5_letQueueIn 41 = .ok (.aload_n 1, 1) := by decide +kernel
theorem dX5_letQueueIn_42 : decode cX5_letQueueIn 42 = .ok (.dup, 1) := by decide +kernel
theorem dX5_letQueueIn_43 : decode cX5_letQueueIn 43 = .ok (.getfield 138, 3) := by decide +kernel
theorem dX5_letQueueIn_46 : decode cX5_letQueueIn 46 = .ok (.iconst 1, 1) := by decide +kernel
theorem dX5_letQueueIn_47 : decode cX5_letQueueIn 47 = .ok (.iadd, 1) := by decide +kernel
theorem dX5_letQueueIn_48 : decode cX5_letQueueIn 48 = .ok (.putfield 138, 3) := by decide +kernel
theorem dX5_letQueueIn_51 : decode cX5_letQueueIn 51 = .ok (.aload_n 0, 1) := by decide +kernel
theorem dX5_letQueueIn_52 : decode cX5_letQueueIn 52 = .ok (.aload_n 3, 1) := by decide +kernel
theorem dX5_letQueueIn_53 : decode cX5_letQueueIn 53 = .ok (.aload_n 1, 1) := by decide +kernel
theorem dX5_letQueueIn_54 : decode cX5_letQueueIn 54 = .ok (.invokevirtual 322, 3) := by decide +kernel
theorem dX5_letQueueIn_57 : decode cX5_letQueueIn 57 = .ok (.iinc 2 (-1), 3) := by decide +kernel
theorem dX5_letQueueIn_60 : decode cX5_letQueueIn 60 = .ok (.goto (-50), 3) := by decide +kernel
theorem dX5_letQueueIn_63 : decode cX5_letQueueIn 63 = .ok (.return_, 1) := by decide +kernel
theorem dX5_showRoom_0 : decode cX5_showRoom 0 = .ok (.iconst 1, 1) := by decide +kernel
theorem dX5_showRoom_1 : decode cX5_showRoom 1 = .ok (.aload_n 2, 1) := by decide +kernel
theorem dX5_showRoom_2 : decode cX5_showRoom 2 = .ok (.getfield 170, 3) := by decide +kernel
theorem dX5_showRoom_5 : decode cX5_showRoom 5 = .ok (.ishl, 1) := by decide +kernel
theorem dX5_showRoom_6 : decode cX5_showRoom 6 = .ok (.istore_n 3, 1) := by decide +kernel
theorem dX5_showRoom_7 : decode cX5_showRoom 7 = .ok (.aload_n 1, 1) := by decide +kernel
theorem dX5_showRoom_8 : decode cX5_showRoom 8 = .ok (.getfield 95, 3) := by decide +kernel
theorem dX5_showRoom_11 : decode cX5_showRoom 11 = .ok (.iload_n 3, 1) := by decide +kernel
theorem dX5_showRoom_12 : decode cX5_showRoom 12 = .ok (.iand, 1) := by decide +kernel
theorem dX5_showRoom_13 : decode cX5_showRoom 13 = .ok (.ifCond .eq 4, 3) := by decide +kernel
theorem dX5_showRoom_16 : decode cX5_showRoom 16 = .ok (.return_, 1) := by decide +kernel
theorem dX5_showRoom_17 : decode cX5_showRoom 17 = .ok (.aload_n 1, 1) := by decide +kernel
theorem dX5_showRoom_18 : decode cX5_showRoom 18 = .ok (.dup, 1) := by decide +kernel
theorem dX5_showRoom_19 : decode cX5_showRoom 19 = .ok (.getfield 95, 3) := by decide +kernel
theorem dX5_showRoom_22 : decode cX5_showRoom 22 = .ok (.iload_n 3, 1) := by decide +kernel
theorem dX5_showRoom_23 : decode cX5_showRoom 23 = .ok (.ior, 1) := by decide +kernel
theorem dX5_showRoom_24 : decode cX5_showRoom 24 = .ok (.putfield 95, 3) := by decide +kernel
theorem dX5_showRoom_27 : decode cX5_showRoom 27 = .ok (.iconst 0, 1) := by decide +kernel
theorem dX5_showRoom_28 : decode cX5_showRoom 28 = .ok (.istore 4, 2) := by decide +kernel
theorem dX5_showRoom_30 : decode cX5_showRoom 30 = .ok (.iload 4, 2) := by decide +kernel
theorem dX5_showRoom_32 : decode cX5_showRoom 32 = .ok (.aload_n 0, 1) := by decide +kernel
theorem dX5_showRoom_33 : decode cX5_showRoom 33 = .ok (.getfield 34, 3) := by decide +kernel
theorem dX5_showRoom_36 : decode cX5_showRoom 36 = .ok (.invokevirtual 173, 3) := by decide +kernel
theorem dX5_showRoom_39 : decode cX5_showRoom 39 = .ok (.if_icmp .ge 53, 3) := by decide +kernel
theorem dX5_showRoom_42 : decode cX5_showRoom 42 = .ok (.aload_n 0, 1) := by decide +kernel
theorem dX5_showRoom_43 : decode cX5_showRoom 43 = .ok (.getfield 34, 3) := by decide +kernel
theorem dX5_showRoom_46 : decode cX5_showRoom 46 = .ok (.iload 4, 2) := by decide +kernel
theorem dX5_showRoom_48 : decode cX5_showRoom 48 = .ok (.invokevirtual 234, 3) := by decide +kernel
theorem dX5_showRoom_51 : decode cX5_showRoom 51 = .ok (.checkcast 179, 3) := by decide +kernel
theorem dX5_showRoom_54 : decode cX5_showRoom 54 = .ok (.astore 5, 2) := by decide +kernel
theorem dX5_showRoom_56 : decode cX5_showRoom 56 = .ok (.aload 5, 2) := by decide +kernel
theorem dX5_showRoom_58 : decode cX5_showRoom 58 = .ok (.getfield 193, 3) := by decide +kernel
theorem dX5_showRoom_61 : decode cX5_showRoom 61 = .ok (.aload_n 2, 1) := by decide +kernel
theorem dX5_showRoom_62 : decode cX5_showRoom 62 = .ok (.getfield 170, 3) := by decide +kernel
theorem dX5_showRoom_65 : decode cX5_showRoom 65 = .ok (.if_icmp .ne 21, 3) := by decide +kernel
theorem dX5_showRoom_68 : decode cX5_showRoom 68 = .ok (.aload 5, 2) := by decide +kernel
theorem dX5_showRoom_70 : decode cX5_showRoom 70 = .ok (.dup, 1) := by decide +kernel
theorem dX5_showRoom_71 : decode cX5_showRoom 71 = .ok (.getfield 239, 3) := by decide +kernel
theorem dX5_showRoom_74 : decode cX5_showRoom 74 = .ok (.iconst 1, 1) := by decide +kernel
theorem dX5_showRoom_75 : decode cX5_showRoom 75 = .ok (.iadd, 1) := by decide +kernel
theorem dX5_showRoom_76 : decode cX5_showRoom 76 = .ok (.putfield 239, 3) := by decide +kernel
theorem dX5_showRoom_79 : decode cX5_showRoom 79 = .ok (.aload_n 0, 1) := by decide +kernel
theorem dX5_showRoom_80 : decode cX5_showRoom 80 = .ok (.aload 5, 2) := by decide +kernel
theorem dX5_showRoom_82 : decode cX5_showRoom 82 = .ok (.aload_n 2, 1) := by decide +kernel
theorem dX5_showRoom_83 : decode cX5_showRoom 83 = .ok (.invokevirtual 326, 3) := by decide +kernel
theorem dX5_showRoom_86 : decode cX5_showRoom 86 = .ok (.iinc 4 1, 3) := by decide +kernel
theorem dX5_showRoom_89 : decode cX5_showRoom 89 = .ok (.goto (-59), 3) := by decide +kernel
theorem dX5_showRoom_92 : decode cX5_showRoom 92 = .ok (.return_, 1) := by decide +kernel
theorem dX5_payFee_0 : decode cX5_payFee 0 = .ok (.aload_n 1, 1) := by decide +kernel
theorem dX5_payFee_1 : decode cX5_payFee 1 = .ok (.getfield 196, 3) := by decide +kernel
theorem dX5_payFee_4 : decode cX5_payFee 4 = .ok (.ifCond .eq 47, 3) := by decide +kernel
theorem dX5_payFee_7 : decode cX5_payFee 7 = .ok (.aload_n 1, 1) := by decide +kernel
theorem dX5_payFee_8 : decode cX5_payFee 8 = .ok (.dup, 1) := by decide +kernel
theorem dX5_payFee_9 : decode cX5_payFee 9 = .ok (.getfield 205, 3) := by decide +kernel
theorem dX5_payFee_12 : decode cX5_payFee 12 = .ok (.aload_n 1, 1) := by decide +kernel
theorem dX5_payFee_13 : decode cX5_payFee 13 = .ok (.getfield 202, 3) := by decide +kernel
theorem dX5_payFee_16 : decode cX5_payFee 16 = .ok (.iadd, 1) := by decide +kernel
theorem dX5_payFee_17 : decode cX5_payFee 17 = .ok (.putfield 205, 3) := by decide +kernel
theorem dX5_payFee_20 : decode cX5_payFee 20 = .ok (.aload_n 0, 1) := by decide +kernel
theorem dX5_payFee_21 : decode cX5_payFee 21 = .ok (.aload_n 2, 1) := by decide +kernel
theorem dX5_payFee_22 : decode cX5_payFee 22 = .ok (.getfield 148, 3) := by decide +kernel
theorem dX5_payFee_25 : decode cX5_payFee 25 = .ok (.invokevirtual 42, 3) := by decide +kernel
theorem dX5_payFee_28 : decode cX5_payFee 28 = .ok (.aload_n 1, 1) := by decide +kernel
theorem dX5_payFee_29 : decode cX5_payFee 29 = .ok (.getfield 202, 3) := by decide +kernel
theorem dX5_payFee_32 : decode cX5_payFee 32 = .ok (.ineg, 1) := by decide +kernel
theorem dX5_payFee_33 : decode cX5_payFee 33 = .ok (.invokevirtual 330, 3) := by decide +kernel
theorem dX5_payFee_36 : decode cX5_payFee 36 = .ok (.aload_n 0, 1) := by decide +kernel
theorem dX5_payFee_37 : decode cX5_payFee 37 = .ok (.aload_n 1, 1) := by decide +kernel
theorem dX5_payFee_38 : decode cX5_payFee 38 = .ok (.getfield 199, 3) := by decide +kernel
theorem dX5_payFee_41 : decode cX5_payFee 41 = .ok (.invokevirtual 42, 3) := by decide +kernel
theorem dX5_payFee_44 : decode cX5_payFee 44 = .ok (.aload_n 1, 1) := by decide +kernel
theorem dX5_payFee_45 : decode cX5_payFee 45 = .ok (.getfield 202, 3) := by decide +kernel
theorem dX5_payFee_48 : decode cX5_payFee 48 = .ok (.invokevirtual 330, 3) := by decide +kernel
theorem dX5_payFee_51 : decode cX5_payFee 51 = .ok (.return_, 1) := by decide +kernel
theorem dX5_sendAllOut_0 : decode cX5_sendAllOut 0 = .ok (.aload_n 1, 1) := by decide +kernel
theorem dX5_sendAllOut_1 : decode cX5_sendAllOut 1 = .ok (.getfield 138, 3) := by decide +kernel
theorem dX5_sendAllOut_4 : decode cX5_sendAllOut 4 = .ok (.aload_n 1, 1) := by decide +kernel
theorem dX5_sendAllOut_5 : decode cX5_sendAllOut 5 = .ok (.getfield 228, 3) := by decide +kernel
theorem dX5_sendAllOut_8 : decode cX5_sendAllOut 8 = .ok (.invokevirtual 173, 3) := by decide +kernel
theorem dX5_sendAllOut_11 : decode cX5_sendAllOut 11 = .ok (.iadd, 1) := by decide +kernel
theorem dX5_sendAllOut_12 : decode cX5_sendAllOut 12 = .ok (.istore_n 2, 1) := by decide +kernel
theorem dX5_sendAllOut_13 : decode cX5_sendAllOut 13 = .ok (.aload_n 0, 1) := by decide +kernel
theorem dX5_sendAllOut_14 : decode cX5_sendAllOut 14 = .ok (.getfield 278, 3) := by decide +kernel
theorem dX5_sendAllOut_17 : decode cX5_sendAllOut 17 = .ok (.istore_n 3, 1) := by decide +kernel
theorem dX5_sendAllOut_18 : decode cX5_sendAllOut 18 = .ok (.iload_n 3, 1) := by decide +kernel
theorem dX5_sendAllOut_19 : decode cX5_sendAllOut 19 = .ok (.aload_n 0, 1) := by decide +kernel
theorem dX5_sendAllOut_20 : decode cX5_sendAllOut 20 = .ok (.getfield 30, 3) := by decide +kernel
theorem dX5_sendAllOut_23 : decode cX5_sendAllOut 23 = .ok (.invokevirtual 173, 3) := by decide +kernel
theorem dX5_sendAllOut_26 : decode cX5_sendAllOut 26 = .ok (.if_icmp .ge 39, 3) := by decide +kernel
theorem dX5_sendAllOut_29 : decode cX5_sendAllOut 29 = .ok (.aload_n 0, 1) := by decide +kernel
theorem dX5_sendAllOut_30 : decode cX5_sendAllOut 30 = .ok (.getfield 30, 3) := by decide +kernel
theorem dX5_sendAllOut_33 : decode cX5_sendAllOut 33 = .ok (.iload_n 3, 1) := by decide +kernel
theorem dX5_sendAllOut_34 : decode cX5_sendAllOut 34 = .ok (.invokevirtual 234, 3) := by decide +kernel
theorem dX5_sendAllOut_37 : decode cX5_sendAllOut 37 = .ok (.checkcast 96, 3) := by decide +kernel
theorem dX5_sendAllOut_40 : decode cX5_sendAllOut 40 = .ok (.astore 4, 2) := by decide +kernel
theorem dX5_sendAllOut_42 : decode cX5_sendAllOut 42 = .ok (.aload 4, 2) := by decide +kernel
theorem dX5_sendAllOut_44 : decode cX5_sendAllOut 44 = .ok (.getfield 154, 3) := by decide +kernel
theorem dX5_sendAllOut_47 : decode cX5_sendAllOut 47 = .ok (.aload_n 1, 1) := by decide +kernel
theorem dX5_sendAllOut_48 : decode cX5_sendAllOut 48 = .ok (.getfield 170, 3) := by decide +kernel
theorem dX5_sendAllOut_51 : decode cX5_sendAllOut 51 = .ok (.if_icmp .ne 8, 3) := by decide +kernel
theorem dX5_sendAllOut_54 : decode cX5_sendAllOut 54 = .ok (.aload 4, 2) := by decide +kernel
theorem dX5_sendAllOut_56 : decode cX5_sendAllOut 56 = .ok (.invokevirtual 167, 3) := by decide +kernel
theorem dX5_sendAllOut_59 : decode cX5_sendAllOut 59 = .ok (.iinc 3 1, 3) := by decide +kernel
theorem dX5_sendAllOut_62 : decode cX5_sendAllOut 62 = .ok (.goto (-44), 3) := by decide +kernel
theorem dX5_sendAllOut_65 : decode cX5_sendAllOut 65 = .ok (.aload_n 1, 1) := by decide +kernel
theorem dX5_sendAllOut_66 : decode cX5_sendAllOut 66 = .ok (.iconst 0, 1) := by decide +kernel
theorem dX5_sendAllOut_67 : decode cX5_sendAllOut 67 = .ok (.putfield 138, 3) := by decide +kernel
theorem dX5_sendAllOut_70 : decode cX5_sendAllOut 70 = .ok (.aload_n 1, 1) := by decide +kernel
theorem dX5_sendAllOut_71 : decode cX5_sendAllOut 71 = .ok (.getfield 228, 3) := by decide +kernel
theorem dX5_sendAllOut_74 : decode cX5_sendAllOut 74 = .ok (.invokevirtual 333, 3) := by decide +kernel
theorem dX5_sendAllOut_77 : decode cX5_sendAllOut 77 = .ok (.iload_n 2, 1) := by decide +kernel
theorem dX5_sendAllOut_78 : decode cX5_sendAllOut 78 = .ok (.ireturn, 1) := by decide +kernel
theorem dX5_endDay_0 : decode cX5_endDay 0 = .ok (.iconst 0, 1) := by decide +kernel
theorem dX5_endDay_1 : decode cX5_endDay 1 = .ok (.istore_n 1, 1) := by decide +kernel
theorem dX5_endDay_2 : decode cX5_endDay 2 = .ok (.iload_n 1, 1) := by decide +kernel
theorem dX5_endDay_3 : decode cX5_endDay 3 = .ok (.aload_n 0, 1) := by decide +kernel
theorem dX5_endDay_4 : decode cX5_endDay 4 = .ok (.getfield 17, 3) := by decide +kernel
theorem dX5_endDay_7 : decode cX5_endDay 7 = .ok (.arraylength, 1) := by decide +kernel
theorem dX5_endDay_8 : decode cX5_endDay 8 = .ok (.if_icmp .ge 20, 3) := by decide +kernel
theorem dX5_endDay_11 : decode cX5_endDay 11 = .ok (.aload_n 0, 1) := by decide +kernel
theorem dX5_endDay_12 : decode cX5_endDay 12 = .ok (.aload_n 0, 1) := by decide +kernel
theorem dX5_endDay_13 : decode cX5_endDay 13 = .ok (.getfield 17, 3) := by decide +kernel
theorem dX5_endDay_16 : decode cX5_endDay 16 = .ok (.iload_n 1, 1) := by decide +kernel
theorem dX5_endDay_17 : decode cX5_endDay 17 = .ok (.aaload, 1) := by decide +kernel
theorem dX5_endDay_18 : decode cX5_endDay 18 = .ok (.invokevirtual 144, 3) := by decide +kernel
theorem dX5_endDay_21 : decode cX5_endDay 21 = .ok (.pop, 1) := by decide +kernel
theorem dX5_endDay_22 : decode cX5_endDay 22 = .ok (.iinc 1 1, 3) := by decide +kernel
theorem dX5_endDay_25 : decode cX5_endDay 25 = .ok (.goto (-23), 3) := by decide +kernel
theorem dX5_endDay_28 : decode cX5_endDay 28 = .ok (.aload_n 0, 1) := by decide +kernel
theorem dX5_endDay_29 : decode cX5_endDay 29 = .ok (.getfield 278, 3) := by decide +kernel
theorem dX5_endDay_32 : decode cX5_endDay 32 = .ok (.istore_n 1, 1) := by decide +kernel
theorem dX5_endDay_33 : decode cX5_endDay 33 = .ok (.iload_n 1, 1) := by decide +kernel
theorem dX5_endDay_34 : decode cX5_endDay 34 = .ok (.aload_n 0, 1) := by decide +kernel
theorem dX5_endDay_35 : decode cX5_endDay 35 = .ok (.getfield 30, 3) := by decide +kernel
theorem dX5_endDay_38 : decode cX5_endDay 38 = .ok (.invokevirtual 173, 3) := by decide +kernel
theorem dX5_endDay_41 : decode cX5_endDay 41 = .ok (.if_icmp .ge 40, 3) := by decide +kernel
theorem dX5_endDay_44 : decode cX5_endDay 44 = .ok (.aload_n 0, 1) := by decide +kernel
theorem dX5_endDay_45 : decode cX5_endDay 45 = .ok (.getfield 30, 3) := by decide +kernel
theorem dX5_endDay_48 : decode cX5_endDay 48 = .ok (.iload_n 1, 1) := by decide +kernel
theorem dX5_endDay_49 : decode cX5_endDay 49 = .ok (.invokevirtual 234, 3) := by decide +kernel
theorem dX5_endDay_52 : decode cX5_endDay 52 = .ok (.checkcast 96, 3) := by decide +kernel
theorem dX5_endDay_55 : decode cX5_endDay 55 = .ok (.astore_n 2, 1) := by decide +kernel
theorem dX5_endDay_56 : decode cX5_endDay 56 = .ok (.aload_n 2, 1) := by decide +kernel
theorem dX5_endDay_57 : decode cX5_endDay 57 = .ok (.getfield 110, 3) := by decide +kernel
theorem dX5_endDay_60 : decode cX5_endDay 60 = .ok (.ifCond .ne 15, 3) := by decide +kernel
theorem dX5_endDay_63 : decode cX5_endDay 63 = .ok (.aload_n 0, 1) := by decide +kernel
theorem dX5_endDay_64 : decode cX5_endDay 64 = .ok (.aload_n 2, 1) := by decide +kernel
theorem dX5_endDay_65 : decode cX5_endDay 65 = .ok (.getfield 116, 3) := by decide +kernel
theorem dX5_endDay_68 : decode cX5_endDay 68 = .ok (.aload_n 2, 1) := by decide +kernel
theorem dX5_endDay_69 : decode cX5_endDay 69 = .ok (.getfield 95, 3) := by decide +kernel
theorem dX5_endDay_72 : decode cX5_endDay 72 = .ok (.invokevirtual 336, 3) := by decide +kernel
theorem dX5_endDay_75 : decode cX5_endDay 75 = .ok (.iinc 1 1, 3) := by decide +kernel
theorem dX5_endDay_78 : decode cX5_endDay 78 = .ok (.goto (-45), 3) := by decide +kernel
theorem dX5_endDay_81 : decode cX5_endDay 81 = .ok (.iconst 0, 1) := by decide +kernel
theorem dX5_endDay_82 : decode cX5_endDay 82 = .ok (.istore_n 1, 1) := by decide +kernel
theorem dX5_endDay_83 : decode cX5_endDay 83 = .ok (.iload_n 1, 1) := by decide +kernel
theorem dX5_endDay_84 : decode cX5_endDay 84 = .ok (.aload_n 0, 1) := by decide +kernel
theorem dX5_endDay_85 : decode cX5_endDay 85 = .ok (.getfield 23, 3) := by decide +kernel
theorem dX5_endDay_88 : decode cX5_endDay 88 = .ok (.arraylength, 1) := by decide +kernel
theorem dX5_endDay_89 : decode cX5_endDay 89 = .ok (.if_icmp .ge 37, 3) := by decide +kernel
theorem dX5_endDay_92 : decode cX5_endDay 92 = .ok (.aload_n 0, 1) := by decide +kernel
theorem dX5_endDay_93 : decode cX5_endDay 93 = .ok (.getfield 23, 3) := by decide +kernel
theorem dX5_endDay_96 : decode cX5_endDay 96 = .ok (.iload_n 1, 1) := by decide +kernel
theorem dX5_endDay_97 : decode cX5_endDay 97 = .ok (.aaload, 1) := by decide +kernel
theorem dX5_endDay_98 : decode cX5_endDay 98 = .ok (.aload_n 0, 1) := by decide +kernel
theorem dX5_endDay_99 : decode cX5_endDay 99 = .ok (.getfield 65, 3) := by decide +kernel
theorem dX5_endDay_102 : decode cX5_endDay 102 = .ok (.invokevirtual 68, 3) := by decide +kernel
theorem dX5_endDay_105 : decode cX5_endDay 105 = .ok (.ifCond .eq 15, 3) := by decide +kernel
theorem dX5_endDay_108 : decode cX5_endDay 108 = .ok (.aload_n 0, 1) := by decide +kernel
theorem dX5_endDay_109 : decode cX5_endDay 109 = .ok (.sipush 200, 3) := by decide +kernel
theorem dX5_endDay_112 : decode cX5_endDay 112 = .ok (.aload_n 0, 1) := by decide +kernel
theorem dX5_endDay_113 : decode cX5_endDay 113 = .ok (.iload_n 1, 1) := by decide +kernel
theorem dX5_endDay_114 : decode cX5_endDay 114 = .ok (.invokevirtual 340, 3) := by decide +kernel
theorem dX5_endDay_117 : decode cX5_endDay 117 = .ok (.invokevirtual 336, 3) := by decide +kernel
theorem dX5_endDay_120 : decode cX5_endDay 120 = .ok (.iinc 1 1, 3) := by decide +kernel
theorem dX5_endDay_123 : decode cX5_endDay 123 = .ok (.goto (-40), 3) := by decide +kernel
theorem dX5_endDay_126 : decode cX5_endDay 126 = .ok (.aload_n 0, 1) := by decide +kernel
theorem dX5_endDay_127 : decode cX5_endDay 127 = .ok (.aload_n 0, 1) := by decide +kernel
theorem dX5_endDay_128 : decode cX5_endDay 128 = .ok (.getfield 30, 3) := by decide +kernel
theorem dX5_endDay_131 : decode cX5_endDay 131 = .ok (.invokevirtual 173, 3) := by decide +kernel
theorem dX5_endDay_134 : decode cX5_endDay 134 = .ok (.putfield 278, 3) := by decide +kernel
theorem dX5_endDay_137 : decode cX5_endDay 137 = .ok (.aload_n 0, 1) := by decide +kernel
theorem dX5_endDay_138 : decode cX5_endDay 138 = .ok (.dup, 1) := by decide +kernel
theorem dX5_endDay_139 : decode cX5_endDay 139 = .ok (.getfield 65, 3) := by decide +kernel
theorem dX5_endDay_142 : decode cX5_endDay 142 = .ok (.iconst 1, 1) := by decide +kernel
theorem dX5_endDay_143 : decode cX5_endDay 143 = .ok (.iadd, 1) := by decide +kernel
theorem dX5_endDay_144 : decode cX5_endDay 144 = .ok (.putfield 65, 3) := by decide +kernel
theorem dX5_endDay_147 : decode cX5_endDay 147 = .ok (.return_, 1) := by decide +kernel
theorem dX5_seenToday_0 : decode cX5_seenToday 0 = .ok (.aload_n 0, 1) := by decide +kernel
theorem dX5_seenToday_1 : decode cX5_seenToday 1 = .ok (.getfield 278, 3) := by decide +kernel
theorem dX5_seenToday_4 : decode cX5_seenToday 4 = .ok (.istore_n 2, 1) := by decide +kernel
theorem dX5_seenToday_5 : decode cX5_seenToday 5 = .ok (.iload_n 2, 1) := by decide +kernel
theorem dX5_seenToday_6 : decode cX5_seenToday 6 = .ok (.aload_n 0, 1) := by decide +kernel
theorem dX5_seenToday_7 : decode cX5_seenToday 7 = .ok (.getfield 30, 3) := by decide +kernel
theorem dX5_seenToday_10 : decode cX5_seenToday 10 = .ok (.invokevirtual 173, 3) := by decide +kernel
theorem dX5_seenToday_13 : decode cX5_seenToday 13 = .ok (.if_icmp .ge 43, 3) := by decide +kernel
theorem dX5_seenToday_16 : decode cX5_seenToday 16 = .ok (.aload_n 0, 1) := by decide +kernel
theorem dX5_seenToday_17 : decode cX5_seenToday 17 = .ok (.getfield 30, 3) := by decide +kernel
theorem dX5_seenToday_20 : decode cX5_seenToday 20 = .ok (.iload_n 2, 1) := by decide +kernel
theorem dX5_seenToday_21 : decode cX5_seenToday 21 = .ok (.invokevirtual 234, 3) := by decide +kernel
theorem dX5_seenToday_24 : decode cX5_seenToday 24 = .ok (.checkcast 96, 3) := by decide +kernel
theorem dX5_seenToday_27 : decode cX5_seenToday 27 = .ok (.iload_n 1, 1) := by decide +kernel
theorem dX5_seenToday_28 : decode cX5_seenToday 28 = .ok (.iconst 2, 1) := by decide +kernel
theorem dX5_seenToday_29 : decode cX5_seenToday 29 = .ok (.invokevirtual 311, 3) := by decide +kernel
theorem dX5_seenToday_32 : decode cX5_seenToday 32 = .ok (.ifCond .eq 18, 3) := by decide +kernel
theorem dX5_seenToday_35 : decode cX5_seenToday 35 = .ok (.aload_n 0, 1) := by decide +kernel
theorem dX5_seenToday_36 : decode cX5_seenToday 36 = .ok (.getfield 30, 3) := by decide +kernel
theorem dX5_seenToday_39 : decode cX5_seenToday 39 = .ok (.iload_n 2, 1) := by decide +kernel
theorem dX5_seenToday_40 : decode cX5_seenToday 40 = .ok (.invokevirtual 234, 3) := by decide +kernel
theorem dX5_seenToday_43 : decode cX5_seenToday 43 = .ok (.checkcast 96, 3) := by decide +kernel
theorem dX5_seenToday_46 : decode cX5_seenToday 46 = .ok (.getfield 95, 3) := by decide +kernel
theorem dX5_seenToday_49 : decode cX5_seenToday 49 = .ok (.ireturn, 1) := by decide +kernel
theorem dX5_seenToday_50 : decode cX5_seenToday 50 = .ok (.iinc 2 1, 3) := by decide +kernel
theorem dX5_seenToday_53 : decode cX5_seenToday 53 = .ok (.goto (-48), 3) := by decide +kernel
theorem dX5_seenToday_56 : decode cX5_seenToday 56 = .ok (.iconst 0, 1) := by decide +kernel
theorem dX5_seenToday_57 : decode cX5_seenToday 57 = .ok (.ireturn, 1) := by decide +kernel
theorem dX5_shareOut_0 : decode cX5_shareOut 0 = .ok (.iconst (-1), 1) := by decide +kernel
theorem dX5_shareOut_1 : decode cX5_shareOut 1 = .ok (.istore_n 3, 1) := by decide +kernel
theorem dX5_shareOut_2 : decode cX5_shareOut 2 = .ok (.iload_n 3, 1) := by decide +kernel
theorem dX5_shareOut_3 : decode cX5_shareOut 3 = .ok (.iconst 4, 1) := by decide +kernel
theorem dX5_shareOut_4 : decode cX5_shareOut 4 = .ok (.if_icmp .ge 28, 3) := by decide +kernel
theorem dX5_shareOut_7 : decode cX5_shareOut 7 = .ok (.aload_n 0, 1) := by decide +kernel
theorem dX5_shareOut_8 : decode cX5_shareOut 8 = .ok (.iload_n 3, 1) := by decide +kernel
theorem dX5_shareOut_9 : decode cX5_shareOut 9 = .ok (.invokevirtual 42, 3) := by decide +kernel
theorem dX5_shareOut_12 : decode cX5_shareOut 12 = .ok (.dup, 1) := by decide +kernel
theorem dX5_shareOut_13 : decode cX5_shareOut 13 = .ok (.getfield 259, 3) := by decide +kernel
theorem dX5_shareOut_16 : decode cX5_shareOut 16 = .ok (.iload_n 1, 1) := by decide +kernel
theorem dX5_shareOut_17 : decode cX5_shareOut 17 = .ok (.iload_n 2, 1) := by decide +kernel
theorem dX5_shareOut_18 : decode cX5_shareOut 18 = .ok (.iload_n 3, 1) := by decide +kernel
theorem dX5_shareOut_19 : decode cX5_shareOut 19 = .ok (.invokestatic 343, 3) := by decide +kernel
theorem dX5_shareOut_22 : decode cX5_shareOut 22 = .ok (.iadd, 1) := by decide +kernel
theorem dX5_shareOut_23 : decode cX5_shareOut 23 = .ok (.putfield 259, 3) := by decide +kernel
theorem dX5_shareOut_26 : decode cX5_shareOut 26 = .ok (.iinc 3 1, 3) := by decide +kernel
theorem dX5_shareOut_29 : decode cX5_shareOut 29 = .ok (.goto (-27), 3) := by decide +kernel
theorem dX5_shareOut_32 : decode cX5_shareOut 32 = .ok (.return_, 1) := by decide +kernel
theorem dX5_partOf_0 : decode cX5_partOf 0 = .ok (.iload_n 1, 1) := by decide +kernel
theorem dX5_partOf_1 : decode cX5_partOf 1 = .ok (.invokestatic 347, 3) := by decide +kernel
theorem dX5_partOf_4 : decode cX5_partOf 4 = .ok (.istore_n 3, 1) := by decide +kernel
theorem dX5_partOf_5 : decode cX5_partOf 5 = .ok (.iload_n 3, 1) := by decide +kernel
theorem dX5_partOf_6 : decode cX5_partOf 6 = .ok (.ifCond .ne 7, 3) := by decide +kernel
theorem dX5_partOf_9 : decode cX5_partOf 9 = .ok (.iconst 0, 1) := by decide +kernel
theorem dX5_partOf_10 : decode cX5_partOf 10 = .ok (.goto 6, 3) := by decide +kernel
theorem dX5_partOf_13 : decode cX5_partOf 13 = .ok (.iload_n 0, 1) := by decide +kernel
theorem dX5_partOf_14 : decode cX5_partOf 14 = .ok (.iload_n 3, 1) := by decide +kernel
theorem dX5_partOf_15 : decode cX5_partOf 15 = .ok (.idiv, 1) := by decide +kernel
theorem dX5_partOf_16 : decode cX5_partOf 16 = .ok (.istore 4, 2) := by decide +kernel
theorem dX5_partOf_18 : decode cX5_partOf 18 = .ok (.iload_n 2, 1) := by decide +kernel
theorem dX5_partOf_19 : decode cX5_partOf 19 = .ok (.iconst (-1), 1) := by decide +kernel
theorem dX5_partOf_20 : decode cX5_partOf 20 = .ok (.if_icmp .ne 10, 3) := by decide +kernel
theorem dX5_partOf_23 : decode cX5_partOf 23 = .ok (.iload_n 0, 1) := by decide +kernel
theorem dX5_partOf_24 : decode cX5_partOf 24 = .ok (.iload 4, 2) := by decide +kernel
theorem dX5_partOf_26 : decode cX5_partOf 26 = .ok (.iload_n 3, 1) := by decide +kernel
theorem dX5_partOf_27 : decode cX5_partOf 27 = .ok (.imul, 1) := by decide +kernel
theorem dX5_partOf_28 : decode cX5_partOf 28 = .ok (.isub, 1) := by decide +kernel
theorem dX5_partOf_29 : decode cX5_partOf 29 = .ok (.ireturn, 1) := by decide +kernel
theorem dX5_partOf_30 : decode cX5_partOf 30 = .ok (.bipush 7, 2) := by decide +kernel
theorem dX5_partOf_32 : decode cX5_partOf 32 = .ok (.iload_n 2, 1) := by decide +kernel
theorem dX5_partOf_33 : decode cX5_partOf 33 = .ok (.iconst 3, 1) := by decide +kernel
theorem dX5_partOf_34 : decode cX5_partOf 34 = .ok (.imul, 1) := by decide +kernel
theorem dX5_partOf_35 : decode cX5_partOf 35 = .ok (.ishl, 1) := by decide +kernel
theorem dX5_partOf_36 : decode cX5_partOf 36 = .ok (.istore 5, 2) := by decide +kernel
theorem dX5_partOf_38 : decode cX5_partOf 38 = .ok (.iload 4, 2) := by decide +kernel
theorem dX5_partOf_40 : decode cX5_partOf 40 = .ok (.iload_n 1, 1) := by decide +kernel
theorem dX5_partOf_41 : decode cX5_partOf 41 = .ok (.iload 5, 2) := by decide +kernel
theorem dX5_partOf_43 : decode cX5_partOf 43 = .ok (.iand, 1) := by decide +kernel
theorem dX5_partOf_44 : decode cX5_partOf 44 = .ok (.invokestatic 347, 3) := by decide +kernel
theorem dX5_partOf_47 : decode cX5_partOf 47 = .ok (.imul, 1) := by decide +kernel
theorem dX5_partOf_48 : decode cX5_partOf 48 = .ok (.ireturn, 1) := by decide +kernel
theorem dX5_broughtByTickets_0 : decode cX5_broughtByTickets 0 = .ok (.iconst 0, 1) := by decide +kernel
theorem dX5_broughtByTickets_1 : decode cX5_broughtByTickets 1 = .ok (.istore_n 2, 1) := by decide +kernel
theorem dX5_broughtByTickets_2 : decode cX5_broughtByTickets 2 = .ok (.iconst 0, 1) := by decide +kernel
theorem dX5_broughtByTickets_3 : decode cX5_broughtByTickets 3 = .ok (.istore_n 3, 1) := by decide +kernel
theorem dX5_broughtByTickets_4 : decode cX5_broughtByTickets 4 = .ok (.iload_n 3, 1) := by decide +kernel
theorem dX5_broughtByTickets_5 : decode cX5_broughtByTickets 5 = .ok (.aload_n 0, 1) := by decide +kernel
theorem dX5_broughtByTickets_6 : decode cX5_broughtByTickets 6 = .ok (.getfield 278, 3) := by decide +kernel
theorem dX5_broughtByTickets_9 : decode cX5_broughtByTickets 9 = .ok (.if_icmp .ge 58, 3) := by decide +kernel
theorem dX5_broughtByTickets_12 : decode cX5_broughtByTickets 12 = .ok (.iload_n 3, 1) := by decide +kernel
theorem dX5_broughtByTickets_13 : decode cX5_broughtByTickets 13 = .ok (.aload_n 0, 1) := by decide +kernel
theorem dX5_broughtByTickets_14 : decode cX5_broughtByTickets 14 = .ok (.getfield 30, 3) := by decide +kernel
theorem dX5_broughtByTickets_17 : decode cX5_broughtByTickets 17 = .ok (.invokevirtual 173, 3) := by decide +kernel
theorem dX5_broughtByTickets_20 : decode cX5_broughtByTickets 20 = .ok (.if_icmp .ge 47, 3) := by decide +kernel
theorem dX5_broughtByTickets_23 : decode cX5_broughtByTickets 23 = .ok (.aload_n 0, 1) := by decide +kernel
theorem dX5_broughtByTickets_24 : decode cX5_broughtByTickets 24 = .ok (.getfield 30, 3) := by decide +kernel
theorem dX5_broughtByTickets_27 : decode cX5_broughtByTickets 27 = .ok (.iload_n 3, 1) := by decide +kernel
theorem dX5_broughtByTickets_28 : decode cX5_broughtByTickets 28 = .ok (.invokevirtual 234, 3) := by decide +kernel
theorem dX5_broughtByTickets_31 : decode cX5_broughtByTickets 31 = .ok (.checkcast 96, 3) := by decide +kernel
theorem dX5_broughtByTickets_34 : decode cX5_broughtByTickets 34 = .ok (.astore 4, 2) := by decide +kernel
theorem dX5_broughtByTickets_36 : decode cX5_broughtByTickets 36 = .ok (.aload 4, 2) := by decide +kernel
theorem dX5_broughtByTickets_38 : decode cX5_broughtByTickets 38 = .ok (.getfield 110, 3) := by decide +kernel
theorem dX5_broughtByTickets_41 : decode cX5_broughtByTickets 41 = .ok (.ifCond .ne 20, 3) := by decide +kernel
theorem dX5_broughtByTickets_44 : decode cX5_broughtByTickets 44 = .ok (.iload_n 2, 1) := by decide +kernel
theorem dX5_broughtByTickets_45 : decode cX5_broughtByTickets 45 = .ok (.aload 4, 2) := by decide +kernel
theorem dX5_broughtByTickets_47 : decode cX5_broughtByTickets 47 = .ok (.getfield 116, 3) := by decide +kernel
theorem dX5_broughtByTickets_50 : decode cX5_broughtByTickets 50 = .ok (.aload 4, 2) := by decide +kernel
theorem dX5_broughtByTickets_52 : decode cX5_broughtByTickets 52 = .ok (.getfield 95, 3) := by decide +kernel
theorem dX5_broughtByTickets_55 : decode cX5_broughtByTickets 55 = .ok (.iload_n 1, 1) := by decide +kernel
theorem dX5_broughtByTickets_56 : decode cX5_broughtByTickets 56 = .ok (.invokestatic 343, 3) := by decide +kernel
theorem dX5_broughtByTickets_59 : decode cX5_broughtByTickets 59 = .ok (.iadd, 1) := by decide +kernel
theorem dX5_broughtByTickets_60 : decode cX5_broughtByTickets 60 = .ok (.istore_n 2, 1) := by decide +kernel
theorem dX5_broughtByTickets_61 : decode cX5_broughtByTickets 61 = .ok (.iinc 3 1, 3) := by decide +kernel
theorem dX5_broughtByTickets_64 : decode cX5_broughtByTickets 64 = .ok (.goto (-60), 3) := by decide +kernel
theorem dX5_broughtByTickets_67 : decode cX5_broughtByTickets 67 = .ok (.iload_n 2, 1) := by decide +kernel
theorem dX5_broughtByTickets_68 : decode cX5_broughtByTickets 68 = .ok (.ireturn, 1) := by decide +kernel
theorem dX5_broughtByMemberships_0 : decode cX5_broughtByMemberships 0 = .ok (.iconst 0, 1) := by decide +kernel
theorem dX5_broughtByMemberships_1 : decode cX5_broughtByMemberships 1 = .ok (.istore_n 2, 1) := by decide +kernel
theorem dX5_broughtByMemberships_2 : decode cX5_broughtByMemberships 2 = .ok (.iconst 0, 1) := by decide +kernel
theorem dX5_broughtByMemberships_3 : decode cX5_broughtByMemberships 3 = .ok (.istore_n 3, 1) := by decide +kernel
theorem dX5_broughtByMemberships_4 : decode cX5_broughtByMemberships 4 = .ok (.iload_n 3, 1) := by decide +kernel
theorem dX5_broughtByMemberships_5 : decode cX5_broughtByMemberships 5 = .ok (.aload_n 0, 1) := by decide +kernel
theorem dX5_broughtByMemberships_6 : decode cX5_broughtByMemberships 6 = .ok (.getfield 23, 3) := by decide +kernel
theorem dX5_broughtByMemberships_9 : decode cX5_broughtByMemberships 9 = .ok (.arraylength, 1) := by decide +kernel
theorem dX5_broughtByMemberships_10 : decode cX5_broughtByMemberships 10 = .ok (.if_icmp .ge 25, 3) := by decide +kernel
theorem dX5_broughtByMemberships_13 : decode cX5_broughtByMemberships 13 = .ok (.iload_n 2, 1) := by decide +kernel
theorem dX5_broughtByMemberships_14 : decode cX5_broughtByMemberships 14 = .ok (.aload_n 0, 1) := by decide +kernel
theorem dX5_broughtByMemberships_15 : decode cX5_broughtByMemberships 15 = .ok (.getfield 23, 3) := by decide +kernel
theorem dX5_broughtByMemberships_18 : decode cX5_broughtByMemberships 18 = .ok (.iload_n 3, 1) := by decide +kernel
theorem dX5_broughtByMemberships_19 : decode cX5_broughtByMemberships 19 = .ok (.aaload, 1) := by decide +kernel
theorem dX5_broughtByMemberships_20 : decode cX5_broughtByMemberships 20 = .ok (.aload_n 0, 1) := by decide +kernel
theorem dX5_broughtByMemberships_21 : decode cX5_broughtByMemberships 21 = .ok (.getfield 65, 3) := by decide +kernel
theorem dX5_broughtByMemberships_24 : decode cX5_broughtByMemberships 24 = .ok (.invokevirtual 352, 3) := by decide +kernel
theorem dX5_broughtByMemberships_27 : decode cX5_broughtByMemberships 27 = .ok (.iadd, 1) := by decide +kernel
theorem dX5_broughtByMemberships_28 : decode cX5_broughtByMemberships 28 = .ok (.istore_n 2, 1) := by decide +kernel
theorem dX5_broughtByMemberships_29 : decode cX5_broughtByMemberships 29 = .ok (.iinc 3 1, 3) := by decide +kernel
theorem dX5_broughtByMemberships_32 : decode cX5_broughtByMemberships 32 = .ok (.goto (-28), 3) := by decide +kernel
theorem dX5_broughtByMemberships_35 : decode cX5_broughtByMemberships 35 = .ok (.iconst 0, 1) := by decide +kernel
theorem dX5_broughtByMemberships_36 : decode cX5_broughtByMemberships 36 = .ok (.istore_n 3, 1) := by decide +kernel
theorem dX5_broughtByMemberships_37 : decode cX5_broughtByMemberships 37 = .ok (.iconst 0, 1) := by decide +kernel
theorem dX5_broughtByMemberships_38 : decode cX5_broughtByMemberships 38 = .ok (.istore 4, 2) := by decide +kernel
theorem dX5_broughtByMemberships_40 : decode cX5_broughtByMemberships 40 = .ok (.iload 4, 2) := by decide +kernel
theorem dX5_broughtByMemberships_42 : decode cX5_broughtByMemberships 42 = .ok (.aload_n 0, 1) := by decide +kernel
theorem dX5_broughtByMemberships_43 : decode cX5_broughtByMemberships 43 = .ok (.getfield 278, 3) := by decide +kernel
theorem dX5_broughtByMemberships_46 : decode cX5_broughtByMemberships 46 = .ok (.if_icmp .ge 70, 3) := by decide +kernel
theorem dX5_broughtByMemberships_49 : decode cX5_broughtByMemberships 49 = .ok (.iload 4, 2) := by decide +kernel
theorem dX5_broughtByMemberships_51 : decode cX5_broughtByMemberships 51 = .ok (.aload_n 0, 1) := by decide +kernel
theorem dX5_broughtByMemberships_52 : decode cX5_broughtByMemberships 52 = .ok (.getfield 30, 3) := by decide +kernel
theorem dX5_broughtByMemberships_55 : decode cX5_broughtByMemberships 55 = .ok (.invokevirtual 173, 3) := by decide +kernel
theorem dX5_broughtByMemberships_58 : decode cX5_broughtByMemberships 58 = .ok (.if_icmp .ge 58, 3) := by decide +kernel
theorem dX5_broughtByMemberships_61 : decode cX5_broughtByMemberships 61 = .ok (.aload_n 0, 1) := by decide +kernel
theorem dX5_broughtByMemberships_62 : decode cX5_broughtByMemberships 62 = .ok (.getfield 30, 3) := by decide +kernel
theorem dX5_broughtByMemberships_65 : decode cX5_broughtByMemberships 65 = .ok (.iload 4, 2) := by decide +kernel
theorem dX5_broughtByMemberships_67 : decode cX5_broughtByMemberships 67 = .ok (.invokevirtual 234, 3) := by decide +kernel
theorem dX5_broughtByMemberships_70 : decode cX5_broughtByMemberships 70 = .ok (.checkcast 96, 3) := by decide +kernel
theorem dX5_broughtByMemberships_73 : decode cX5_broughtByMemberships 73 = .ok (.astore 5, 2) := by decide +kernel
theorem dX5_broughtByMemberships_75 : decode cX5_broughtByMemberships 75 = .ok (.aload 5, 2) := by decide +kernel
theorem dX5_broughtByMemberships_77 : decode cX5_broughtByMemberships 77 = .ok (.getfield 355, 3) := by decide +kernel
theorem dX5_broughtByMemberships_80 : decode cX5_broughtByMemberships 80 = .ok (.iconst 2, 1) := by decide +kernel
theorem dX5_broughtByMemberships_81 : decode cX5_broughtByMemberships 81 = .ok (.if_icmp .ne 29, 3) := by decide +kernel
theorem dX5_broughtByMemberships_84 : decode cX5_broughtByMemberships 84 = .ok (.aload 5, 2) := by decide +kernel
theorem dX5_broughtByMemberships_86 : decode cX5_broughtByMemberships 86 = .ok (.getfield 110, 3) := by decide +kernel
theorem dX5_broughtByMemberships_89 : decode cX5_broughtByMemberships 89 = .ok (.ifCond .ne 21, 3) := by decide +kernel
theorem dX5_broughtByMemberships_92 : decode cX5_broughtByMemberships 92 = .ok (.iinc 2 (-1), 3) := by decide +kernel
theorem dX5_broughtByMemberships_95 : decode cX5_broughtByMemberships 95 = .ok (.iload_n 3, 1) := by decide +kernel
theorem dX5_broughtByMemberships_96 : decode cX5_broughtByMemberships 96 = .ok (.sipush 200, 3) := by decide +kernel
theorem dX5_broughtByMemberships_99 : decode cX5_broughtByMemberships 99 = .ok (.aload 5, 2) := by decide +kernel
theorem dX5_broughtByMemberships_101 : decode cX5_broughtByMemberships 101 = .ok (.getfield 95, 3) := by decide +kernel
theorem dX5_broughtByMemberships_104 : decode cX5_broughtByMemberships 104 = .ok (.iload_n 1, 1) := by decide +kernel
theorem dX5_broughtByMemberships_105 : decode cX5_broughtByMemberships 105 = .ok (.invokestatic 343, 3) := by decide +kernel
theorem dX5_broughtByMemberships_108 : decode cX5_broughtByMemberships 108 = .ok (.iadd, 1) := by decide +kernel
theorem dX5_broughtByMemberships_109 : decode cX5_broughtByMemberships 109 = .ok (.istore_n 3, 1) := by decide +kernel
theorem dX5_broughtByMemberships_110 : decode cX5_broughtByMemberships 110 = .ok (.iinc 4 1, 3) := by decide +kernel
theorem dX5_broughtByMemberships_113 : decode cX5_broughtByMemberships 113 = .ok (.goto (-73), 3) := by decide +kernel
theorem dX5_broughtByMemberships_116 : decode cX5_broughtByMemberships 116 = .ok (.iload_n 3, 1) := by decide +kernel
theorem dX5_broughtByMemberships_117 : decode cX5_broughtByMemberships 117 = .ok (.iload_n 2, 1) := by decide +kernel
theorem dX5_broughtByMemberships_118 : decode cX5_broughtByMemberships 118 = .ok (.sipush 200, 3) := by decide +kernel
theorem dX5_broughtByMemberships_121 : decode cX5_broughtByMemberships 121 = .ok (.imul, 1) := by decide +kernel
theorem dX5_broughtByMemberships_122 : decode cX5_broughtByMemberships 122 = .ok (.iconst 0, 1) := by decide +kernel
theorem dX5_broughtByMemberships_123 : decode cX5_broughtByMemberships 123 = .ok (.iload_n 1, 1) := by decide +kernel
theorem dX5_broughtByMemberships_124 : decode cX5_broughtByMemberships 124 = .ok (.invokestatic 343, 3) := by decide +kernel
theorem dX5_broughtByMemberships_127 : decode cX5_broughtByMemberships 127 = .ok (.iadd, 1) := by decide +kernel
theorem dX5_broughtByMemberships_128 : decode cX5_broughtByMemberships 128 = .ok (.ireturn, 1) := by decide +kernel
theorem dJ5_init_d00df_0 : decode cJ5_init_d00df 0 = .ok (.aload_n 0, 1) := by decide +kernel
theorem dJ5_init_d00df_1 : decode cJ5_init_d00df 1 = .ok (.invokespecial 3, 3) := by decide +kernel
theorem dJ5_init_d00df_4 : decode cJ5_init_d00df 4 = .ok (.getstatic 18, 3) := by decide +kernel
theorem dJ5_init_d00df_7 : decode cJ5_init_d00df 7 = .ok (.ifCond .eq 18, 3) := by decide +kernel
theorem dJ5_init_d00df_10 : decode cJ5_init_d00df 10 = .ok (.aload_n 0, 1) := by decide +kernel
theorem dJ5_init_d00df_11 : decode cJ5_init_d00df 11 = .ok (.iload_n 1, 1) := by decide +kernel
theorem dJ5_init_d00df_12 : decode cJ5_init_d00df 12 = .ok (.newarray .byte, 2) := by decide +kernel
theorem dJ5_init_d00df_14 : decode cJ5_init_d00df 14 = .ok (.putfield 15, 3) := by decide +kernel
theorem dJ5_init_d00df_17 : decode cJ5_init_d00df 17 = .ok (.aload_n 0, 1) := by decide +kernel
theorem dJ5_init_d00df_18 : decode cJ5_init_d00df 18 = .ok (.iconst 0, 1) := by decide +kernel
theorem dJ5_init_d00df_19 : decode cJ5_init_d00df 19 = .ok (.putfield 22, 3) := by decide +kernel
theorem dJ5_init_d00df_22 : decode cJ5_init_d00df 22 = .ok (.goto 16, 3) := by decide +kernel
theorem dJ5_init_d00df_25 : decode cJ5_init_d00df 25 = .ok (.aload_n 0, 1) := by decide +kernel
theorem dJ5_init_d00df_26 : decode cJ5_init_d00df 26 = .ok (.iload_n 1, 1) := by decide +kernel
theorem dJ5_init_d00df_27 : decode cJ5_init_d00df 27 = .ok (.invokestatic 26, 3) := by decide +kernel
theorem dJ5_init_d00df_30 : decode cJ5_init_d00df 30 = .ok (.putfield 15, 3) := by decide +kernel
theorem dJ5_init_d00df_33 : decode cJ5_init_d00df 33 = .ok (.aload_n 0, 1) := by decide +kernel
theorem dJ5_init_d00df_34 : decode cJ5_init_d00df 34 = .ok (.iconst 1, 1) := by decide +kernel
theorem dJ5_init_d00df_35 : decode cJ5_init_d00df 35 = .ok (.putfield 22, 3) := by decide +kernel
theorem dJ5_init_d00df_38 : decode cJ5_init_d00df 38 = .ok (.return_, 1) := by decide +kernel
theorem dJ5_length_8abf5_0 : decode cJ5_length_8abf5 0 = .ok (.aload_n 0, 1) := by decide +kernel
theorem dJ5_length_8abf5_1 : decode cJ5_length_8abf5 1 = .ok (.getfield 79, 3) := by decide +kernel
theorem dJ5_length_8abf5_4 : decode cJ5_length_8abf5 4 = .ok (.ireturn, 1) := by decide +kernel
theorem dJ5_ensureCapacityInternal_d00df_0 : decode cJ5_ensureCapacityInternal_d00df 0 = .ok (.aload_n 0, 1) := by decide +kernel
theorem dJ5_ensureCapacityInternal_d00df_1 : decode cJ5_ensureCapacityInternal_d00df 1 = .ok (.getfield 15, 3) := by decide +kernel
theorem dJ5_ensureCapacityInternal_d00df_4 : decode cJ5_ensureCapacityInternal_d00df 4 = .ok (.arraylength, 1) := by decide +kernel
theorem dJ5_ensureCapacityInternal_d00df_5 : decode cJ5_ensureCapacityInternal_d00df 5 = .ok (.aload_n 0, 1) := by decide +kernel
theorem dJ5_ensureCapacityInternal_d00df_6 : decode cJ5_ensureCapacityInternal_d00df 6 = .ok (.getfield 22, 3) := by decide +kernel
theorem dJ5_ensureCapacityInternal_d00df_9 : decode cJ5_ensureCapacityInternal_d00df 9 = .ok (.ishr, 1) := by decide +kernel
theorem dJ5_ensureCapacityInternal_d00df_10 : decode cJ5_ensureCapacityInternal_d00df 10 = .ok (.istore_n 2, 1) := by decide +kernel
theorem dJ5_ensureCapacityInternal_d00df_11 : decode cJ5_ensureCapacityInternal_d00df 11 = .ok (.iload_n 1, 1) := by decide +kernel
theorem dJ5_ensureCapacityInternal_d00df_12 : decode cJ5_ensureCapacityInternal_d00df 12 = .ok (.iload_n 2, 1) := by decide +kernel
theorem dJ5_ensureCapacityInternal_d00df_13 : decode cJ5_ensureCapacityInternal_d00df 13 = .ok (.isub, 1) := by decide +kernel
theorem dJ5_ensureCapacityInternal_d00df_14 : decode cJ5_ensureCapacityInternal_d00df 14 = .ok (.ifCond .le 24, 3) := by decide +kernel
theorem dJ5_ensureCapacityInternal_d00df_17 : decode cJ5_ensureCapacityInternal_d00df 17 = .ok (.aload_n 0, 1) := by decide +kernel
theorem dJ5_ensureCapacityInternal_d00df_18 : decode cJ5_ensureCapacityInternal_d00df 18 = .ok (.aload_n 0, 1) := by decide +kernel
theorem dJ5_ensureCapacityInternal_d00df_19 : decode cJ5_ensureCapacityInternal_d00df 19 = .ok (.getfield 15, 3) := by decide +kernel
theorem dJ5_ensureCapacityInternal_d00df_22 : decode cJ5_ensureCapacityInternal_d00df 22 = .ok (.aload_n 0, 1) := by decide +kernel
theorem dJ5_ensureCapacityInternal_d00df_23 : decode cJ5_ensureCapacityInternal_d00df 23 = .ok (.iload_n 1, 1) := by decide +kernel
theorem dJ5_ensureCapacityInternal_d00df_24 : decode cJ5_ensureCapacityInternal_d00df 24 = .ok (.invokevirtual 104, 3) := by decide +kernel
theorem dJ5_ensureCapacityInternal_d00df_27 : decode cJ5_ensureCapacityInternal_d00df 27 = .ok (.aload_n 0, 1) := by decide +kernel
theorem dJ5_ensureCapacityInternal_d00df_28 : decode cJ5_ensureCapacityInternal_d00df 28 = .ok (.getfield 22, 3) := by decide +kernel
theorem dJ5_ensureCapacityInternal_d00df_31 : decode cJ5_ensureCapacityInternal_d00df 31 = .ok (.ishl, 1) := by decide +kernel
theorem dJ5_ensureCapacityInternal_d00df_32 : decode cJ5_ensureCapacityInternal_d00df 32 = .ok (.invokestatic 108, 3) := by decide +kernel
theorem dJ5_ensureCapacityInternal_d00df_35 : decode cJ5_ensureCapacityInternal_d00df 35 = .ok (.putfield 15, 3) := by decide +kernel
theorem dJ5_ensureCapacityInternal_d00df_38 : decode cJ5_ensureCapacityInternal_d00df 38 = .ok (.return_, 1) := by decide +kernel
theorem dJ5_newCapacity_0f7a4_0 : decode cJ5_newCapacity_0f7a4 0 = .ok (.aload_n 0, 1) := by decide +kernel
theorem dJ5_newCapacity_0f7a4_1 : decode cJ5_newCapacity_0f7a4 1 = .ok (.getfield 15, 3) := by decide +kernel
theorem dJ5_newCapacity_0f7a4_4 : decode cJ5_newCapacity_0f7a4 4 = .ok (.arraylength, 1) := by decide +kernel
theorem dJ5_newCapacity_0f7a4_5 : decode cJ5_newCapacity_0f7a4 5 = .ok (.istore_n 2, 1) := by decide +kernel
theorem dJ5_newCapacity_0f7a4_6 : decode cJ5_newCapacity_0f7a4 6 = .ok (.iload_n 1, 1) := by decide +kernel
theorem dJ5_newCapacity_0f7a4_7 : decode cJ5_newCapacity_0f7a4 7 = .ok (.aload_n 0, 1) := by decide +kernel
theorem dJ5_newCapacity_0f7a4_8 : decode cJ5_newCapacity_0f7a4 8 = .ok (.getfield 22, 3) := by decide +kernel
theorem dJ5_newCapacity_0f7a4_11 : decode cJ5_newCapacity_0f7a4 11 = .ok (.ishl, 1) := by decide +kernel
theorem dJ5_newCapacity_0f7a4_12 : decode cJ5_newCapacity_0f7a4 12 = .ok (.istore_n 3, 1) := by decide +kernel
theorem dJ5_newCapacity_0f7a4_13 : decode cJ5_newCapacity_0f7a4 13 = .ok (.iload_n 3, 1) := by decide +kernel
theorem dJ5_newCapacity_0f7a4_14 : decode cJ5_newCapacity_0f7a4 14 = .ok (.iload_n 2, 1) := by decide +kernel
theorem dJ5_newCapacity_0f7a4_15 : decode cJ5_newCapacity_0f7a4 15 = .ok (.isub, 1) := by decide +kernel
theorem dJ5_newCapacity_0f7a4_16 : decode cJ5_newCapacity_0f7a4 16 = .ok (.istore 4, 2) := by decide +kernel
theorem dJ5_newCapacity_0f7a4_18 : decode cJ5_newCapacity_0f7a4 18 = .ok (.iload_n 2, 1) := by decide +kernel
theorem dJ5_newCapacity_0f7a4_19 : decode cJ5_newCapacity_0f7a4 19 = .ok (.iload 4, 2) := by decide +kernel
theorem dJ5_newCapacity_0f7a4_21 : decode cJ5_newCapacity_0f7a4 21 = .ok (.iload_n 2, 1) := by decide +kernel
theorem dJ5_newCapacity_0f7a4_22 : decode cJ5_newCapacity_0f7a4 22 = .ok (.iconst 2, 1) := by decide +kernel
theorem dJ5_newCapacity_0f7a4_23 : decode cJ5_newCapacity_0f7a4 23 = .ok (.aload_n 0, 1) := by decide +kernel
theorem dJ5_newCapacity_0f7a4_24 : decode cJ5_newCapacity_0f7a4 24 = .ok (.getfield 22, 3) := by decide +kernel
theorem dJ5_newCapacity_0f7a4_27 : decode cJ5_newCapacity_0f7a4 27 = .ok (.ishl, 1) := by decide +kernel
theorem dJ5_newCapacity_0f7a4_28 : decode cJ5_newCapacity_0f7a4 28 = .ok (.iadd, 1) := by decide +kernel
theorem dJ5_newCapacity_0f7a4_29 : decode cJ5_newCapacity_0f7a4 29 = .ok (.invokestatic 114, 3) := by decide +kernel
theorem dJ5_newCapacity_0f7a4_32 : decode cJ5_newCapacity_0f7a4 32 = .ok (.istore 5, 2) := by decide +kernel
theorem dJ5_newCapacity_0f7a4_34 : decode cJ5_newCapacity_0f7a4 34 = .ok (.iload 5, 2) := by decide +kernel
theorem dJ5_newCapacity_0f7a4_36 : decode cJ5_newCapacity_0f7a4 36 = .ok (.ldc 39, 2) := by decide +kernel
theorem dJ5_newCapacity_0f7a4_38 : decode cJ5_newCapacity_0f7a4 38 = .ok (.if_icmp .ne 13, 3) := by decide +kernel
theorem dJ5_newCapacity_0f7a4_41 : decode cJ5_newCapacity_0f7a4 41 = .ok (.new 120, 3) := by decide +kernel
theorem dJ5_newCapacity_0f7a4_44 : decode cJ5_newCapacity_0f7a4 44 = .ok (.dup, 1) := by decide +kernel
theorem dJ5_newCapacity_0f7a4_45 : decode cJ5_newCapacity_0f7a4 45 = .ok (.ldc 122, 2) := by decide +kernel
theorem dJ5_newCapacity_0f7a4_47 : decode cJ5_newCapacity_0f7a4 47 = .ok (.invokespecial 124, 3) := by decide +kernel
theorem dJ5_newCapacity_0f7a4_50 : decode cJ5_newCapacity_0f7a4 50 = .ok (.athrow, 1) := by decide +kernel
theorem dJ5_newCapacity_0f7a4_51 : decode cJ5_newCapacity_0f7a4 51 = .ok (.iload 5, 2) := by decide +kernel
theorem dJ5_newCapacity_0f7a4_53 : decode cJ5_newCapacity_0f7a4 53 = .ok (.aload_n 0, 1) := by decide +kernel
theorem dJ5_newCapacity_0f7a4_54 : decode cJ5_newCapacity_0f7a4 54 = .ok (.getfield 22, 3) := by decide +kernel
theorem dJ5_newCapacity_0f7a4_57 : decode cJ5_newCapacity_0f7a4 57 = .ok (.ishr, 1) := by decide +kernel
theorem dJ5_newCapacity_0f7a4_58 : decode cJ5_newCapacity_0f7a4 58 = .ok (.ireturn, 1) := by decide +kernel
theorem dJ5_charAt_5068e_0 : decode cJ5_charAt_5068e 0 = .ok (.aload_n 0, 1) := by decide +kernel
theorem dJ5_charAt_5068e_1 : decode cJ5_charAt_5068e 1 = .ok (.getfield 22, 3) := by decide +kernel
theorem dJ5_charAt_5068e_4 : decode cJ5_charAt_5068e 4 = .ok (.istore_n 2, 1) := by decide +kernel
theorem dJ5_charAt_5068e_5 : decode cJ5_charAt_5068e 5 = .ok (.aload_n 0, 1) := by decide +kernel
theorem dJ5_charAt_5068e_6 : decode cJ5_charAt_5068e 6 = .ok (.getfield 15, 3) := by decide +kernel
theorem dJ5_charAt_5068e_9 : decode cJ5_charAt_5068e 9 = .ok (.astore_n 3, 1) := by decide +kernel
theorem dJ5_charAt_5068e_10 : decode cJ5_charAt_5068e 10 = .ok (.aload_n 0, 1) := by decide +kernel
theorem dJ5_charAt_5068e_11 : decode cJ5_charAt_5068e 11 = .ok (.getfield 79, 3) := by decide +kernel
theorem dJ5_charAt_5068e_14 : decode cJ5_charAt_5068e 14 = .ok (.aload_n 3, 1) := by decide +kernel
theorem dJ5_charAt_5068e_15 : decode cJ5_charAt_5068e 15 = .ok (.arraylength, 1) := by decide +kernel
theorem dJ5_charAt_5068e_16 : decode cJ5_charAt_5068e 16 = .ok (.iload_n 2, 1) := by decide +kernel
theorem dJ5_charAt_5068e_17 : decode cJ5_charAt_5068e 17 = .ok (.ishr, 1) := by decide +kernel
theorem dJ5_charAt_5068e_18 : decode cJ5_charAt_5068e 18 = .ok (.invokestatic 138, 3) := by decide +kernel
theorem dJ5_charAt_5068e_21 : decode cJ5_charAt_5068e 21 = .ok (.istore 4, 2) := by decide +kernel
theorem dJ5_charAt_5068e_23 : decode cJ5_charAt_5068e 23 = .ok (.iload_n 1, 1) := by decide +kernel
theorem dJ5_charAt_5068e_24 : decode cJ5_charAt_5068e 24 = .ok (.iload 4, 2) := by decide +kernel
theorem dJ5_charAt_5068e_26 : decode cJ5_charAt_5068e 26 = .ok (.invokestatic 144, 3) := by decide +kernel
theorem dJ5_charAt_5068e_29 : decode cJ5_charAt_5068e 29 = .ok (.iload_n 2, 1) := by decide +kernel
theorem dJ5_charAt_5068e_30 : decode cJ5_charAt_5068e 30 = .ok (.ifCond .ne 12, 3) := by decide +kernel
theorem dJ5_charAt_5068e_33 : decode cJ5_charAt_5068e 33 = .ok (.aload_n 3, 1) := by decide +kernel
theorem dJ5_charAt_5068e_34 : decode cJ5_charAt_5068e 34 = .ok (.iload_n 1, 1) := by decide +kernel
theorem dJ5_charAt_5068e_35 : decode cJ5_charAt_5068e 35 = .ok (.baload, 1) := by decide +kernel
theorem dJ5_charAt_5068e_36 : decode cJ5_charAt_5068e 36 = .ok (.sipush 255, 3) := by decide +kernel
theorem dJ5_charAt_5068e_39 : decode cJ5_charAt_5068e 39 = .ok (.iand, 1) := by decide +kernel
theorem dJ5_charAt_5068e_40 : decode cJ5_charAt_5068e 40 = .ok (.i2c, 1) := by decide +kernel
theorem dJ5_charAt_5068e_41 : decode cJ5_charAt_5068e 41 = .ok (.ireturn, 1) := by decide +kernel
theorem dJ5_charAt_5068e_42 : decode cJ5_charAt_5068e 42 = .ok (.aload_n 3, 1) := by decide +kernel
theorem dJ5_charAt_5068e_43 : decode cJ5_charAt_5068e 43 = .ok (.iload_n 1, 1) := by decide +kernel
theorem dJ5_charAt_5068e_44 : decode cJ5_charAt_5068e 44 = .ok (.invokestatic 148, 3) := by decide +kernel
theorem dJ5_charAt_5068e_47 : decode cJ5_charAt_5068e 47 = .ok (.ireturn, 1) := by decide +kernel
theorem dJ5_append_3fe6f_0 : decode cJ5_append_3fe6f 0 = .ok (.aload_n 0, 1) := by decide +kernel
theorem dJ5_append_3fe6f_1 : decode cJ5_append_3fe6f 1 = .ok (.aload_n 0, 1) := by decide +kernel
theorem dJ5_append_3fe6f_2 : decode cJ5_append_3fe6f 2 = .ok (.getfield 79, 3) := by decide +kernel
theorem dJ5_append_3fe6f_5 : decode cJ5_append_3fe6f 5 = .ok (.iconst 1, 1) := by decide +kernel
theorem dJ5_append_3fe6f_6 : decode cJ5_append_3fe6f 6 = .ok (.iadd, 1) := by decide +kernel
theorem dJ5_append_3fe6f_7 : decode cJ5_append_3fe6f 7 = .ok (.invokevirtual 100, 3) := by decide +kernel
theorem dJ5_append_3fe6f_10 : decode cJ5_append_3fe6f 10 = .ok (.aload_n 0, 1) := by decide +kernel
theorem dJ5_append_3fe6f_11 : decode cJ5_append_3fe6f 11 = .ok (.invokevirtual 83, 3) := by decide +kernel
theorem dJ5_append_3fe6f_14 : decode cJ5_append_3fe6f 14 = .ok (.ifCond .eq 31, 3) := by decide +kernel
theorem dJ5_append_3fe6f_17 : decode cJ5_append_3fe6f 17 = .ok (.iload_n 1, 1) := by decide +kernel
theorem dJ5_append_3fe6f_18 : decode cJ5_append_3fe6f 18 = .ok (.invokestatic 191, 3) := by decide +kernel
theorem dJ5_append_3fe6f_21 : decode cJ5_append_3fe6f 21 = .ok (.ifCond .eq 24, 3) := by decide +kernel
theorem dJ5_append_3fe6f_24 : decode cJ5_append_3fe6f 24 = .ok (.aload_n 0, 1) := by decide +kernel
theorem dJ5_append_3fe6f_25 : decode cJ5_append_3fe6f 25 = .ok (.getfield 15, 3) := by decide +kernel
theorem dJ5_append_3fe6f_28 : decode cJ5_append_3fe6f 28 = .ok (.aload_n 0, 1) := by decide +kernel
theorem dJ5_append_3fe6f_29 : decode cJ5_append_3fe6f 29 = .ok (.dup, 1) := by decide +kernel
theorem dJ5_append_3fe6f_30 : decode cJ5_append_3fe6f 30 = .ok (.getfield 79, 3) := by decide +kernel
theorem dJ5_append_3fe6f_33 : decode cJ5_append_3fe6f 33 = .ok (.dup_x1, 1) := by decide +kernel
theorem dJ5_append_3fe6f_34 : decode cJ5_append_3fe6f 34 = .ok (.iconst 1, 1) := by decide +kernel
theorem dJ5_append_3fe6f_35 : decode cJ5_append_3fe6f 35 = .ok (.iadd, 1) := by decide +kernel
theorem dJ5_append_3fe6f_36 : decode cJ5_append_3fe6f 36 = .ok (.putfield 79, 3) := by decide +kernel
theorem dJ5_append_3fe6f_39 : decode cJ5_append_3fe6f 39 = .ok (.iload_n 1, 1) := by decide +kernel
theorem dJ5_append_3fe6f_40 : decode cJ5_append_3fe6f 40 = .ok (.i2b, 1) := by decide +kernel
theorem dJ5_append_3fe6f_41 : decode cJ5_append_3fe6f 41 = .ok (.bastore, 1) := by decide +kernel
theorem dJ5_append_3fe6f_42 : decode cJ5_append_3fe6f 42 = .ok (.goto 33, 3) := by decide +kernel
theorem dJ5_append_3fe6f_45 : decode cJ5_append_3fe6f 45 = .ok (.aload_n 0, 1) := by decide +kernel
theorem dJ5_append_3fe6f_46 : decode cJ5_append_3fe6f 46 = .ok (.invokevirtual 83, 3) := by decide +kernel
theorem dJ5_append_3fe6f_49 : decode cJ5_append_3fe6f 49 = .ok (.ifCond .eq 7, 3) := by decide +kernel
theorem dJ5_append_3fe6f_52 : decode cJ5_append_3fe6f 52 = .ok (.aload_n 0, 1) := by decide +kernel
theorem dJ5_append_3fe6f_53 : decode cJ5_append_3fe6f 53 = .ok (.invokevirtual 195, 3) := by decide +kernel
theorem dJ5_append_3fe6f_56 : decode cJ5_append_3fe6f 56 = .ok (.aload_n 0, 1) := by decide +kernel
theorem dJ5_append_3fe6f_57 : decode cJ5_append_3fe6f 57 = .ok (.getfield 15, 3) := by decide +kernel
theorem dJ5_append_3fe6f_60 : decode cJ5_append_3fe6f 60 = .ok (.aload_n 0, 1) := by decide +kernel
theorem dJ5_append_3fe6f_61 : decode cJ5_append_3fe6f 61 = .ok (.dup, 1) := by decide +kernel
theorem dJ5_append_3fe6f_62 : decode cJ5_append_3fe6f 62 = .ok (.getfield 79, 3) := by decide +kernel
theorem dJ5_append_3fe6f_65 : decode cJ5_append_3fe6f 65 = .ok (.dup_x1, 1) := by decide +kernel
theorem dJ5_append_3fe6f_66 : decode cJ5_append_3fe6f 66 = .ok (.iconst 1, 1) := by decide +kernel
theorem dJ5_append_3fe6f_67 : decode cJ5_append_3fe6f 67 = .ok (.iadd, 1) := by decide +kernel
theorem dJ5_append_3fe6f_68 : decode cJ5_append_3fe6f 68 = .ok (.putfield 79, 3) := by decide +kernel
theorem dJ5_append_3fe6f_71 : decode cJ5_append_3fe6f 71 = .ok (.iload_n 1, 1) := by decide +kernel
theorem dJ5_append_3fe6f_72 : decode cJ5_append_3fe6f 72 = .ok (.invokestatic 197, 3) := by decide +kernel
theorem dJ5_append_3fe6f_75 : decode cJ5_append_3fe6f 75 = .ok (.aload_n 0, 1) := by decide +kernel
theorem dJ5_append_3fe6f_76 : decode cJ5_append_3fe6f 76 = .ok (.areturn, 1) := by decide +kernel
theorem dJ5_append_c97b9_0 : decode cJ5_append_c97b9 0 = .ok (.aload_n 0, 1) := by decide +kernel
theorem dJ5_append_c97b9_1 : decode cJ5_append_c97b9 1 = .ok (.getfield 79, 3) := by decide +kernel
theorem dJ5_append_c97b9_4 : decode cJ5_append_c97b9 4 = .ok (.istore_n 2, 1) := by decide +kernel
theorem dJ5_append_c97b9_5 : decode cJ5_append_c97b9 5 = .ok (.iload_n 2, 1) := by decide +kernel
theorem dJ5_append_c97b9_6 : decode cJ5_append_c97b9 6 = .ok (.iload_n 1, 1) := by decide +kernel
theorem dJ5_append_c97b9_7 : decode cJ5_append_c97b9 7 = .ok (.invokestatic 245, 3) := by decide +kernel
theorem dJ5_append_c97b9_10 : decode cJ5_append_c97b9 10 = .ok (.iadd, 1) := by decide +kernel
theorem dJ5_append_c97b9_11 : decode cJ5_append_c97b9 11 = .ok (.istore_n 3, 1) := by decide +kernel
theorem dJ5_append_c97b9_12 : decode cJ5_append_c97b9 12 = .ok (.aload_n 0, 1) := by decide +kernel
theorem dJ5_append_c97b9_13 : decode cJ5_append_c97b9 13 = .ok (.iload_n 3, 1) := by decide +kernel
theorem dJ5_append_c97b9_14 : decode cJ5_append_c97b9 14 = .ok (.invokevirtual 100, 3) := by decide +kernel
theorem dJ5_append_c97b9_17 : decode cJ5_append_c97b9 17 = .ok (.aload_n 0, 1) := by decide +kernel
theorem dJ5_append_c97b9_18 : decode cJ5_append_c97b9 18 = .ok (.invokevirtual 83, 3) := by decide +kernel
theorem dJ5_append_c97b9_21 : decode cJ5_append_c97b9 21 = .ok (.ifCond .eq 16, 3) := by decide +kernel
theorem dJ5_append_c97b9_24 : decode cJ5_append_c97b9 24 = .ok (.iload_n 1, 1) := by decide +kernel
theorem dJ5_append_c97b9_25 : decode cJ5_append_c97b9 25 = .ok (.iload_n 3, 1) := by decide +kernel
theorem dJ5_append_c97b9_26 : decode cJ5_append_c97b9 26 = .ok (.aload_n 0, 1) := by decide +kernel
theorem dJ5_append_c97b9_27 : decode cJ5_append_c97b9 27 = .ok (.getfield 15, 3) := by decide +kernel
theorem dJ5_append_c97b9_30 : decode cJ5_append_c97b9 30 = .ok (.invokestatic 248, 3) := by decide +kernel
theorem dJ5_append_c97b9_33 : decode cJ5_append_c97b9 33 = .ok (.pop, 1) := by decide +kernel
theorem dJ5_append_c97b9_34 : decode cJ5_append_c97b9 34 = .ok (.goto 14, 3) := by decide +kernel
theorem dJ5_append_c97b9_37 : decode cJ5_append_c97b9 37 = .ok (.iload_n 1, 1) := by decide +kernel
theorem dJ5_append_c97b9_38 : decode cJ5_append_c97b9 38 = .ok (.iload_n 2, 1) := by decide +kernel
theorem dJ5_append_c97b9_39 : decode cJ5_append_c97b9 39 = .ok (.iload_n 3, 1) := by decide +kernel
theorem dJ5_append_c97b9_40 : decode cJ5_append_c97b9 40 = .ok (.aload_n 0, 1) := by decide +kernel
theorem dJ5_append_c97b9_41 : decode cJ5_append_c97b9 41 = .ok (.getfield 15, 3) := by decide +kernel
theorem dJ5_append_c97b9_44 : decode cJ5_append_c97b9 44 = .ok (.invokestatic 251, 3) := by decide +kernel
theorem dJ5_append_c97b9_47 : decode cJ5_append_c97b9 47 = .ok (.pop, 1) := by decide +kernel
theorem dJ5_append_c97b9_48 : decode cJ5_append_c97b9 48 = .ok (.aload_n 0, 1) := by decide +kernel
theorem dJ5_append_c97b9_49 : decode cJ5_append_c97b9 49 = .ok (.iload_n 3, 1) := by decide +kernel
theorem dJ5_append_c97b9_50 : decode cJ5_append_c97b9 50 = .ok (.putfield 79, 3) := by decide +kernel
theorem dJ5_append_c97b9_53 : decode cJ5_append_c97b9 53 = .ok (.aload_n 0, 1) := by decide +kernel
theorem dJ5_append_c97b9_54 : decode cJ5_append_c97b9 54 = .ok (.areturn, 1) := by decide +kernel
theorem dJ5_isLatin1_aae02_0 : decode cJ5_isLatin1_aae02 0 = .ok (.getstatic 18, 3) := by decide +kernel
theorem dJ5_isLatin1_aae02_3 : decode cJ5_isLatin1_aae02 3 = .ok (.ifCond .eq 14, 3) := by decide +kernel
theorem dJ5_isLatin1_aae02_6 : decode cJ5_isLatin1_aae02 6 = .ok (.aload_n 0, 1) := by decide +kernel
theorem dJ5_isLatin1_aae02_7 : decode cJ5_isLatin1_aae02 7 = .ok (.getfield 22, 3) := by decide +kernel
theorem dJ5_isLatin1_aae02_10 : decode cJ5_isLatin1_aae02 10 = .ok (.ifCond .ne 7, 3) := by decide +kernel
theorem dJ5_isLatin1_aae02_13 : decode cJ5_isLatin1_aae02 13 = .ok (.iconst 1, 1) := by decide +kernel
theorem dJ5_isLatin1_aae02_14 : decode cJ5_isLatin1_aae02 14 = .ok (.goto 4, 3) := by decide +kernel
theorem dJ5_isLatin1_aae02_17 : decode cJ5_isLatin1_aae02 17 = .ok (.iconst 0, 1) := by decide +kernel
theorem dJ5_isLatin1_aae02_18 : decode cJ5_isLatin1_aae02 18 = .ok (.ireturn, 1) := by decide +kernel
theorem dJ6_getChars_ba4f3_0 : decode cJ6_getChars_ba4f3 0 = .ok (.iload_n 1, 1) := by decide +kernel
theorem dJ6_getChars_ba4f3_1 : decode cJ6_getChars_ba4f3 1 = .ok (.istore 5, 2) := by decide +kernel
theorem dJ6_getChars_ba4f3_3 : decode cJ6_getChars_ba4f3 3 = .ok (.iload_n 0, 1) := by decide +kernel
theorem dJ6_getChars_ba4f3_4 : decode cJ6_getChars_ba4f3 4 = .ok (.ifCond .ge 7, 3) := by decide +kernel
theorem dJ6_getChars_ba4f3_7 : decode cJ6_getChars_ba4f3 7 = .ok (.iconst 1, 1) := by decide +kernel
theorem dJ6_getChars_ba4f3_8 : decode cJ6_getChars_ba4f3 8 = .ok (.goto 4, 3) := by decide +kernel
theorem dJ6_getChars_ba4f3_11 : decode cJ6_getChars_ba4f3 11 = .ok (.iconst 0, 1) := by decide +kernel
theorem dJ6_getChars_ba4f3_12 : decode cJ6_getChars_ba4f3 12 = .ok (.istore 6, 2) := by decide +kernel
theorem dJ6_getChars_ba4f3_14 : decode cJ6_getChars_ba4f3 14 = .ok (.iload 6, 2) := by decide +kernel
theorem dJ6_getChars_ba4f3_16 : decode cJ6_getChars_ba4f3 16 = .ok (.ifCond .ne 6, 3) := by decide +kernel
theorem dJ6_getChars_ba4f3_19 : decode cJ6_getChars_ba4f3 19 = .ok (.iload_n 0, 1) := by decide +kernel
theorem dJ6_getChars_ba4f3_20 : decode cJ6_getChars_ba4f3 20 = .ok (.ineg, 1) := by decide +kernel
theorem dJ6_getChars_ba4f3_21 : decode cJ6_getChars_ba4f3 21 = .ok (.istore_n 0, 1) := by decide +kernel
theorem dJ6_getChars_ba4f3_22 : decode cJ6_getChars_ba4f3 22 = .ok (.iload_n 0, 1) := by decide +kernel
theorem dJ6_getChars_ba4f3_23 : decode cJ6_getChars_ba4f3 23 = .ok (.bipush (-100), 2) := by decide +kernel
theorem dJ6_getChars_ba4f3_25 : decode cJ6_getChars_ba4f3 25 = .ok (.if_icmp .gt 47, 3) := by decide +kernel
theorem dJ6_getChars_ba4f3_28 : decode cJ6_getChars_ba4f3 28 = .ok (.iload_n 0, 1) := by decide +kernel
theorem dJ6_getChars_ba4f3_29 : decode cJ6_getChars_ba4f3 29 = .ok (.bipush 100, 2) := by decide +kernel
theorem dJ6_getChars_ba4f3_31 : decode cJ6_getChars_ba4f3 31 = .ok (.idiv, 1) := by decide +kernel
theorem dJ6_getChars_ba4f3_32 : decode cJ6_getChars_ba4f3 32 = .ok (.istore_n 3, 1) := by decide +kernel
theorem dJ6_getChars_ba4f3_33 : decode cJ6_getChars_ba4f3 33 = .ok (.iload_n 3, 1) := by decide +kernel
theorem dJ6_getChars_ba4f3_34 : decode cJ6_getChars_ba4f3 34 = .ok (.bipush 100, 2) := by decide +kernel
theorem dJ6_getChars_ba4f3_36 : decode cJ6_getChars_ba4f3 36 = .ok (.imul, 1) := by decide +kernel
theorem dJ6_getChars_ba4f3_37 : decode cJ6_getChars_ba4f3 37 = .ok (.iload_n 0, 1) := by decide +kernel
theorem dJ6_getChars_ba4f3_38 : decode cJ6_getChars_ba4f3 38 = .ok (.isub, 1) := by decide +kernel
theorem dJ6_getChars_ba4f3_39 : decode cJ6_getChars_ba4f3 39 = .ok (.istore 4, 2) := by decide +kernel
theorem dJ6_getChars_ba4f3_41 : decode cJ6_getChars_ba4f3 41 = .ok (.iload_n 3, 1) := by decide +kernel
theorem dJ6_getChars_ba4f3_42 : decode cJ6_getChars_ba4f3 42 = .ok (.istore_n 0, 1) := by decide +kernel
theorem dJ6_getChars_ba4f3_43 : decode cJ6_getChars_ba4f3 43 = .ok (.aload_n 2, 1) := by decide +kernel
theorem dJ6_getChars_ba4f3_44 : decode cJ6_getChars_ba4f3 44 = .ok (.iinc 5 (-1), 3) := by decide +kernel
theorem dJ6_getChars_ba4f3_47 : decode cJ6_getChars_ba4f3 47 = .ok (.iload 5, 2) := by decide +kernel
theorem dJ6_getChars_ba4f3_49 : decode cJ6_getChars_ba4f3 49 = .ok (.getstatic 83, 3) := by decide +kernel
theorem dJ6_getChars_ba4f3_52 : decode cJ6_getChars_ba4f3 52 = .ok (.iload 4, 2) := by decide +kernel
theorem dJ6_getChars_ba4f3_54 : decode cJ6_getChars_ba4f3 54 = .ok (.baload, 1) := by decide +kernel
theorem dJ6_getChars_ba4f3_55 : decode cJ6_getChars_ba4f3 55 = .ok (.bastore, 1) := by decide +kernel
theorem dJ6_getChars_ba4f3_56 : decode cJ6_getChars_ba4f3 56 = .ok (.aload_n 2, 1) := by decide +kernel
theorem dJ6_getChars_ba4f3_57 : decode cJ6_getChars_ba4f3 57 = .ok (.iinc 5 (-1), 3) := by decide +kernel
theorem dJ6_getChars_ba4f3_60 : decode cJ6_getChars_ba4f3 60 = .ok (.iload 5, 2) := by decide +kernel
theorem dJ6_getChars_ba4f3_62 : decode cJ6_getChars_ba4f3 62 = .ok (.getstatic 87, 3) := by decide +kernel
theorem dJ6_getChars_ba4f3_65 : decode cJ6_getChars_ba4f3 65 = .ok (.iload 4, 2) := by decide +kernel
theorem dJ6_getChars_ba4f3_67 : decode cJ6_getChars_ba4f3 67 = .ok (.baload, 1) := by decide +kernel
theorem dJ6_getChars_ba4f3_68 : decode cJ6_getChars_ba4f3 68 = .ok (.bastore, 1) := by decide +kernel
theorem dJ6_getChars_ba4f3_69 : decode cJ6_getChars_ba4f3 69 = .ok (.goto (-47), 3) := by decide +kernel
theorem dJ6_getChars_ba4f3_72 : decode cJ6_getChars_ba4f3 72 = .ok (.aload_n 2, 1) := by decide +kernel
theorem dJ6_getChars_ba4f3_73 : decode cJ6_getChars_ba4f3 73 = .ok (.iinc 5 (-1), 3) := by decide +kernel
theorem dJ6_getChars_ba4f3_76 : decode cJ6_getChars_ba4f3 76 = .ok (.iload 5, 2) := by decide +kernel
theorem dJ6_getChars_ba4f3_78 : decode cJ6_getChars_ba4f3 78 = .ok (.getstatic 83, 3) := by decide +kernel
theorem dJ6_getChars_ba4f3_81 : decode cJ6_getChars_ba4f3 81 = .ok (.iload_n 0, 1) := by decide +kernel
theorem dJ6_getChars_ba4f3_82 : decode cJ6_getChars_ba4f3 82 = .ok (.ineg, 1) := by decide +kernel
theorem dJ6_getChars_ba4f3_83 : decode cJ6_getChars_ba4f3 83 = .ok (.baload, 1) := by decide +kernel
theorem dJ6_getChars_ba4f3_84 : decode cJ6_getChars_ba4f3 84 = .ok (.bastore, 1) := by decide +kernel
theorem dJ6_getChars_ba4f3_85 : decode cJ6_getChars_ba4f3 85 = .ok (.iload_n 0, 1) := by decide +kernel
theorem dJ6_getChars_ba4f3_86 : decode cJ6_getChars_ba4f3 86 = .ok (.bipush (-9), 2) := by decide +kernel
theorem dJ6_getChars_ba4f3_88 : decode cJ6_getChars_ba4f3 88 = .ok (.if_icmp .ge 16, 3) := by decide +kernel
theorem dJ6_getChars_ba4f3_91 : decode cJ6_getChars_ba4f3 91 = .ok (.aload_n 2, 1) := by decide +kernel
theorem dJ6_getChars_ba4f3_92 : decode cJ6_getChars_ba4f3 92 = .ok (.iinc 5 (-1), 3) := by decide +kernel
theorem dJ6_getChars_ba4f3_95 : decode cJ6_getChars_ba4f3 95 = .ok (.iload 5, 2) := by decide +kernel
theorem dJ6_getChars_ba4f3_97 : decode cJ6_getChars_ba4f3 97 = .ok (.getstatic 87, 3) := by decide +kernel
theorem dJ6_getChars_ba4f3_100 : decode cJ6_getChars_ba4f3 100 = .ok (.iload_n 0, 1) := by decide +kernel
theorem dJ6_getChars_ba4f3_101 : decode cJ6_getChars_ba4f3 101 = .ok (.ineg, 1) := by decide +kernel
theorem dJ6_getChars_ba4f3_102 : decode cJ6_getChars_ba4f3 102 = .ok (.baload, 1) := by decide +kernel
theorem dJ6_getChars_ba4f3_103 : decode cJ6_getChars_ba4f3 103 = .ok (.bastore, 1) := by decide +kernel
theorem dJ6_getChars_ba4f3_104 : decode cJ6_getChars_ba4f3 104 = .ok (.iload 6, 2) := by decide +kernel
theorem dJ6_getChars_ba4f3_106 : decode cJ6_getChars_ba4f3 106 = .ok (.ifCond .eq 12, 3) := by decide +kernel
theorem dJ6_getChars_ba4f3_109 : decode cJ6_getChars_ba4f3 109 = .ok (.aload_n 2, 1) := by decide +kernel
theorem dJ6_getChars_ba4f3_110 : decode cJ6_getChars_ba4f3 110 = .ok (.iinc 5 (-1), 3) := by decide +kernel
theorem dJ6_getChars_ba4f3_113 : decode cJ6_getChars_ba4f3 113 = .ok (.iload 5, 2) := by decide +kernel
theorem dJ6_getChars_ba4f3_115 : decode cJ6_getChars_ba4f3 115 = .ok (.bipush 45, 2) := by decide +kernel
theorem dJ6_getChars_ba4f3_117 : decode cJ6_getChars_ba4f3 117 = .ok (.bastore, 1) := by decide +kernel
theorem dJ6_getChars_ba4f3_118 : decode cJ6_getChars_ba4f3 118 = .ok (.iload 5, 2) := by decide +kernel
theorem dJ6_getChars_ba4f3_120 : decode cJ6_getChars_ba4f3 120 = .ok (.ireturn, 1) := by decide +kernel
theorem dJ6_stringSize_0f7a4_0 : decode cJ6_stringSize_0f7a4 0 = .ok (.iconst 1, 1) := by decide +kernel
theorem dJ6_stringSize_0f7a4_1 : decode cJ6_stringSize_0f7a4 1 = .ok (.istore_n 1, 1) := by decide +kernel
theorem dJ6_stringSize_0f7a4_2 : decode cJ6_stringSize_0f7a4 2 = .ok (.iload_n 0, 1) := by decide +kernel
theorem dJ6_stringSize_0f7a4_3 : decode cJ6_stringSize_0f7a4 3 = .ok (.ifCond .lt 8, 3) := by decide +kernel
theorem dJ6_stringSize_0f7a4_6 : decode cJ6_stringSize_0f7a4 6 = .ok (.iconst 0, 1) := by decide +kernel
theorem dJ6_stringSize_0f7a4_7 : decode cJ6_stringSize_0f7a4 7 = .ok (.istore_n 1, 1) := by decide +kernel
theorem dJ6_stringSize_0f7a4_8 : decode cJ6_stringSize_0f7a4 8 = .ok (.iload_n 0, 1) := by decide +kernel
theorem dJ6_stringSize_0f7a4_9 : decode cJ6_stringSize_0f7a4 9 = .ok (.ineg, 1) := by decide +kernel
theorem dJ6_stringSize_0f7a4_10 : decode cJ6_stringSize_0f7a4 10 = .ok (.istore_n 0, 1) := by decide +kernel
theorem dJ6_stringSize_0f7a4_11 : decode cJ6_stringSize_0f7a4 11 = .ok (.bipush (-10), 2) := by decide +kernel
theorem dJ6_stringSize_0f7a4_13 : decode cJ6_stringSize_0f7a4 13 = .ok (.istore_n 2, 1) := by decide +kernel
theorem dJ6_stringSize_0f7a4_14 : decode cJ6_stringSize_0f7a4 14 = .ok (.iconst 1, 1) := by decide +kernel
theorem dJ6_stringSize_0f7a4_15 : decode cJ6_stringSize_0f7a4 15 = .ok (.istore_n 3, 1) := by decide +kernel
theorem dJ6_stringSize_0f7a4_16 : decode cJ6_stringSize_0f7a4 16 = .ok (.iload_n 3, 1) := by decide +kernel
theorem dJ6_stringSize_0f7a4_17 : decode cJ6_stringSize_0f7a4 17 = .ok (.bipush 10, 2) := by decide +kernel
theorem dJ6_stringSize_0f7a4_19 : decode cJ6_stringSize_0f7a4 19 = .ok (.if_icmp .ge 23, 3) := by decide +kernel
theorem dJ6_stringSize_0f7a4_22 : decode cJ6_stringSize_0f7a4 22 = .ok (.iload_n 0, 1) := by decide +kernel
theorem dJ6_stringSize_0f7a4_23 : decode cJ6_stringSize_0f7a4 23 = .ok (.iload_n 2, 1) := by decide +kernel
theorem dJ6_stringSize_0f7a4_24 : decode cJ6_stringSize_0f7a4 24 = .ok (.if_icmp .le 7, 3) := by decide +kernel
theorem dJ6_stringSize_0f7a4_27 : decode cJ6_stringSize_0f7a4 27 = .ok (.iload_n 3, 1) := by decide +kernel
theorem dJ6_stringSize_0f7a4_28 : decode cJ6_stringSize_0f7a4 28 = .ok (.iload_n 1, 1) := by decide +kernel
theorem dJ6_stringSize_0f7a4_29 : decode cJ6_stringSize_0f7a4 29 = .ok (.iadd, 1) := by decide +kernel
theorem dJ6_stringSize_0f7a4_30 : decode cJ6_stringSize_0f7a4 30 = .ok (.ireturn, 1) := by decide +kernel
theorem dJ6_stringSize_0f7a4_31 : decode cJ6_stringSize_0f7a4 31 = .ok (.bipush 10, 2) := by decide +kernel
theorem dJ6_stringSize_0f7a4_33 : decode cJ6_stringSize_0f7a4 33 = .ok (.iload_n 2, 1) := by decide +kernel
theorem dJ6_stringSize_0f7a4_34 : decode cJ6_stringSize_0f7a4 34 = .ok (.imul, 1) := by decide +kernel
theorem dJ6_stringSize_0f7a4_35 : decode cJ6_stringSize_0f7a4 35 = .ok (.istore_n 2, 1) := by decide +kernel
theorem dJ6_stringSize_0f7a4_36 : decode cJ6_stringSize_0f7a4 36 = .ok (.iinc 3 1, 3) := by decide +kernel
theorem dJ6_stringSize_0f7a4_39 : decode cJ6_stringSize_0f7a4 39 = .ok (.goto (-23), 3) := by decide +kernel
theorem dJ6_stringSize_0f7a4_42 : decode cJ6_stringSize_0f7a4 42 = .ok (.bipush 10, 2) := by decide +kernel
theorem dJ6_stringSize_0f7a4_44 : decode cJ6_stringSize_0f7a4 44 = .ok (.iload_n 1, 1) := by decide +kernel
theorem dJ6_stringSize_0f7a4_45 : decode cJ6_stringSize_0f7a4 45 = .ok (.iadd, 1) := by decide +kernel
theorem dJ6_stringSize_0f7a4_46 : decode cJ6_stringSize_0f7a4 46 = .ok (.ireturn, 1) := by decide +kernel
theorem dJ6_bitCount_0f7a4_0 : decode cJ6_bitCount_0f7a4 0 = .ok (.iload_n 0, 1) := by decide +kernel
theorem dJ6_bitCount_0f7a4_1 : decode cJ6_bitCount_0f7a4 1 = .ok (.iload_n 0, 1) := by decide +kernel
theorem dJ6_bitCount_0f7a4_2 : decode cJ6_bitCount_0f7a4 2 = .ok (.iconst 1, 1) := by decide +kernel
theorem dJ6_bitCount_0f7a4_3 : decode cJ6_bitCount_0f7a4 3 = .ok (.iushr, 1) := by decide +kernel
theorem dJ6_bitCount_0f7a4_4 : decode cJ6_bitCount_0f7a4 4 = .ok (.ldc_w 265, 3) := by decide +kernel
theorem dJ6_bitCount_0f7a4_7 : decode cJ6_bitCount_0f7a4 7 = .ok (.iand, 1) := by decide +kernel
theorem dJ6_bitCount_0f7a4_8 : decode cJ6_bitCount_0f7a4 8 = .ok (.isub, 1) := by decide +kernel
theorem dJ6_bitCount_0f7a4_9 : decode cJ6_bitCount_0f7a4 9 = .ok (.istore_n 0, 1) := by decide +kernel
theorem dJ6_bitCount_0f7a4_10 : decode cJ6_bitCount_0f7a4 10 = .ok (.iload_n 0, 1) := by decide +kernel
theorem dJ6_bitCount_0f7a4_11 : decode cJ6_bitCount_0f7a4 11 = .ok (.ldc_w 266, 3) := by decide +kernel
theorem dJ6_bitCount_0f7a4_14 : decode cJ6_bitCount_0f7a4 14 = .ok (.iand, 1) := by decide +kernel
theorem dJ6_bitCount_0f7a4_15 : decode cJ6_bitCount_0f7a4 15 = .ok (.iload_n 0, 1) := by decide +kernel
theorem dJ6_bitCount_0f7a4_16 : decode cJ6_bitCount_0f7a4 16 = .ok (.iconst 2, 1) := by decide +kernel
theorem dJ6_bitCount_0f7a4_17 : decode cJ6_bitCount_0f7a4 17 = .ok (.iushr, 1) := by decide +kernel
theorem dJ6_bitCount_0f7a4_18 : decode cJ6_bitCount_0f7a4 18 = .ok (.ldc_w 266, 3) := by decide +kernel
theorem dJ6_bitCount_0f7a4_21 : decode cJ6_bitCount_0f7a4 21 = .ok (.iand, 1) := by decide +kernel
theorem dJ6_bitCount_0f7a4_22 : decode cJ6_bitCount_0f7a4 22 = .ok (.iadd, 1) := by decide +kernel
theorem dJ6_bitCount_0f7a4_23 : decode cJ6_bitCount_0f7a4 23 = .ok (.istore_n 0, 1) := by decide +kernel
theorem dJ6_bitCount_0f7a4_24 : decode cJ6_bitCount_0f7a4 24 = .ok (.iload_n 0, 1) := by decide +kernel
theorem dJ6_bitCount_0f7a4_25 : decode cJ6_bitCount_0f7a4 25 = .ok (.iload_n 0, 1) := by decide +kernel
theorem dJ6_bitCount_0f7a4_26 : decode cJ6_bitCount_0f7a4 26 = .ok (.iconst 4, 1) := by decide +kernel
theorem dJ6_bitCount_0f7a4_27 : decode cJ6_bitCount_0f7a4 27 = .ok (.iushr, 1) := by decide +kernel
theorem dJ6_bitCount_0f7a4_28 : decode cJ6_bitCount_0f7a4 28 = .ok (.iadd, 1) := by decide +kernel
theorem dJ6_bitCount_0f7a4_29 : decode cJ6_bitCount_0f7a4 29 = .ok (.ldc_w 267, 3) := by decide +kernel
theorem dJ6_bitCount_0f7a4_32 : decode cJ6_bitCount_0f7a4 32 = .ok (.iand, 1) := by decide +kernel
theorem dJ6_bitCount_0f7a4_33 : decode cJ6_bitCount_0f7a4 33 = .ok (.istore_n 0, 1) := by decide +kernel
theorem dJ6_bitCount_0f7a4_34 : decode cJ6_bitCount_0f7a4 34 = .ok (.iload_n 0, 1) := by decide +kernel
theorem dJ6_bitCount_0f7a4_35 : decode cJ6_bitCount_0f7a4 35 = .ok (.iload_n 0, 1) := by decide +kernel
theorem dJ6_bitCount_0f7a4_36 : decode cJ6_bitCount_0f7a4 36 = .ok (.bipush 8, 2) := by decide +kernel
theorem dJ6_bitCount_0f7a4_38 : decode cJ6_bitCount_0f7a4 38 = .ok (.iushr, 1) := by decide +kernel
theorem dJ6_bitCount_0f7a4_39 : decode cJ6_bitCount_0f7a4 39 = .ok (.iadd, 1) := by decide +kernel
theorem dJ6_bitCount_0f7a4_40 : decode cJ6_bitCount_0f7a4 40 = .ok (.istore_n 0, 1) := by decide +kernel
theorem dJ6_bitCount_0f7a4_41 : decode cJ6_bitCount_0f7a4 41 = .ok (.iload_n 0, 1) := by decide +kernel
theorem dJ6_bitCount_0f7a4_42 : decode cJ6_bitCount_0f7a4 42 = .ok (.iload_n 0, 1) := by decide +kernel
theorem dJ6_bitCount_0f7a4_43 : decode cJ6_bitCount_0f7a4 43 = .ok (.bipush 16, 2) := by decide +kernel
theorem dJ6_bitCount_0f7a4_45 : decode cJ6_bitCount_0f7a4 45 = .ok (.iushr, 1) := by decide +kernel
theorem dJ6_bitCount_0f7a4_46 : decode cJ6_bitCount_0f7a4 46 = .ok (.iadd, 1) := by decide +kernel
theorem dJ6_bitCount_0f7a4_47 : decode cJ6_bitCount_0f7a4 47 = .ok (.istore_n 0, 1) := by decide +kernel
theorem dJ6_bitCount_0f7a4_48 : decode cJ6_bitCount_0f7a4 48 = .ok (.iload_n 0, 1) := by decide +kernel
theorem dJ6_bitCount_0f7a4_49 : decode cJ6_bitCount_0f7a4 49 = .ok (.bipush 63, 2) := by decide +kernel
theorem dJ6_bitCount_0f7a4_51 : decode cJ6_bitCount_0f7a4 51 = .ok (.iand, 1) := by decide +kernel
theorem dJ6_bitCount_0f7a4_52 : decode cJ6_bitCount_0f7a4 52 = .ok (.ireturn, 1) := by decide +kernel
theorem dJ4_init_da8c8_0 : decode cJ4_init_da8c8 0 = .ok (.aload_n 0, 1) := by decide +kernel
theorem dJ4_init_da8c8_1 : decode cJ4_init_da8c8 1 = .ok (.bipush 16, 2) := by decide +kernel
theorem dJ4_init_da8c8_3 : decode cJ4_init_da8c8 3 = .ok (.invokespecial 1, 3) := by decide +kernel
theorem dJ4_init_da8c8_6 : decode cJ4_init_da8c8 6 = .ok (.return_, 1) := by decide +kernel
theorem dJ4_append_cf468_0 : decode cJ4_append_cf468 0 = .ok (.aload_n 0, 1) := by decide +kernel
theorem dJ4_append_cf468_1 : decode cJ4_append_cf468 1 = .ok (.iload_n 1, 1) := by decide +kernel
theorem dJ4_append_cf468_2 : decode cJ4_append_cf468 2 = .ok (.invokespecial 50, 3) := by decide +kernel
theorem dJ4_append_cf468_5 : decode cJ4_append_cf468 5 = .ok (.pop, 1) := by decide +kernel
theorem dJ4_append_cf468_6 : decode cJ4_append_cf468 6 = .ok (.aload_n 0, 1) := by decide +kernel
theorem dJ4_append_cf468_7 : decode cJ4_append_cf468 7 = .ok (.areturn, 1) := by decide +kernel
theorem dJ4_append_bf812_0 : decode cJ4_append_bf812 0 = .ok (.aload_n 0, 1) := by decide +kernel
theorem dJ4_append_bf812_1 : decode cJ4_append_bf812 1 = .ok (.iload_n 1, 1) := by decide +kernel
theorem dJ4_append_bf812_2 : decode cJ4_append_bf812 2 = .ok (.invokespecial 53, 3) := by decide +kernel
theorem dJ4_append_bf812_5 : decode cJ4_append_bf812 5 = .ok (.pop, 1) := by decide +kernel
theorem dJ4_append_bf812_6 : decode cJ4_append_bf812 6 = .ok (.aload_n 0, 1) := by decide +kernel
theorem dJ4_append_bf812_7 : decode cJ4_append_bf812 7 = .ok (.areturn, 1) := by decide +kernel
theorem dJ4_charAt_5068e_0 : decode cJ4_charAt_5068e 0 = .ok (.aload_n 0, 1) := by decide +kernel
theorem dJ4_charAt_5068e_1 : decode cJ4_charAt_5068e 1 = .ok (.iload_n 1, 1) := by decide +kernel
theorem dJ4_charAt_5068e_2 : decode cJ4_charAt_5068e 2 = .ok (.invokespecial 329, 3) := by decide +kernel
theorem dJ4_charAt_5068e_5 : decode cJ4_charAt_5068e 5 = .ok (.ireturn, 1) := by decide +kernel
theorem dJ4_length_8abf5_0 : decode cJ4_length_8abf5 0 = .ok (.aload_n 0, 1) := by decide +kernel
theorem dJ4_length_8abf5_1 : decode cJ4_length_8abf5 1 = .ok (.invokespecial 343, 3) := by decide +kernel
theorem dJ4_length_8abf5_4 : decode cJ4_length_8abf5 4 = .ok (.ireturn, 1) := by decide +kernel
theorem dJ1_canEncode_fc78d_0 : decode cJ1_canEncode_fc78d 0 = .ok (.iload_n 0, 1) := by decide +kernel
theorem dJ1_canEncode_fc78d_1 : decode cJ1_canEncode_fc78d 1 = .ok (.sipush 255, 3) := by decide +kernel
theorem dJ1_canEncode_fc78d_4 : decode cJ1_canEncode_fc78d 4 = .ok (.if_icmp .gt 7, 3) := by decide +kernel
theorem dJ1_canEncode_fc78d_7 : decode cJ1_canEncode_fc78d 7 = .ok (.iconst 1, 1) := by decide +kernel
theorem dJ1_canEncode_fc78d_8 : decode cJ1_canEncode_fc78d 8 = .ok (.goto 4, 3) := by decide +kernel
theorem dJ1_canEncode_fc78d_11 : decode cJ1_canEncode_fc78d 11 = .ok (.iconst 0, 1) := by decide +kernel
theorem dJ1_canEncode_fc78d_12 : decode cJ1_canEncode_fc78d 12 = .ok (.ireturn, 1) := by decide +kernel
theorem dJxa1e45_init_da8c8_0 : decode cJxa1e45_init_da8c8 0 = .ok (.aload_n 0, 1) := by decide +kernel
theorem dJxa1e45_init_da8c8_1 : decode cJxa1e45_init_da8c8 1 = .ok (.invokespecial 1, 3) := by decide +kernel
theorem dJxa1e45_init_da8c8_4 : decode cJxa1e45_init_da8c8 4 = .ok (.return_, 1) := by decide +kernel
theorem dJxc12de_init_da8c8_0 : decode cJxc12de_init_da8c8 0 = .ok (.aload_n 0, 1) := by decide +kernel
theorem dJxc12de_init_da8c8_1 : decode cJxc12de_init_da8c8 1 = .ok (.invokespecial 1, 3) := by decide +kernel
theorem dJxc12de_init_da8c8_4 : decode cJxc12de_init_da8c8 4 = .ok (.aload_n 0, 1) := by decide +kernel
theorem dJxc12de_init_da8c8_5 : decode cJxc12de_init_da8c8 5 = .ok (.iconst 0, 1) := by decide +kernel
theorem dJxc12de_init_da8c8_6 : decode cJxc12de_init_da8c8 6 = .ok (.putfield 7, 3) := by decide +kernel
theorem dJxc12de_init_da8c8_9 : decode cJxc12de_init_da8c8 9 = .ok (.return_, 1) := by decide +kernel
theorem dJx4a65c_init_da8c8_0 : decode cJx4a65c_init_da8c8 0 = .ok (.aload_n 0, 1) := by decide +kernel
theorem dJx4a65c_init_da8c8_1 : decode cJx4a65c_init_da8c8 1 = .ok (.invokespecial 1, 3) := by decide +kernel
theorem dJx4a65c_init_da8c8_4 : decode cJx4a65c_init_da8c8 4 = .ok (.aload_n 0, 1) := by decide +kernel
theorem dJx4a65c_init_da8c8_5 : decode cJx4a65c_init_da8c8 5 = .ok (.getstatic 39, 3) := by decide +kernel
theorem dJx4a65c_init_da8c8_8 : decode cJx4a65c_init_da8c8 8 = .ok (.putfield 9, 3) := by decide +kernel
theorem dJx4a65c_init_da8c8_11 : decode cJx4a65c_init_da8c8 11 = .ok (.return_, 1) := by decide +kernel
theorem dJx4a65c_grow_92f84_0 : decode cJx4a65c_grow_92f84 0 = .ok (.aload_n 0, 1) := by decide +kernel
theorem dJx4a65c_grow_92f84_1 : decode cJx4a65c_grow_92f84 1 = .ok (.getfield 9, 3) := by decide +kernel
theorem dJx4a65c_grow_92f84_4 : decode cJx4a65c_grow_92f84 4 = .ok (.arraylength, 1) := by decide +kernel
theorem dJx4a65c_grow_92f84_5 : decode cJx4a65c_grow_92f84 5 = .ok (.istore_n 2, 1) := by decide +kernel
theorem dJx4a65c_grow_92f84_6 : decode cJx4a65c_grow_92f84 6 = .ok (.iload_n 2, 1) := by decide +kernel
theorem dJx4a65c_grow_92f84_7 : decode cJx4a65c_grow_92f84 7 = .ok (.ifCond .gt 13, 3) := by decide +kernel
theorem dJx4a65c_grow_92f84_10 : decode cJx4a65c_grow_92f84 10 = .ok (.aload_n 0, 1) := by decide +kernel
theorem dJx4a65c_grow_92f84_11 : decode cJx4a65c_grow_92f84 11 = .ok (.getfield 9, 3) := by decide +kernel
theorem dJx4a65c_grow_92f84_14 : decode cJx4a65c_grow_92f84 14 = .ok (.getstatic 39, 3) := by decide +kernel
theorem dJx4a65c_grow_92f84_17 : decode cJx4a65c_grow_92f84 17 = .ok (.if_acmp .eq 28, 3) := by decide +kernel
theorem dJx4a65c_grow_92f84_20 : decode cJx4a65c_grow_92f84 20 = .ok (.iload_n 2, 1) := by decide +kernel
theorem dJx4a65c_grow_92f84_21 : decode cJx4a65c_grow_92f84 21 = .ok (.iload_n 1, 1) := by decide +kernel
theorem dJx4a65c_grow_92f84_22 : decode cJx4a65c_grow_92f84 22 = .ok (.iload_n 2, 1) := by decide +kernel
theorem dJx4a65c_grow_92f84_23 : decode cJx4a65c_grow_92f84 23 = .ok (.isub, 1) := by decide +kernel
theorem dJx4a65c_grow_92f84_24 : decode cJx4a65c_grow_92f84 24 = .ok (.iload_n 2, 1) := by decide +kernel
theorem dJx4a65c_grow_92f84_25 : decode cJx4a65c_grow_92f84 25 = .ok (.iconst 1, 1) := by decide +kernel
theorem dJx4a65c_grow_92f84_26 : decode cJx4a65c_grow_92f84 26 = .ok (.ishr, 1) := by decide +kernel
theorem dJx4a65c_grow_92f84_27 : decode cJx4a65c_grow_92f84 27 = .ok (.invokestatic 73, 3) := by decide +kernel
theorem dJx4a65c_grow_92f84_30 : decode cJx4a65c_grow_92f84 30 = .ok (.istore_n 3, 1) := by decide +kernel
theorem dJx4a65c_grow_92f84_31 : decode cJx4a65c_grow_92f84 31 = .ok (.aload_n 0, 1) := by decide +kernel
theorem dJx4a65c_grow_92f84_32 : decode cJx4a65c_grow_92f84 32 = .ok (.aload_n 0, 1) := by decide +kernel
theorem dJx4a65c_grow_92f84_33 : decode cJx4a65c_grow_92f84 33 = .ok (.getfield 9, 3) := by decide +kernel
theorem dJx4a65c_grow_92f84_36 : decode cJx4a65c_grow_92f84 36 = .ok (.iload_n 3, 1) := by decide +kernel
theorem dJx4a65c_grow_92f84_37 : decode cJx4a65c_grow_92f84 37 = .ok (.invokestatic 66, 3) := by decide +kernel
theorem dJx4a65c_grow_92f84_40 : decode cJx4a65c_grow_92f84 40 = .ok (.dup_x1, 1) := by decide +kernel
theorem dJx4a65c_grow_92f84_41 : decode cJx4a65c_grow_92f84 41 = .ok (.putfield 9, 3) := by decide +kernel
theorem dJx4a65c_grow_92f84_44 : decode cJx4a65c_grow_92f84 44 = .ok (.areturn, 1) := by decide +kernel
theorem dJx4a65c_grow_92f84_45 : decode cJx4a65c_grow_92f84 45 = .ok (.aload_n 0, 1) := by decide +kernel
theorem dJx4a65c_grow_92f84_46 : decode cJx4a65c_grow_92f84 46 = .ok (.bipush 10, 2) := by decide +kernel
theorem dJx4a65c_grow_92f84_48 : decode cJx4a65c_grow_92f84 48 = .ok (.iload_n 1, 1) := by decide +kernel
theorem dJx4a65c_grow_92f84_49 : decode cJx4a65c_grow_92f84 49 = .ok (.invokestatic 79, 3) := by decide +kernel
theorem dJx4a65c_grow_92f84_52 : decode cJx4a65c_grow_92f84 52 = .ok (.anewarray 7, 3) := by decide +kernel
theorem dJx4a65c_grow_92f84_55 : decode cJx4a65c_grow_92f84 55 = .ok (.dup_x1, 1) := by decide +kernel
theorem dJx4a65c_grow_92f84_56 : decode cJx4a65c_grow_92f84 56 = .ok (.putfield 9, 3) := by decide +kernel
theorem dJx4a65c_grow_92f84_59 : decode cJx4a65c_grow_92f84 59 = .ok (.areturn, 1) := by decide +kernel
theorem dJx4a65c_grow_d5877_0 : decode cJx4a65c_grow_d5877 0 = .ok (.aload_n 0, 1) := by decide +kernel
theorem dJx4a65c_grow_d5877_1 : decode cJx4a65c_grow_d5877 1 = .ok (.aload_n 0, 1) := by decide +kernel
theorem dJx4a65c_grow_d5877_2 : decode cJx4a65c_grow_d5877 2 = .ok (.getfield 48, 3) := by decide +kernel
theorem dJx4a65c_grow_d5877_5 : decode cJx4a65c_grow_d5877 5 = .ok (.iconst 1, 1) := by decide +kernel
theorem dJx4a65c_grow_d5877_6 : decode cJx4a65c_grow_d5877 6 = .ok (.iadd, 1) := by decide +kernel
theorem dJx4a65c_grow_d5877_7 : decode cJx4a65c_grow_d5877 7 = .ok (.invokevirtual 69, 3) := by decide +kernel
theorem dJx4a65c_grow_d5877_10 : decode cJx4a65c_grow_d5877 10 = .ok (.areturn, 1) := by decide +kernel
theorem dJx4a65c_size_8abf5_0 : decode cJx4a65c_size_8abf5 0 = .ok (.aload_n 0, 1) := by decide +kernel
theorem dJx4a65c_size_8abf5_1 : decode cJx4a65c_size_8abf5 1 = .ok (.getfield 48, 3) := by decide +kernel
theorem dJx4a65c_size_8abf5_4 : decode cJx4a65c_size_8abf5 4 = .ok (.ireturn, 1) := by decide +kernel
theorem dJx4a65c_isEmpty_aae02_0 : decode cJx4a65c_isEmpty_aae02 0 = .ok (.aload_n 0, 1) := by decide +kernel
theorem dJx4a65c_isEmpty_aae02_1 : decode cJx4a65c_isEmpty_aae02 1 = .ok (.getfield 48, 3) := by decide +kernel
theorem dJx4a65c_isEmpty_aae02_4 : decode cJx4a65c_isEmpty_aae02 4 = .ok (.ifCond .ne 7, 3) := by decide +kernel
theorem dJx4a65c_isEmpty_aae02_7 : decode cJx4a65c_isEmpty_aae02 7 = .ok (.iconst 1, 1) := by decide +kernel
theorem dJx4a65c_isEmpty_aae02_8 : decode cJx4a65c_isEmpty_aae02 8 = .ok (.goto 4, 3) := by decide +kernel
theorem dJx4a65c_isEmpty_aae02_11 : decode cJx4a65c_isEmpty_aae02 11 = .ok (.iconst 0, 1) := by decide +kernel
theorem dJx4a65c_isEmpty_aae02_12 : decode cJx4a65c_isEmpty_aae02 12 = .ok (.ireturn, 1) := by decide +kernel
theorem dJx4a65c_elementData_915e3_0 : decode cJx4a65c_elementData_915e3 0 = .ok (.aload_n 0, 1) := by decide +kernel
theorem dJx4a65c_elementData_915e3_1 : decode cJx4a65c_elementData_915e3 1 = .ok (.getfield 9, 3) := by decide +kernel
theorem dJx4a65c_elementData_915e3_4 : decode cJx4a65c_elementData_915e3 4 = .ok (.iload_n 1, 1) := by decide +kernel
theorem dJx4a65c_elementData_915e3_5 : decode cJx4a65c_elementData_915e3 5 = .ok (.aaload, 1) := by decide +kernel
theorem dJx4a65c_elementData_915e3_6 : decode cJx4a65c_elementData_915e3 6 = .ok (.areturn, 1) := by decide +kernel
theorem dJx4a65c_get_915e3_0 : decode cJx4a65c_get_915e3 0 = .ok (.iload_n 1, 1) := by decide +kernel
theorem dJx4a65c_get_915e3_1 : decode cJx4a65c_get_915e3 1 = .ok (.aload_n 0, 1) := by decide +kernel
theorem dJx4a65c_get_915e3_2 : decode cJx4a65c_get_915e3 2 = .ok (.getfield 48, 3) := by decide +kernel
theorem dJx4a65c_get_915e3_5 : decode cJx4a65c_get_915e3 5 = .ok (.invokestatic 118, 3) := by decide +kernel
theorem dJx4a65c_get_915e3_8 : decode cJx4a65c_get_915e3 8 = .ok (.pop, 1) := by decide +kernel
theorem dJx4a65c_get_915e3_9 : decode cJx4a65c_get_915e3 9 = .ok (.aload_n 0, 1) := by decide +kernel
theorem dJx4a65c_get_915e3_10 : decode cJx4a65c_get_915e3 10 = .ok (.iload_n 1, 1) := by decide +kernel
theorem dJx4a65c_get_915e3_11 : decode cJx4a65c_get_915e3 11 = .ok (.invokevirtual 123, 3) := by decide +kernel
theorem dJx4a65c_get_915e3_14 : decode cJx4a65c_get_915e3 14 = .ok (.areturn, 1) := by decide +kernel
theorem dJx4a65c_add_72be8_0 : decode cJx4a65c_add_72be8 0 = .ok (.iload_n 3, 1) := by decide +kernel
theorem dJx4a65c_add_72be8_1 : decode cJx4a65c_add_72be8 1 = .ok (.aload_n 2, 1) := by decide +kernel
theorem dJx4a65c_add_72be8_2 : decode cJx4a65c_add_72be8 2 = .ok (.arraylength, 1) := by decide +kernel
theorem dJx4a65c_add_72be8_3 : decode cJx4a65c_add_72be8 3 = .ok (.if_icmp .ne 8, 3) := by decide +kernel
theorem dJx4a65c_add_72be8_6 : decode cJx4a65c_add_72be8 6 = .ok (.aload_n 0, 1) := by decide +kernel
theorem dJx4a65c_add_72be8_7 : decode cJx4a65c_add_72be8 7 = .ok (.invokevirtual 129, 3) := by decide +kernel
theorem dJx4a65c_add_72be8_10 : decode cJx4a65c_add_72be8 10 = .ok (.astore_n 2, 1) := by decide +kernel
theorem dJx4a65c_add_72be8_11 : decode cJx4a65c_add_72be8 11 = .ok (.aload_n 2, 1) := by decide +kernel
theorem dJx4a65c_add_72be8_12 : decode cJx4a65c_add_72be8 12 = .ok (.iload_n 3, 1) := by decide +kernel
theorem dJx4a65c_add_72be8_13 : decode cJx4a65c_add_72be8 13 = .ok (.aload_n 1, 1) := by decide +kernel
theorem dJx4a65c_add_72be8_14 : decode cJx4a65c_add_72be8 14 = .ok (.aastore, 1) := by decide +kernel
theorem dJx4a65c_add_72be8_15 : decode cJx4a65c_add_72be8 15 = .ok (.aload_n 0, 1) := by decide +kernel
theorem dJx4a65c_add_72be8_16 : decode cJx4a65c_add_72be8 16 = .ok (.iload_n 3, 1) := by decide +kernel
theorem dJx4a65c_add_72be8_17 : decode cJx4a65c_add_72be8 17 = .ok (.iconst 1, 1) := by decide +kernel
theorem dJx4a65c_add_72be8_18 : decode cJx4a65c_add_72be8 18 = .ok (.iadd, 1) := by decide +kernel
theorem dJx4a65c_add_72be8_19 : decode cJx4a65c_add_72be8 19 = .ok (.putfield 48, 3) := by decide +kernel
theorem dJx4a65c_add_72be8_22 : decode cJx4a65c_add_72be8 22 = .ok (.return_, 1) := by decide +kernel
theorem dJx4a65c_add_9ea2d_0 : decode cJx4a65c_add_9ea2d 0 = .ok (.aload_n 0, 1) := by decide +kernel
theorem dJx4a65c_add_9ea2d_1 : decode cJx4a65c_add_9ea2d 1 = .ok (.dup, 1) := by decide +kernel
theorem dJx4a65c_add_9ea2d_2 : decode cJx4a65c_add_9ea2d 2 = .ok (.getfield 63, 3) := by decide +kernel
theorem dJx4a65c_add_9ea2d_5 : decode cJx4a65c_add_9ea2d 5 = .ok (.iconst 1, 1) := by decide +kernel
theorem dJx4a65c_add_9ea2d_6 : decode cJx4a65c_add_9ea2d 6 = .ok (.iadd, 1) := by decide +kernel
theorem dJx4a65c_add_9ea2d_7 : decode cJx4a65c_add_9ea2d 7 = .ok (.putfield 63, 3) := by decide +kernel
theorem dJx4a65c_add_9ea2d_10 : decode cJx4a65c_add_9ea2d 10 = .ok (.aload_n 0, 1) := by decide +kernel
theorem dJx4a65c_add_9ea2d_11 : decode cJx4a65c_add_9ea2d 11 = .ok (.aload_n 1, 1) := by decide +kernel
theorem dJx4a65c_add_9ea2d_12 : decode cJx4a65c_add_9ea2d 12 = .ok (.aload_n 0, 1) := by decide +kernel
theorem dJx4a65c_add_9ea2d_13 : decode cJx4a65c_add_9ea2d 13 = .ok (.getfield 9, 3) := by decide +kernel
theorem dJx4a65c_add_9ea2d_16 : decode cJx4a65c_add_9ea2d 16 = .ok (.aload_n 0, 1) := by decide +kernel
theorem dJx4a65c_add_9ea2d_17 : decode cJx4a65c_add_9ea2d 17 = .ok (.getfield 48, 3) := by decide +kernel
theorem dJx4a65c_add_9ea2d_20 : decode cJx4a65c_add_9ea2d 20 = .ok (.invokevirtual 131, 3) := by decide +kernel
theorem dJx4a65c_add_9ea2d_23 : decode cJx4a65c_add_9ea2d 23 = .ok (.iconst 1, 1) := by decide +kernel
theorem dJx4a65c_add_9ea2d_24 : decode cJx4a65c_add_9ea2d 24 = .ok (.ireturn, 1) := by decide +kernel
theorem dJx4a65c_add_7a177_0 : decode cJx4a65c_add_7a177 0 = .ok (.aload_n 0, 1) := by decide +kernel
theorem dJx4a65c_add_7a177_1 : decode cJx4a65c_add_7a177 1 = .ok (.iload_n 1, 1) := by decide +kernel
theorem dJx4a65c_add_7a177_2 : decode cJx4a65c_add_7a177 2 = .ok (.invokevirtual 135, 3) := by decide +kernel
theorem dJx4a65c_add_7a177_5 : decode cJx4a65c_add_7a177 5 = .ok (.aload_n 0, 1) := by decide +kernel
theorem dJx4a65c_add_7a177_6 : decode cJx4a65c_add_7a177 6 = .ok (.dup, 1) := by decide +kernel
theorem dJx4a65c_add_7a177_7 : decode cJx4a65c_add_7a177 7 = .ok (.getfield 63, 3) := by decide +kernel
theorem dJx4a65c_add_7a177_10 : decode cJx4a65c_add_7a177 10 = .ok (.iconst 1, 1) := by decide +kernel
theorem dJx4a65c_add_7a177_11 : decode cJx4a65c_add_7a177 11 = .ok (.iadd, 1) := by decide +kernel
theorem dJx4a65c_add_7a177_12 : decode cJx4a65c_add_7a177 12 = .ok (.putfield 63, 3) := by decide +kernel
theorem dJx4a65c_add_7a177_15 : decode cJx4a65c_add_7a177 15 = .ok (.aload_n 0, 1) := by decide +kernel
theorem dJx4a65c_add_7a177_16 : decode cJx4a65c_add_7a177 16 = .ok (.getfield 48, 3) := by decide +kernel
theorem dJx4a65c_add_7a177_19 : decode cJx4a65c_add_7a177 19 = .ok (.dup, 1) := by decide +kernel
theorem dJx4a65c_add_7a177_20 : decode cJx4a65c_add_7a177 20 = .ok (.istore_n 3, 1) := by decide +kernel
theorem dJx4a65c_add_7a177_21 : decode cJx4a65c_add_7a177 21 = .ok (.aload_n 0, 1) := by decide +kernel
theorem dJx4a65c_add_7a177_22 : decode cJx4a65c_add_7a177 22 = .ok (.getfield 9, 3) := by decide +kernel
theorem dJx4a65c_add_7a177_25 : decode cJx4a65c_add_7a177 25 = .ok (.dup, 1) := by decide +kernel
theorem dJx4a65c_add_7a177_26 : decode cJx4a65c_add_7a177 26 = .ok (.astore 4, 2) := by decide +kernel
theorem dJx4a65c_add_7a177_28 : decode cJx4a65c_add_7a177 28 = .ok (.arraylength, 1) := by decide +kernel
theorem dJx4a65c_add_7a177_29 : decode cJx4a65c_add_7a177 29 = .ok (.if_icmp .ne 9, 3) := by decide +kernel
theorem dJx4a65c_add_7a177_32 : decode cJx4a65c_add_7a177 32 = .ok (.aload_n 0, 1) := by decide +kernel
theorem dJx4a65c_add_7a177_33 : decode cJx4a65c_add_7a177 33 = .ok (.invokevirtual 129, 3) := by decide +kernel
theorem dJx4a65c_add_7a177_36 : decode cJx4a65c_add_7a177 36 = .ok (.astore 4, 2) := by decide +kernel
theorem dJx4a65c_add_7a177_38 : decode cJx4a65c_add_7a177 38 = .ok (.aload 4, 2) := by decide +kernel
theorem dJx4a65c_add_7a177_40 : decode cJx4a65c_add_7a177 40 = .ok (.iload_n 1, 1) := by decide +kernel
theorem dJx4a65c_add_7a177_41 : decode cJx4a65c_add_7a177 41 = .ok (.aload 4, 2) := by decide +kernel
theorem dJx4a65c_add_7a177_43 : decode cJx4a65c_add_7a177 43 = .ok (.iload_n 1, 1) := by decide +kernel
theorem dJx4a65c_add_7a177_44 : decode cJx4a65c_add_7a177 44 = .ok (.iconst 1, 1) := by decide +kernel
theorem dJx4a65c_add_7a177_45 : decode cJx4a65c_add_7a177 45 = .ok (.iadd, 1) := by decide +kernel
theorem dJx4a65c_add_7a177_46 : decode cJx4a65c_add_7a177 46 = .ok (.iload_n 3, 1) := by decide +kernel
theorem dJx4a65c_add_7a177_47 : decode cJx4a65c_add_7a177 47 = .ok (.iload_n 1, 1) := by decide +kernel
theorem dJx4a65c_add_7a177_48 : decode cJx4a65c_add_7a177 48 = .ok (.isub, 1) := by decide +kernel
theorem dJx4a65c_add_7a177_49 : decode cJx4a65c_add_7a177 49 = .ok (.invokestatic 112, 3) := by decide +kernel
theorem dJx4a65c_add_7a177_52 : decode cJx4a65c_add_7a177 52 = .ok (.aload 4, 2) := by decide +kernel
theorem dJx4a65c_add_7a177_54 : decode cJx4a65c_add_7a177 54 = .ok (.iload_n 1, 1) := by decide +kernel
theorem dJx4a65c_add_7a177_55 : decode cJx4a65c_add_7a177 55 = .ok (.aload_n 2, 1) := by decide +kernel
theorem dJx4a65c_add_7a177_56 : decode cJx4a65c_add_7a177 56 = .ok (.aastore, 1) := by decide +kernel
theorem dJx4a65c_add_7a177_57 : decode cJx4a65c_add_7a177 57 = .ok (.aload_n 0, 1) := by decide +kernel
theorem dJx4a65c_add_7a177_58 : decode cJx4a65c_add_7a177 58 = .ok (.iload_n 3, 1) := by decide +kernel
theorem dJx4a65c_add_7a177_59 : decode cJx4a65c_add_7a177 59 = .ok (.iconst 1, 1) := by decide +kernel
theorem dJx4a65c_add_7a177_60 : decode cJx4a65c_add_7a177 60 = .ok (.iadd, 1) := by decide +kernel
theorem dJx4a65c_add_7a177_61 : decode cJx4a65c_add_7a177 61 = .ok (.putfield 48, 3) := by decide +kernel
theorem dJx4a65c_add_7a177_64 : decode cJx4a65c_add_7a177 64 = .ok (.return_, 1) := by decide +kernel
theorem dJx4a65c_remove_915e3_0 : decode cJx4a65c_remove_915e3 0 = .ok (.iload_n 1, 1) := by decide +kernel
theorem dJx4a65c_remove_915e3_1 : decode cJx4a65c_remove_915e3 1 = .ok (.aload_n 0, 1) := by decide +kernel
theorem dJx4a65c_remove_915e3_2 : decode cJx4a65c_remove_915e3 2 = .ok (.getfield 48, 3) := by decide +kernel
theorem dJx4a65c_remove_915e3_5 : decode cJx4a65c_remove_915e3 5 = .ok (.invokestatic 118, 3) := by decide +kernel
theorem dJx4a65c_remove_915e3_8 : decode cJx4a65c_remove_915e3 8 = .ok (.pop, 1) := by decide +kernel
theorem dJx4a65c_remove_915e3_9 : decode cJx4a65c_remove_915e3 9 = .ok (.aload_n 0, 1) := by decide +kernel
theorem dJx4a65c_remove_915e3_10 : decode cJx4a65c_remove_915e3 10 = .ok (.getfield 9, 3) := by decide +kernel
theorem dJx4a65c_remove_915e3_13 : decode cJx4a65c_remove_915e3 13 = .ok (.astore_n 2, 1) := by decide +kernel
theorem dJx4a65c_remove_915e3_14 : decode cJx4a65c_remove_915e3 14 = .ok (.aload_n 2, 1) := by decide +kernel
theorem dJx4a65c_remove_915e3_15 : decode cJx4a65c_remove_915e3 15 = .ok (.iload_n 1, 1) := by decide +kernel
theorem dJx4a65c_remove_915e3_16 : decode cJx4a65c_remove_915e3 16 = .ok (.aaload, 1) := by decide +kernel
theorem dJx4a65c_remove_915e3_17 : decode cJx4a65c_remove_915e3 17 = .ok (.astore_n 3, 1) := by decide +kernel
theorem dJx4a65c_remove_915e3_18 : decode cJx4a65c_remove_915e3 18 = .ok (.aload_n 0, 1) := by decide +kernel
theorem dJx4a65c_remove_915e3_19 : decode cJx4a65c_remove_915e3 19 = .ok (.aload_n 2, 1) := by decide +kernel
theorem dJx4a65c_remove_915e3_20 : decode cJx4a65c_remove_915e3 20 = .ok (.iload_n 1, 1) := by decide +kernel
theorem dJx4a65c_remove_915e3_21 : decode cJx4a65c_remove_915e3 21 = .ok (.invokevirtual 144, 3) := by decide +kernel
theorem dJx4a65c_remove_915e3_24 : decode cJx4a65c_remove_915e3 24 = .ok (.aload_n 3, 1) := by decide +kernel
theorem dJx4a65c_remove_915e3_25 : decode cJx4a65c_remove_915e3 25 = .ok (.areturn, 1) := by decide +kernel
theorem dJx4a65c_fastRemove_b59b0_0 : decode cJx4a65c_fastRemove_b59b0 0 = .ok (.aload_n 0, 1) := by decide +kernel
theorem dJx4a65c_fastRemove_b59b0_1 : decode cJx4a65c_fastRemove_b59b0 1 = .ok (.dup, 1) := by decide +kernel
theorem dJx4a65c_fastRemove_b59b0_2 : decode cJx4a65c_fastRemove_b59b0 2 = .ok (.getfield 63, 3) := by decide +kernel
theorem dJx4a65c_fastRemove_b59b0_5 : decode cJx4a65c_fastRemove_b59b0 5 = .ok (.iconst 1, 1) := by decide +kernel
theorem dJx4a65c_fastRemove_b59b0_6 : decode cJx4a65c_fastRemove_b59b0 6 = .ok (.iadd, 1) := by decide +kernel
theorem dJx4a65c_fastRemove_b59b0_7 : decode cJx4a65c_fastRemove_b59b0 7 = .ok (.putfield 63, 3) := by decide +kernel
theorem dJx4a65c_fastRemove_b59b0_10 : decode cJx4a65c_fastRemove_b59b0 10 = .ok (.aload_n 0, 1) := by decide +kernel
theorem dJx4a65c_fastRemove_b59b0_11 : decode cJx4a65c_fastRemove_b59b0 11 = .ok (.getfield 48, 3) := by decide +kernel
theorem dJx4a65c_fastRemove_b59b0_14 : decode cJx4a65c_fastRemove_b59b0 14 = .ok (.iconst 1, 1) := by decide +kernel
theorem dJx4a65c_fastRemove_b59b0_15 : decode cJx4a65c_fastRemove_b59b0 15 = .ok (.isub, 1) := by decide +kernel
theorem dJx4a65c_fastRemove_b59b0_16 : decode cJx4a65c_fastRemove_b59b0 16 = .ok (.dup, 1) := by decide +kernel
theorem dJx4a65c_fastRemove_b59b0_17 : decode cJx4a65c_fastRemove_b59b0 17 = .ok (.istore_n 3, 1) := by decide +kernel
theorem dJx4a65c_fastRemove_b59b0_18 : decode cJx4a65c_fastRemove_b59b0 18 = .ok (.iload_n 2, 1) := by decide +kernel
theorem dJx4a65c_fastRemove_b59b0_19 : decode cJx4a65c_fastRemove_b59b0 19 = .ok (.if_icmp .le 15, 3) := by decide +kernel
theorem dJx4a65c_fastRemove_b59b0_22 : decode cJx4a65c_fastRemove_b59b0 22 = .ok (.aload_n 1, 1) := by decide +kernel
theorem dJx4a65c_fastRemove_b59b0_23 : decode cJx4a65c_fastRemove_b59b0 23 = .ok (.iload_n 2, 1) := by decide +kernel
theorem dJx4a65c_fastRemove_b59b0_24 : decode cJx4a65c_fastRemove_b59b0 24 = .ok (.iconst 1, 1) := by decide +kernel
theorem dJx4a65c_fastRemove_b59b0_25 : decode cJx4a65c_fastRemove_b59b0 25 = .ok (.iadd, 1) := by decide +kernel
theorem dJx4a65c_fastRemove_b59b0_26 : decode cJx4a65c_fastRemove_b59b0 26 = .ok (.aload_n 1, 1) := by decide +kernel
theorem dJx4a65c_fastRemove_b59b0_27 : decode cJx4a65c_fastRemove_b59b0 27 = .ok (.iload_n 2, 1) := by decide +kernel
theorem dJx4a65c_fastRemove_b59b0_28 : decode cJx4a65c_fastRemove_b59b0 28 = .ok (.iload_n 3, 1) := by decide +kernel
theorem dJx4a65c_fastRemove_b59b0_29 : decode cJx4a65c_fastRemove_b59b0 29 = .ok (.iload_n 2, 1) := by decide +kernel
theorem dJx4a65c_fastRemove_b59b0_30 : decode cJx4a65c_fastRemove_b59b0 30 = .ok (.isub, 1) := by decide +kernel
theorem dJx4a65c_fastRemove_b59b0_31 : decode cJx4a65c_fastRemove_b59b0 31 = .ok (.invokestatic 112, 3) := by decide +kernel
theorem dJx4a65c_fastRemove_b59b0_34 : decode cJx4a65c_fastRemove_b59b0 34 = .ok (.aload_n 1, 1) := by decide +kernel
theorem dJx4a65c_fastRemove_b59b0_35 : decode cJx4a65c_fastRemove_b59b0 35 = .ok (.aload_n 0, 1) := by decide +kernel
theorem dJx4a65c_fastRemove_b59b0_36 : decode cJx4a65c_fastRemove_b59b0 36 = .ok (.iload_n 3, 1) := by decide +kernel
theorem dJx4a65c_fastRemove_b59b0_37 : decode cJx4a65c_fastRemove_b59b0 37 = .ok (.dup_x1, 1) := by decide +kernel
theorem dJx4a65c_fastRemove_b59b0_38 : decode cJx4a65c_fastRemove_b59b0 38 = .ok (.putfield 48, 3) := by decide +kernel
theorem dJx4a65c_fastRemove_b59b0_41 : decode cJx4a65c_fastRemove_b59b0 41 = .ok (.aconst_null, 1) := by decide +kernel
theorem dJx4a65c_fastRemove_b59b0_42 : decode cJx4a65c_fastRemove_b59b0 42 = .ok (.aastore, 1) := by decide +kernel
theorem dJx4a65c_fastRemove_b59b0_43 : decode cJx4a65c_fastRemove_b59b0 43 = .ok (.return_, 1) := by decide +kernel
theorem dJx4a65c_clear_da8c8_0 : decode cJx4a65c_clear_da8c8 0 = .ok (.aload_n 0, 1) := by decide +kernel
theorem dJx4a65c_clear_da8c8_1 : decode cJx4a65c_clear_da8c8 1 = .ok (.dup, 1) := by decide +kernel
theorem dJx4a65c_clear_da8c8_2 : decode cJx4a65c_clear_da8c8 2 = .ok (.getfield 63, 3) := by decide +kernel
theorem dJx4a65c_clear_da8c8_5 : decode cJx4a65c_clear_da8c8 5 = .ok (.iconst 1, 1) := by decide +kernel
theorem dJx4a65c_clear_da8c8_6 : decode cJx4a65c_clear_da8c8 6 = .ok (.iadd, 1) := by decide +kernel
theorem dJx4a65c_clear_da8c8_7 : decode cJx4a65c_clear_da8c8 7 = .ok (.putfield 63, 3) := by decide +kernel
theorem dJx4a65c_clear_da8c8_10 : decode cJx4a65c_clear_da8c8 10 = .ok (.aload_n 0, 1) := by decide +kernel
theorem dJx4a65c_clear_da8c8_11 : decode cJx4a65c_clear_da8c8 11 = .ok (.getfield 9, 3) := by decide +kernel
theorem dJx4a65c_clear_da8c8_14 : decode cJx4a65c_clear_da8c8 14 = .ok (.astore_n 1, 1) := by decide +kernel
theorem dJx4a65c_clear_da8c8_15 : decode cJx4a65c_clear_da8c8 15 = .ok (.aload_n 0, 1) := by decide +kernel
theorem dJx4a65c_clear_da8c8_16 : decode cJx4a65c_clear_da8c8 16 = .ok (.getfield 48, 3) := by decide +kernel
theorem dJx4a65c_clear_da8c8_19 : decode cJx4a65c_clear_da8c8 19 = .ok (.istore_n 2, 1) := by decide +kernel
theorem dJx4a65c_clear_da8c8_20 : decode cJx4a65c_clear_da8c8 20 = .ok (.aload_n 0, 1) := by decide +kernel
theorem dJx4a65c_clear_da8c8_21 : decode cJx4a65c_clear_da8c8 21 = .ok (.iconst 0, 1) := by decide +kernel
theorem dJx4a65c_clear_da8c8_22 : decode cJx4a65c_clear_da8c8 22 = .ok (.dup_x1, 1) := by decide +kernel
theorem dJx4a65c_clear_da8c8_23 : decode cJx4a65c_clear_da8c8 23 = .ok (.putfield 48, 3) := by decide +kernel
theorem dJx4a65c_clear_da8c8_26 : decode cJx4a65c_clear_da8c8 26 = .ok (.istore_n 3, 1) := by decide +kernel
theorem dJx4a65c_clear_da8c8_27 : decode cJx4a65c_clear_da8c8 27 = .ok (.iload_n 3, 1) := by decide +kernel
theorem dJx4a65c_clear_da8c8_28 : decode cJx4a65c_clear_da8c8 28 = .ok (.iload_n 2, 1) := by decide +kernel
theorem dJx4a65c_clear_da8c8_29 : decode cJx4a65c_clear_da8c8 29 = .ok (.if_icmp .ge 13, 3) := by decide +kernel
theorem dJx4a65c_clear_da8c8_32 : decode cJx4a65c_clear_da8c8 32 = .ok (.aload_n 1, 1) := by decide +kernel
theorem dJx4a65c_clear_da8c8_33 : decode cJx4a65c_clear_da8c8 33 = .ok (.iload_n 3, 1) := by decide +kernel
theorem dJx4a65c_clear_da8c8_34 : decode cJx4a65c_clear_da8c8 34 = .ok (.aconst_null, 1) := by decide +kernel
theorem dJx4a65c_clear_da8c8_35 : decode cJx4a65c_clear_da8c8 35 = .ok (.aastore, 1) := by decide +kernel
theorem dJx4a65c_clear_da8c8_36 : decode cJx4a65c_clear_da8c8 36 = .ok (.iinc 3 1, 3) := by decide +kernel
theorem dJx4a65c_clear_da8c8_39 : decode cJx4a65c_clear_da8c8 39 = .ok (.goto (-12), 3) := by decide +kernel
theorem dJx4a65c_clear_da8c8_42 : decode cJx4a65c_clear_da8c8 42 = .ok (.return_, 1) := by decide +kernel
theorem dJx4a65c_rangeCheckForAdd_d00df_0 : decode cJx4a65c_rangeCheckForAdd_d00df 0 = .ok (.iload_n 1, 1) := by decide +kernel
theorem dJx4a65c_rangeCheckForAdd_d00df_1 : decode cJx4a65c_rangeCheckForAdd_d00df 1 = .ok (.aload_n 0, 1) := by decide +kernel
theorem dJx4a65c_rangeCheckForAdd_d00df_2 : decode cJx4a65c_rangeCheckForAdd_d00df 2 = .ok (.getfield 48, 3) := by decide +kernel
theorem dJx4a65c_rangeCheckForAdd_d00df_5 : decode cJx4a65c_rangeCheckForAdd_d00df 5 = .ok (.if_icmp .gt 7, 3) := by decide +kernel
theorem dJx4a65c_rangeCheckForAdd_d00df_8 : decode cJx4a65c_rangeCheckForAdd_d00df 8 = .ok (.iload_n 1, 1) := by decide +kernel
theorem dJx4a65c_rangeCheckForAdd_d00df_9 : decode cJx4a65c_rangeCheckForAdd_d00df 9 = .ok (.ifCond .ge 16, 3) := by decide +kernel
theorem dJx4a65c_rangeCheckForAdd_d00df_12 : decode cJx4a65c_rangeCheckForAdd_d00df 12 = .ok (.new 187, 3) := by decide +kernel
theorem dJx4a65c_rangeCheckForAdd_d00df_15 : decode cJx4a65c_rangeCheckForAdd_d00df 15 = .ok (.dup, 1) := by decide +kernel
theorem dJx4a65c_rangeCheckForAdd_d00df_16 : decode cJx4a65c_rangeCheckForAdd_d00df 16 = .ok (.aload_n 0, 1) := by decide +kernel
theorem dJx4a65c_rangeCheckForAdd_d00df_17 : decode cJx4a65c_rangeCheckForAdd_d00df 17 = .ok (.iload_n 1, 1) := by decide +kernel
theorem dJx4a65c_rangeCheckForAdd_d00df_18 : decode cJx4a65c_rangeCheckForAdd_d00df 18 = .ok (.invokevirtual 198, 3) := by decide +kernel
theorem dJx4a65c_rangeCheckForAdd_d00df_21 : decode cJx4a65c_rangeCheckForAdd_d00df 21 = .ok (.invokespecial 193, 3) := by decide +kernel
theorem dJx4a65c_rangeCheckForAdd_d00df_24 : decode cJx4a65c_rangeCheckForAdd_d00df 24 = .ok (.athrow, 1) := by decide +kernel
theorem dJx4a65c_rangeCheckForAdd_d00df_25 : decode cJx4a65c_rangeCheckForAdd_d00df 25 = .ok (.return_, 1) := by decide +kernel
theorem dJx4a65c_outOfBoundsMsg_b52d3_0 : decode cJx4a65c_outOfBoundsMsg_b52d3 0 = .ok (.new 20, 3) := by decide +kernel
theorem dJx4a65c_outOfBoundsMsg_b52d3_3 : decode cJx4a65c_outOfBoundsMsg_b52d3 3 = .ok (.dup, 1) := by decide +kernel
theorem dJx4a65c_outOfBoundsMsg_b52d3_4 : decode cJx4a65c_outOfBoundsMsg_b52d3 4 = .ok (.invokespecial 22, 3) := by decide +kernel
theorem dJx4a65c_outOfBoundsMsg_b52d3_7 : decode cJx4a65c_outOfBoundsMsg_b52d3 7 = .ok (.ldc 201, 2) := by decide +kernel
theorem dJx4a65c_outOfBoundsMsg_b52d3_9 : decode cJx4a65c_outOfBoundsMsg_b52d3 9 = .ok (.invokevirtual 25, 3) := by decide +kernel
theorem dJx4a65c_outOfBoundsMsg_b52d3_12 : decode cJx4a65c_outOfBoundsMsg_b52d3 12 = .ok (.iload_n 1, 1) := by decide +kernel
theorem dJx4a65c_outOfBoundsMsg_b52d3_13 : decode cJx4a65c_outOfBoundsMsg_b52d3 13 = .ok (.invokevirtual 29, 3) := by decide +kernel
theorem dJx4a65c_outOfBoundsMsg_b52d3_16 : decode cJx4a65c_outOfBoundsMsg_b52d3 16 = .ok (.ldc 203, 2) := by decide +kernel
theorem dJx4a65c_outOfBoundsMsg_b52d3_18 : decode cJx4a65c_outOfBoundsMsg_b52d3 18 = .ok (.invokevirtual 25, 3) := by decide +kernel
theorem dJx4a65c_outOfBoundsMsg_b52d3_21 : decode cJx4a65c_outOfBoundsMsg_b52d3 21 = .ok (.aload_n 0, 1) := by decide +kernel
theorem dJx4a65c_outOfBoundsMsg_b52d3_22 : decode cJx4a65c_outOfBoundsMsg_b52d3 22 = .ok (.getfield 48, 3) := by decide +kernel
theorem dJx4a65c_outOfBoundsMsg_b52d3_25 : decode cJx4a65c_outOfBoundsMsg_b52d3 25 = .ok (.invokevirtual 29, 3) := by decide +kernel
theorem dJx4a65c_outOfBoundsMsg_b52d3_28 : decode cJx4a65c_outOfBoundsMsg_b52d3 28 = .ok (.invokevirtual 32, 3) := by decide +kernel
theorem dJx4a65c_outOfBoundsMsg_b52d3_31 : decode cJx4a65c_outOfBoundsMsg_b52d3 31 = .ok (.areturn, 1) := by decide +kernel
theorem dJ7_copyOf_1904c_0 : decode cJ7_copyOf_1904c 0 = .ok (.aload_n 0, 1) := by decide +kernel
theorem dJ7_copyOf_1904c_1 : decode cJ7_copyOf_1904c 1 = .ok (.iload_n 1, 1) := by decide +kernel
theorem dJ7_copyOf_1904c_2 : decode cJ7_copyOf_1904c 2 = .ok (.aload_n 0, 1) := by decide +kernel
theorem dJ7_copyOf_1904c_3 : decode cJ7_copyOf_1904c 3 = .ok (.invokevirtual 86, 3) := by decide +kernel
theorem dJ7_copyOf_1904c_6 : decode cJ7_copyOf_1904c 6 = .ok (.invokestatic 300, 3) := by decide +kernel
theorem dJ7_copyOf_1904c_9 : decode cJ7_copyOf_1904c 9 = .ok (.areturn, 1) := by decide +kernel
theorem dJ7_copyOf_6403c_0 : decode cJ7_copyOf_6403c 0 = .ok (.aload_n 2, 1) := by decide +kernel
theorem dJ7_copyOf_6403c_1 : decode cJ7_copyOf_6403c 1 = .ok (.ldc 110, 2) := by decide +kernel
theorem dJ7_copyOf_6403c_3 : decode cJ7_copyOf_6403c 3 = .ok (.if_acmp .ne 10, 3) := by decide +kernel
theorem dJ7_copyOf_6403c_6 : decode cJ7_copyOf_6403c 6 = .ok (.iload_n 1, 1) := by decide +kernel
theorem dJ7_copyOf_6403c_7 : decode cJ7_copyOf_6403c 7 = .ok (.anewarray 2, 3) := by decide +kernel
theorem dJ7_copyOf_6403c_10 : decode cJ7_copyOf_6403c 10 = .ok (.goto 14, 3) := by decide +kernel
theorem dJ7_copyOf_6403c_13 : decode cJ7_copyOf_6403c 13 = .ok (.aload_n 2, 1) := by decide +kernel
theorem dJ7_copyOf_6403c_14 : decode cJ7_copyOf_6403c 14 = .ok (.invokevirtual 90, 3) := by decide +kernel
theorem dJ7_copyOf_6403c_17 : decode cJ7_copyOf_6403c 17 = .ok (.iload_n 1, 1) := by decide +kernel
theorem dJ7_copyOf_6403c_18 : decode cJ7_copyOf_6403c 18 = .ok (.invokestatic 95, 3) := by decide +kernel
theorem dJ7_copyOf_6403c_21 : decode cJ7_copyOf_6403c 21 = .ok (.checkcast 110, 3) := by decide +kernel
theorem dJ7_copyOf_6403c_24 : decode cJ7_copyOf_6403c 24 = .ok (.astore_n 3, 1) := by decide +kernel
theorem dJ7_copyOf_6403c_25 : decode cJ7_copyOf_6403c 25 = .ok (.aload_n 0, 1) := by decide +kernel
theorem dJ7_copyOf_6403c_26 : decode cJ7_copyOf_6403c 26 = .ok (.iconst 0, 1) := by decide +kernel
theorem dJ7_copyOf_6403c_27 : decode cJ7_copyOf_6403c 27 = .ok (.aload_n 3, 1) := by decide +kernel
theorem dJ7_copyOf_6403c_28 : decode cJ7_copyOf_6403c 28 = .ok (.iconst 0, 1) := by decide +kernel
theorem dJ7_copyOf_6403c_29 : decode cJ7_copyOf_6403c 29 = .ok (.aload_n 0, 1) := by decide +kernel
theorem dJ7_copyOf_6403c_30 : decode cJ7_copyOf_6403c 30 = .ok (.arraylength, 1) := by decide +kernel
theorem dJ7_copyOf_6403c_31 : decode cJ7_copyOf_6403c 31 = .ok (.iload_n 1, 1) := by decide +kernel
theorem dJ7_copyOf_6403c_32 : decode cJ7_copyOf_6403c 32 = .ok (.invokestatic 304, 3) := by decide +kernel
theorem dJ7_copyOf_6403c_35 : decode cJ7_copyOf_6403c 35 = .ok (.invokestatic 150, 3) := by decide +kernel
theorem dJ7_copyOf_6403c_38 : decode cJ7_copyOf_6403c 38 = .ok (.aload_n 3, 1) := by decide +kernel
theorem dJ7_copyOf_6403c_39 : decode cJ7_copyOf_6403c 39 = .ok (.areturn, 1) := by decide +kernel
theorem dJ7_copyOf_9075b_0 : decode cJ7_copyOf_9075b 0 = .ok (.iload_n 1, 1) := by decide +kernel
theorem dJ7_copyOf_9075b_1 : decode cJ7_copyOf_9075b 1 = .ok (.aload_n 0, 1) := by decide +kernel
theorem dJ7_copyOf_9075b_2 : decode cJ7_copyOf_9075b 2 = .ok (.arraylength, 1) := by decide +kernel
theorem dJ7_copyOf_9075b_3 : decode cJ7_copyOf_9075b 3 = .ok (.if_icmp .ne 11, 3) := by decide +kernel
theorem dJ7_copyOf_9075b_6 : decode cJ7_copyOf_9075b 6 = .ok (.aload_n 0, 1) := by decide +kernel
theorem dJ7_copyOf_9075b_7 : decode cJ7_copyOf_9075b 7 = .ok (.invokevirtual 310, 3) := by decide +kernel
theorem dJ7_copyOf_9075b_10 : decode cJ7_copyOf_9075b 10 = .ok (.checkcast 311, 3) := by decide +kernel
theorem dJ7_copyOf_9075b_13 : decode cJ7_copyOf_9075b 13 = .ok (.areturn, 1) := by decide +kernel
theorem dJ7_copyOf_9075b_14 : decode cJ7_copyOf_9075b 14 = .ok (.iload_n 1, 1) := by decide +kernel
theorem dJ7_copyOf_9075b_15 : decode cJ7_copyOf_9075b 15 = .ok (.newarray .byte, 2) := by decide +kernel
theorem dJ7_copyOf_9075b_17 : decode cJ7_copyOf_9075b 17 = .ok (.astore_n 2, 1) := by decide +kernel
theorem dJ7_copyOf_9075b_18 : decode cJ7_copyOf_9075b 18 = .ok (.aload_n 0, 1) := by decide +kernel
theorem dJ7_copyOf_9075b_19 : decode cJ7_copyOf_9075b 19 = .ok (.iconst 0, 1) := by decide +kernel
theorem dJ7_copyOf_9075b_20 : decode cJ7_copyOf_9075b 20 = .ok (.aload_n 2, 1) := by decide +kernel
theorem dJ7_copyOf_9075b_21 : decode cJ7_copyOf_9075b 21 = .ok (.iconst 0, 1) := by decide +kernel
theorem dJ7_copyOf_9075b_22 : decode cJ7_copyOf_9075b 22 = .ok (.aload_n 0, 1) := by decide +kernel
theorem dJ7_copyOf_9075b_23 : decode cJ7_copyOf_9075b 23 = .ok (.arraylength, 1) := by decide +kernel
theorem dJ7_copyOf_9075b_24 : decode cJ7_copyOf_9075b 24 = .ok (.iload_n 1, 1) := by decide +kernel
theorem dJ7_copyOf_9075b_25 : decode cJ7_copyOf_9075b 25 = .ok (.invokestatic 304, 3) := by decide +kernel
theorem dJ7_copyOf_9075b_28 : decode cJ7_copyOf_9075b 28 = .ok (.invokestatic 150, 3) := by decide +kernel
theorem dJ7_copyOf_9075b_31 : decode cJ7_copyOf_9075b 31 = .ok (.aload_n 2, 1) := by decide +kernel
theorem dJ7_copyOf_9075b_32 : decode cJ7_copyOf_9075b 32 = .ok (.areturn, 1) := by decide +kernel
theorem dJ7_checkLength_df160_0 : decode cJ7_checkLength_df160 0 = .ok (.iload_n 1, 1) := by decide +kernel
theorem dJ7_checkLength_df160_1 : decode cJ7_checkLength_df160 1 = .ok (.iload_n 0, 1) := by decide +kernel
theorem dJ7_checkLength_df160_2 : decode cJ7_checkLength_df160 2 = .ok (.if_icmp .ge 35, 3) := by decide +kernel
theorem dJ7_checkLength_df160_5 : decode cJ7_checkLength_df160 5 = .ok (.new 43, 3) := by decide +kernel
theorem dJ7_checkLength_df160_8 : decode cJ7_checkLength_df160 8 = .ok (.dup, 1) := by decide +kernel
theorem dJ7_checkLength_df160_9 : decode cJ7_checkLength_df160 9 = .ok (.new 45, 3) := by decide +kernel
theorem dJ7_checkLength_df160_12 : decode cJ7_checkLength_df160 12 = .ok (.dup, 1) := by decide +kernel
theorem dJ7_checkLength_df160_13 : decode cJ7_checkLength_df160 13 = .ok (.invokespecial 47, 3) := by decide +kernel
theorem dJ7_checkLength_df160_16 : decode cJ7_checkLength_df160 16 = .ok (.iload_n 0, 1) := by decide +kernel
theorem dJ7_checkLength_df160_17 : decode cJ7_checkLength_df160 17 = .ok (.invokevirtual 54, 3) := by decide +kernel
theorem dJ7_checkLength_df160_20 : decode cJ7_checkLength_df160 20 = .ok (.ldc_w 337, 3) := by decide +kernel
theorem dJ7_checkLength_df160_23 : decode cJ7_checkLength_df160 23 = .ok (.invokevirtual 50, 3) := by decide +kernel
theorem dJ7_checkLength_df160_26 : decode cJ7_checkLength_df160 26 = .ok (.iload_n 1, 1) := by decide +kernel
theorem dJ7_checkLength_df160_27 : decode cJ7_checkLength_df160 27 = .ok (.invokevirtual 54, 3) := by decide +kernel
theorem dJ7_checkLength_df160_30 : decode cJ7_checkLength_df160 30 = .ok (.invokevirtual 61, 3) := by decide +kernel
theorem dJ7_checkLength_df160_33 : decode cJ7_checkLength_df160 33 = .ok (.invokespecial 65, 3) := by decide +kernel
theorem dJ7_checkLength_df160_36 : decode cJ7_checkLength_df160 36 = .ok (.athrow, 1) := by decide +kernel
theorem dJ7_checkLength_df160_37 : decode cJ7_checkLength_df160 37 = .ok (.return_, 1) := by decide +kernel
theorem dJ15_checkIndex_7cf53_0 : decode cJ15_checkIndex_7cf53 0 = .ok (.iload_n 0, 1) := by decide +kernel
theorem dJ15_checkIndex_7cf53_1 : decode cJ15_checkIndex_7cf53 1 = .ok (.iload_n 1, 1) := by decide +kernel
theorem dJ15_checkIndex_7cf53_2 : decode cJ15_checkIndex_7cf53 2 = .ok (.aconst_null, 1) := by decide +kernel
theorem dJ15_checkIndex_7cf53_3 : decode cJ15_checkIndex_7cf53 3 = .ok (.invokestatic 105, 3) := by decide +kernel
theorem dJ15_checkIndex_7cf53_6 : decode cJ15_checkIndex_7cf53 6 = .ok (.ireturn, 1) := by decide +kernel
theorem dJ8_newLength_cabcc_0 : decode cJ8_newLength_cabcc 0 = .ok (.iload_n 0, 1) := by decide +kernel
theorem dJ8_newLength_cabcc_1 : decode cJ8_newLength_cabcc 1 = .ok (.iload_n 1, 1) := by decide +kernel
theorem dJ8_newLength_cabcc_2 : decode cJ8_newLength_cabcc 2 = .ok (.iload_n 2, 1) := by decide +kernel
theorem dJ8_newLength_cabcc_3 : decode cJ8_newLength_cabcc 3 = .ok (.invokestatic 194, 3) := by decide +kernel
theorem dJ8_newLength_cabcc_6 : decode cJ8_newLength_cabcc 6 = .ok (.iadd, 1) := by decide +kernel
theorem dJ8_newLength_cabcc_7 : decode cJ8_newLength_cabcc 7 = .ok (.istore_n 3, 1) := by decide +kernel
theorem dJ8_newLength_cabcc_8 : decode cJ8_newLength_cabcc 8 = .ok (.iconst 0, 1) := by decide +kernel
theorem dJ8_newLength_cabcc_9 : decode cJ8_newLength_cabcc 9 = .ok (.iload_n 3, 1) := by decide +kernel
theorem dJ8_newLength_cabcc_10 : decode cJ8_newLength_cabcc 10 = .ok (.if_icmp .ge 11, 3) := by decide +kernel
theorem dJ8_newLength_cabcc_13 : decode cJ8_newLength_cabcc 13 = .ok (.iload_n 3, 1) := by decide +kernel
theorem dJ8_newLength_cabcc_14 : decode cJ8_newLength_cabcc 14 = .ok (.ldc 200, 2) := by decide +kernel
theorem dJ8_newLength_cabcc_16 : decode cJ8_newLength_cabcc 16 = .ok (.if_icmp .gt 5, 3) := by decide +kernel
theorem dJ8_newLength_cabcc_19 : decode cJ8_newLength_cabcc 19 = .ok (.iload_n 3, 1) := by decide +kernel
theorem dJ8_newLength_cabcc_20 : decode cJ8_newLength_cabcc 20 = .ok (.ireturn, 1) := by decide +kernel
theorem dJ8_newLength_cabcc_21 : decode cJ8_newLength_cabcc 21 = .ok (.iload_n 0, 1) := by decide +kernel
theorem dJ8_newLength_cabcc_22 : decode cJ8_newLength_cabcc 22 = .ok (.iload_n 1, 1) := by decide +kernel
theorem dJ8_newLength_cabcc_23 : decode cJ8_newLength_cabcc 23 = .ok (.invokestatic 201, 3) := by decide +kernel
theorem dJ8_newLength_cabcc_26 : decode cJ8_newLength_cabcc 26 = .ok (.ireturn, 1) := by decide +kernel
theorem dJ3_checkIndex_8e157_0 : decode cJ3_checkIndex_8e157 0 = .ok (.iload_n 0, 1) := by decide +kernel
theorem dJ3_checkIndex_8e157_1 : decode cJ3_checkIndex_8e157 1 = .ok (.ifCond .lt 8, 3) := by decide +kernel
theorem dJ3_checkIndex_8e157_4 : decode cJ3_checkIndex_8e157 4 = .ok (.iload_n 0, 1) := by decide +kernel
theorem dJ3_checkIndex_8e157_5 : decode cJ3_checkIndex_8e157 5 = .ok (.iload_n 1, 1) := by decide +kernel
theorem dJ3_checkIndex_8e157_6 : decode cJ3_checkIndex_8e157 6 = .ok (.if_icmp .lt 10, 3) := by decide +kernel
theorem dJ3_checkIndex_8e157_9 : decode cJ3_checkIndex_8e157 9 = .ok (.aload_n 2, 1) := by decide +kernel
theorem dJ3_checkIndex_8e157_10 : decode cJ3_checkIndex_8e157 10 = .ok (.iload_n 0, 1) := by decide +kernel
theorem dJ3_checkIndex_8e157_11 : decode cJ3_checkIndex_8e157 11 = .ok (.iload_n 1, 1) := by decide +kernel
theorem dJ3_checkIndex_8e157_12 : decode cJ3_checkIndex_8e157 12 = .ok (.invokestatic 95, 3) := by decide +kernel
theorem dJ3_checkIndex_8e157_15 : decode cJ3_checkIndex_8e157 15 = .ok (.athrow, 1) := by decide +kernel
theorem dJ3_checkIndex_8e157_16 : decode cJ3_checkIndex_8e157 16 = .ok (.iload_n 0, 1) := by decide +kernel
theorem dJ3_checkIndex_8e157_17 : decode cJ3_checkIndex_8e157 17 = .ok (.ireturn, 1) := by decide +kernel
