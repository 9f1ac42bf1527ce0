theorem dX6_init_0 : decode cX6_init 0 = .ok (.aload_n 0, 1) := by decide +kernel
theorem dX6_init_1 : decode cX6_init 1 = .ok (.invokespecial 1, 3) := by decide +kernel
theorem dX6_init_4 : decode cX6_init 4 = .ok (.aload_n 0, 1) := by decide +kernel
theorem dX6_init_5 : decode cX6_init 5 = .ok (.iconst 4, 1) := by decide +kernel
theorem dX6_init_6 : decode cX6_init 6 = .ok (.newarray .int, 2) := by decide +kernel
theorem dX6_init_8 : decode cX6_init 8 = .ok (.putfield 7, 3) := by decide +kernel
theorem dX6_init_11 : decode cX6_init 11 = .ok (.aload_n 0, 1) := by decide +kernel
theorem dX6_init_12 : decode cX6_init 12 = .ok (.bipush 6, 2) := by decide +kernel
theorem dX6_init_14 : decode cX6_init 14 = .ok (.newarray .int, 2) := by decide +kernel
theorem dX6_init_16 : decode cX6_init 16 = .ok (.putfield 13, 3) := by decide +kernel
theorem dX6_init_19 : decode cX6_init 19 = .ok (.aload_n 0, 1) := by decide +kernel
theorem dX6_init_20 : decode cX6_init 20 = .ok (.bipush 80, 2) := by decide +kernel
theorem dX6_init_22 : decode cX6_init 22 = .ok (.newarray .int, 2) := by decide +kernel
theorem dX6_init_24 : decode cX6_init 24 = .ok (.putfield 16, 3) := by decide +kernel
theorem dX6_init_27 : decode cX6_init 27 = .ok (.aload_n 0, 1) := by decide +kernel
theorem dX6_init_28 : decode cX6_init 28 = .ok (.bipush 80, 2) := by decide +kernel
theorem dX6_init_30 : decode cX6_init 30 = .ok (.newarray .int, 2) := by decide +kernel
theorem dX6_init_32 : decode cX6_init 32 = .ok (.putfield 19, 3) := by decide +kernel
theorem dX6_init_35 : decode cX6_init 35 = .ok (.aload_n 0, 1) := by decide +kernel
theorem dX6_init_36 : decode cX6_init 36 = .ok (.bipush 80, 2) := by decide +kernel
theorem dX6_init_38 : decode cX6_init 38 = .ok (.newarray .int, 2) := by decide +kernel
theorem dX6_init_40 : decode cX6_init 40 = .ok (.putfield 22, 3) := by decide +kernel
theorem dX6_init_43 : decode cX6_init 43 = .ok (.aload_n 0, 1) := by decide +kernel
theorem dX6_init_44 : decode cX6_init 44 = .ok (.bipush 80, 2) := by decide +kernel
theorem dX6_init_46 : decode cX6_init 46 = .ok (.newarray .int, 2) := by decide +kernel
theorem dX6_init_48 : decode cX6_init 48 = .ok (.putfield 25, 3) := by decide +kernel
theorem dX6_init_51 : decode cX6_init 51 = .ok (.aload_n 0, 1) := by decide +kernel
theorem dX6_init_52 : decode cX6_init 52 = .ok (.bipush 80, 2) := by decide +kernel
theorem dX6_init_54 : decode cX6_init 54 = .ok (.newarray .int, 2) := by decide +kernel
theorem dX6_init_56 : decode cX6_init 56 = .ok (.putfield 28, 3) := by decide +kernel
theorem dX6_init_59 : decode cX6_init 59 = .ok (.aload_n 0, 1) := by decide +kernel
theorem dX6_init_60 : decode cX6_init 60 = .ok (.bipush 80, 2) := by decide +kernel
theorem dX6_init_62 : decode cX6_init 62 = .ok (.newarray .boolean, 2) := by decide +kernel
theorem dX6_init_64 : decode cX6_init 64 = .ok (.putfield 31, 3) := by decide +kernel
theorem dX6_init_67 : decode cX6_init 67 = .ok (.aload_n 0, 1) := by decide +kernel
theorem dX6_init_68 : decode cX6_init 68 = .ok (.bipush 80, 2) := by decide +kernel
theorem dX6_init_70 : decode cX6_init 70 = .ok (.newarray .int, 2) := by decide +kernel
theorem dX6_init_72 : decode cX6_init 72 = .ok (.putfield 35, 3) := by decide +kernel
theorem dX6_init_75 : decode cX6_init 75 = .ok (.aload_n 0, 1) := by decide +kernel
theorem dX6_init_76 : decode cX6_init 76 = .ok (.bipush 80, 2) := by decide +kernel
theorem dX6_init_78 : decode cX6_init 78 = .ok (.newarray .int, 2) := by decide +kernel
theorem dX6_init_80 : decode cX6_init 80 = .ok (.putfield 38, 3) := by decide +kernel
theorem dX6_init_83 : decode cX6_init 83 = .ok (.aload_n 0, 1) := by decide +kernel
theorem dX6_init_84 : decode cX6_init 84 = .ok (.bipush 80, 2) := by decide +kernel
theorem dX6_init_86 : decode cX6_init 86 = .ok (.newarray .int, 2) := by decide +kernel
theorem dX6_init_88 : decode cX6_init 88 = .ok (.putfield 41, 3) := by decide +kernel
theorem dX6_init_91 : decode cX6_init 91 = .ok (.aload_n 0, 1) := by decide +kernel
theorem dX6_init_92 : decode cX6_init 92 = .ok (.bipush 12, 2) := by decide +kernel
theorem dX6_init_94 : decode cX6_init 94 = .ok (.newarray .int, 2) := by decide +kernel
theorem dX6_init_96 : decode cX6_init 96 = .ok (.putfield 44, 3) := by decide +kernel
theorem dX6_init_99 : decode cX6_init 99 = .ok (.aload_n 0, 1) := by decide +kernel
theorem dX6_init_100 : decode cX6_init 100 = .ok (.bipush 12, 2) := by decide +kernel
theorem dX6_init_102 : decode cX6_init 102 = .ok (.newarray .boolean, 2) := by decide +kernel
theorem dX6_init_104 : decode cX6_init 104 = .ok (.putfield 47, 3) := by decide +kernel
theorem dX6_init_107 : decode cX6_init 107 = .ok (.aload_n 0, 1) := by decide +kernel
theorem dX6_init_108 : decode cX6_init 108 = .ok (.bipush 12, 2) := by decide +kernel
theorem dX6_init_110 : decode cX6_init 110 = .ok (.newarray .int, 2) := by decide +kernel
theorem dX6_init_112 : decode cX6_init 112 = .ok (.putfield 50, 3) := by decide +kernel
theorem dX6_init_115 : decode cX6_init 115 = .ok (.aload_n 0, 1) := by decide +kernel
theorem dX6_init_116 : decode cX6_init 116 = .ok (.bipush 12, 2) := by decide +kernel
theorem dX6_init_118 : decode cX6_init 118 = .ok (.newarray .int, 2) := by decide +kernel
theorem dX6_init_120 : decode cX6_init 120 = .ok (.putfield 53, 3) := by decide +kernel
theorem dX6_init_123 : decode cX6_init 123 = .ok (.aload_n 0, 1) := by decide +kernel
theorem dX6_init_124 : decode cX6_init 124 = .ok (.bipush 12, 2) := by decide +kernel
theorem dX6_init_126 : decode cX6_init 126 = .ok (.newarray .boolean, 2) := by decide +kernel
theorem dX6_init_128 : decode cX6_init 128 = .ok (.putfield 56, 3) := by decide +kernel
theorem dX6_init_131 : decode cX6_init 131 = .ok (.aload_n 0, 1) := by decide +kernel
theorem dX6_init_132 : decode cX6_init 132 = .ok (.bipush 12, 2) := by decide +kernel
theorem dX6_init_134 : decode cX6_init 134 = .ok (.newarray .int, 2) := by decide +kernel
theorem dX6_init_136 : decode cX6_init 136 = .ok (.putfield 59, 3) := by decide +kernel
theorem dX6_init_139 : decode cX6_init 139 = .ok (.aload_n 0, 1) := by decide +kernel
theorem dX6_init_140 : decode cX6_init 140 = .ok (.bipush 12, 2) := by decide +kernel
theorem dX6_init_142 : decode cX6_init 142 = .ok (.newarray .int, 2) := by decide +kernel
theorem dX6_init_144 : decode cX6_init 144 = .ok (.putfield 62, 3) := by decide +kernel
theorem dX6_init_147 : decode cX6_init 147 = .ok (.aload_n 0, 1) := by decide +kernel
theorem dX6_init_148 : decode cX6_init 148 = .ok (.bipush 12, 2) := by decide +kernel
theorem dX6_init_150 : decode cX6_init 150 = .ok (.newarray .int, 2) := by decide +kernel
theorem dX6_init_152 : decode cX6_init 152 = .ok (.putfield 65, 3) := by decide +kernel
theorem dX6_init_155 : decode cX6_init 155 = .ok (.aload_n 0, 1) := by decide +kernel
theorem dX6_init_156 : decode cX6_init 156 = .ok (.bipush 12, 2) := by decide +kernel
theorem dX6_init_158 : decode cX6_init 158 = .ok (.newarray .int, 2) := by decide +kernel
theorem dX6_init_160 : decode cX6_init 160 = .ok (.putfield 68, 3) := by decide +kernel
theorem dX6_init_163 : decode cX6_init 163 = .ok (.aload_n 0, 1) := by decide +kernel
theorem dX6_init_164 : decode cX6_init 164 = .ok (.iconst 5, 1) := by decide +kernel
theorem dX6_init_165 : decode cX6_init 165 = .ok (.newarray .int, 2) := by decide +kernel
theorem dX6_init_167 : decode cX6_init 167 = .ok (.putfield 71, 3) := by decide +kernel
theorem dX6_init_170 : decode cX6_init 170 = .ok (.aload_n 0, 1) := by decide +kernel
theorem dX6_init_171 : decode cX6_init 171 = .ok (.bipush 16, 2) := by decide +kernel
theorem dX6_init_173 : decode cX6_init 173 = .ok (.newarray .int, 2) := by decide +kernel
theorem dX6_init_175 : decode cX6_init 175 = .ok (.putfield 74, 3) := by decide +kernel
theorem dX6_init_178 : decode cX6_init 178 = .ok (.iconst 0, 1) := by decide +kernel
theorem dX6_init_179 : decode cX6_init 179 = .ok (.istore_n 1, 1) := by decide +kernel
theorem dX6_init_180 : decode cX6_init 180 = .ok (.iload_n 1, 1) := by decide +kernel
theorem dX6_init_181 : decode cX6_init 181 = .ok (.iconst 4, 1) := by decide +kernel
theorem dX6_init_182 : decode cX6_init 182 = .ok (.if_icmp .ge 18, 3) := by decide +kernel
theorem dX6_init_185 : decode cX6_init 185 = .ok (.aload_n 0, 1) := by decide +kernel
theorem dX6_init_186 : decode cX6_init 186 = .ok (.getfield 7, 3) := by decide +kernel
theorem dX6_init_189 : decode cX6_init 189 = .ok (.iload_n 1, 1) := by decide +kernel
theorem dX6_init_190 : decode cX6_init 190 = .ok (.sipush 600, 3) := by decide +kernel
theorem dX6_init_193 : decode cX6_init 193 = .ok (.iastore, 1) := by decide +kernel
theorem dX6_init_194 : decode cX6_init 194 = .ok (.iinc 1 1, 3) := by decide +kernel
theorem dX6_init_197 : decode cX6_init 197 = .ok (.goto (-17), 3) := by decide +kernel
theorem dX6_init_200 : decode cX6_init 200 = .ok (.aload_n 0, 1) := by decide +kernel
theorem dX6_init_201 : decode cX6_init 201 = .ok (.sipush 1500, 3) := by decide +kernel
theorem dX6_init_204 : decode cX6_init 204 = .ok (.putfield 77, 3) := by decide +kernel
theorem dX6_init_207 : decode cX6_init 207 = .ok (.iconst 0, 1) := by decide +kernel
theorem dX6_init_208 : decode cX6_init 208 = .ok (.istore_n 1, 1) := by decide +kernel
theorem dX6_init_209 : decode cX6_init 209 = .ok (.iload_n 1, 1) := by decide +kernel
theorem dX6_init_210 : decode cX6_init 210 = .ok (.bipush 12, 2) := by decide +kernel
theorem dX6_init_212 : decode cX6_init 212 = .ok (.if_icmp .ge 16, 3) := by decide +kernel
theorem dX6_init_215 : decode cX6_init 215 = .ok (.aload_n 0, 1) := by decide +kernel
theorem dX6_init_216 : decode cX6_init 216 = .ok (.getfield 44, 3) := by decide +kernel
theorem dX6_init_219 : decode cX6_init 219 = .ok (.iload_n 1, 1) := by decide +kernel
theorem dX6_init_220 : decode cX6_init 220 = .ok (.iconst 3, 1) := by decide +kernel
theorem dX6_init_221 : decode cX6_init 221 = .ok (.iastore, 1) := by decide +kernel
theorem dX6_init_222 : decode cX6_init 222 = .ok (.iinc 1 1, 3) := by decide +kernel
theorem dX6_init_225 : decode cX6_init 225 = .ok (.goto (-16), 3) := by decide +kernel
theorem dX6_init_228 : decode cX6_init 228 = .ok (.iconst 0, 1) := by decide +kernel
theorem dX6_init_229 : decode cX6_init 229 = .ok (.istore_n 1, 1) := by decide +kernel
theorem dX6_init_230 : decode cX6_init 230 = .ok (.iload_n 1, 1) := by decide +kernel
theorem dX6_init_231 : decode cX6_init 231 = .ok (.bipush 6, 2) := by decide +kernel
theorem dX6_init_233 : decode cX6_init 233 = .ok (.if_icmp .ge 16, 3) := by decide +kernel
theorem dX6_init_236 : decode cX6_init 236 = .ok (.aload_n 0, 1) := by decide +kernel
theorem dX6_init_237 : decode cX6_init 237 = .ok (.getfield 13, 3) := by decide +kernel
theorem dX6_init_240 : decode cX6_init 240 = .ok (.iload_n 1, 1) := by decide +kernel
theorem dX6_init_241 : decode cX6_init 241 = .ok (.iconst (-1), 1) := by decide +kernel
theorem dX6_init_242 : decode cX6_init 242 = .ok (.iastore, 1) := by decide +kernel
theorem dX6_init_243 : decode cX6_init 243 = .ok (.iinc 1 1, 3) := by decide +kernel
theorem dX6_init_246 : decode cX6_init 246 = .ok (.goto (-16), 3) := by decide +kernel
theorem dX6_init_249 : decode cX6_init 249 = .ok (.return_, 1) := by decide +kernel
theorem dX6_thrown_0 : decode cX6_thrown 0 = .ok (.aload_n 0, 1) := by decide +kernel
theorem dX6_thrown_1 : decode cX6_thrown 1 = .ok (.getfield 81, 3) := by decide +kernel
theorem dX6_thrown_4 : decode cX6_thrown 4 = .ok (.ireturn, 1) := by decide +kernel
theorem dX6_in_0 : decode cX6_in 0 = .ok (.iload_n 0, 1) := by decide +kernel
theorem dX6_in_1 : decode cX6_in 1 = .ok (.iload_n 1, 1) := by decide +kernel
theorem dX6_in_2 : decode cX6_in 2 = .ok (.if_icmp .lt 12, 3) := by decide +kernel
theorem dX6_in_5 : decode cX6_in 5 = .ok (.iload_n 0, 1) := by decide +kernel
theorem dX6_in_6 : decode cX6_in 6 = .ok (.iload_n 2, 1) := by decide +kernel
theorem dX6_in_7 : decode cX6_in 7 = .ok (.if_icmp .gt 7, 3) := by decide +kernel
theorem dX6_in_10 : decode cX6_in 10 = .ok (.iconst 1, 1) := by decide +kernel
theorem dX6_in_11 : decode cX6_in 11 = .ok (.goto 4, 3) := by decide +kernel
theorem dX6_in_14 : decode cX6_in 14 = .ok (.iconst 0, 1) := by decide +kernel
theorem dX6_in_15 : decode cX6_in 15 = .ok (.ireturn, 1) := by decide +kernel
theorem dX6_isHouse_0 : decode cX6_isHouse 0 = .ok (.iload_n 0, 1) := by decide +kernel
theorem dX6_isHouse_1 : decode cX6_isHouse 1 = .ok (.iconst 0, 1) := by decide +kernel
theorem dX6_isHouse_2 : decode cX6_isHouse 2 = .ok (.iconst 3, 1) := by decide +kernel
theorem dX6_isHouse_3 : decode cX6_isHouse 3 = .ok (.invokestatic 84, 3) := by decide +kernel
theorem dX6_isHouse_6 : decode cX6_isHouse 6 = .ok (.ireturn, 1) := by decide +kernel
theorem dX6_isRoom_0 : decode cX6_isRoom 0 = .ok (.iload_n 0, 1) := by decide +kernel
theorem dX6_isRoom_1 : decode cX6_isRoom 1 = .ok (.iconst 0, 1) := by decide +kernel
theorem dX6_isRoom_2 : decode cX6_isRoom 2 = .ok (.bipush 11, 2) := by decide +kernel
theorem dX6_isRoom_4 : decode cX6_isRoom 4 = .ok (.invokestatic 84, 3) := by decide +kernel
theorem dX6_isRoom_7 : decode cX6_isRoom 7 = .ok (.ireturn, 1) := by decide +kernel
theorem dX6_isMember_0 : decode cX6_isMember 0 = .ok (.iload_n 0, 1) := by decide +kernel
theorem dX6_isMember_1 : decode cX6_isMember 1 = .ok (.iconst 0, 1) := by decide +kernel
theorem dX6_isMember_2 : decode cX6_isMember 2 = .ok (.iconst 5, 1) := by decide +kernel
theorem dX6_isMember_3 : decode cX6_isMember 3 = .ok (.invokestatic 84, 3) := by decide +kernel
theorem dX6_isMember_6 : decode cX6_isMember 6 = .ok (.ireturn, 1) := by decide +kernel
theorem dX6_isTicket_0 : decode cX6_isTicket 0 = .ok (.iload_n 1, 1) := by decide +kernel
theorem dX6_isTicket_1 : decode cX6_isTicket 1 = .ok (.iconst 0, 1) := by decide +kernel
theorem dX6_isTicket_2 : decode cX6_isTicket 2 = .ok (.aload_n 0, 1) := by decide +kernel
theorem dX6_isTicket_3 : decode cX6_isTicket 3 = .ok (.getfield 88, 3) := by decide +kernel
theorem dX6_isTicket_6 : decode cX6_isTicket 6 = .ok (.iconst 1, 1) := by decide +kernel
theorem dX6_isTicket_7 : decode cX6_isTicket 7 = .ok (.isub, 1) := by decide +kernel
theorem dX6_isTicket_8 : decode cX6_isTicket 8 = .ok (.invokestatic 84, 3) := by decide +kernel
theorem dX6_isTicket_11 : decode cX6_isTicket 11 = .ok (.ireturn, 1) := by decide +kernel
theorem dX6_isWork_0 : decode cX6_isWork 0 = .ok (.iload_n 1, 1) := by decide +kernel
theorem dX6_isWork_1 : decode cX6_isWork 1 = .ok (.iconst 0, 1) := by decide +kernel
theorem dX6_isWork_2 : decode cX6_isWork 2 = .ok (.aload_n 0, 1) := by decide +kernel
theorem dX6_isWork_3 : decode cX6_isWork 3 = .ok (.getfield 91, 3) := by decide +kernel
theorem dX6_isWork_6 : decode cX6_isWork 6 = .ok (.iconst 1, 1) := by decide +kernel
theorem dX6_isWork_7 : decode cX6_isWork 7 = .ok (.isub, 1) := by decide +kernel
theorem dX6_isWork_8 : decode cX6_isWork 8 = .ok (.invokestatic 84, 3) := by decide +kernel
theorem dX6_isWork_11 : decode cX6_isWork 11 = .ok (.ireturn, 1) := by decide +kernel
theorem dX6_isNow_0 : decode cX6_isNow 0 = .ok (.aload_n 0, 1) := by decide +kernel
theorem dX6_isNow_1 : decode cX6_isNow 1 = .ok (.getfield 25, 3) := by decide +kernel
theorem dX6_isNow_4 : decode cX6_isNow 4 = .ok (.iload_n 1, 1) := by decide +kernel
theorem dX6_isNow_5 : decode cX6_isNow 5 = .ok (.iaload, 1) := by decide +kernel
theorem dX6_isNow_6 : decode cX6_isNow 6 = .ok (.aload_n 0, 1) := by decide +kernel
theorem dX6_isNow_7 : decode cX6_isNow 7 = .ok (.getfield 94, 3) := by decide +kernel
theorem dX6_isNow_10 : decode cX6_isNow 10 = .ok (.if_icmp .ne 16, 3) := by decide +kernel
theorem dX6_isNow_13 : decode cX6_isNow 13 = .ok (.aload_n 0, 1) := by decide +kernel
theorem dX6_isNow_14 : decode cX6_isNow 14 = .ok (.getfield 31, 3) := by decide +kernel
theorem dX6_isNow_17 : decode cX6_isNow 17 = .ok (.iload_n 1, 1) := by decide +kernel
theorem dX6_isNow_18 : decode cX6_isNow 18 = .ok (.baload, 1) := by decide +kernel
theorem dX6_isNow_19 : decode cX6_isNow 19 = .ok (.ifCond .ne 7, 3) := by decide +kernel
theorem dX6_isNow_22 : decode cX6_isNow 22 = .ok (.iconst 1, 1) := by decide +kernel
theorem dX6_isNow_23 : decode cX6_isNow 23 = .ok (.goto 4, 3) := by decide +kernel
theorem dX6_isNow_26 : decode cX6_isNow 26 = .ok (.iconst 0, 1) := by decide +kernel
theorem dX6_isNow_27 : decode cX6_isNow 27 = .ok (.ireturn, 1) := by decide +kernel
theorem dX6_setPrice_0 : decode cX6_setPrice 0 = .ok (.aload_n 0, 1) := by decide +kernel
theorem dX6_setPrice_1 : decode cX6_setPrice 1 = .ok (.iload_n 1, 1) := by decide +kernel
theorem dX6_setPrice_2 : decode cX6_setPrice 2 = .ok (.iconst (-1), 1) := by decide +kernel
theorem dX6_setPrice_3 : decode cX6_setPrice 3 = .ok (.if_icmp .eq 14, 3) := by decide +kernel
theorem dX6_setPrice_6 : decode cX6_setPrice 6 = .ok (.iload_n 1, 1) := by decide +kernel
theorem dX6_setPrice_7 : decode cX6_setPrice 7 = .ok (.invokestatic 97, 3) := by decide +kernel
theorem dX6_setPrice_10 : decode cX6_setPrice 10 = .ok (.ifCond .ne 7, 3) := by decide +kernel
theorem dX6_setPrice_13 : decode cX6_setPrice 13 = .ok (.iconst 1, 1) := by decide +kernel
theorem dX6_setPrice_14 : decode cX6_setPrice 14 = .ok (.goto 19, 3) := by decide +kernel
theorem dX6_setPrice_17 : decode cX6_setPrice 17 = .ok (.iload_n 2, 1) := by decide +kernel
theorem dX6_setPrice_18 : decode cX6_setPrice 18 = .ok (.iconst 0, 1) := by decide +kernel
theorem dX6_setPrice_19 : decode cX6_setPrice 19 = .ok (.sipush 10000, 3) := by decide +kernel
theorem dX6_setPrice_22 : decode cX6_setPrice 22 = .ok (.invokestatic 84, 3) := by decide +kernel
theorem dX6_setPrice_25 : decode cX6_setPrice 25 = .ok (.ifCond .ne 7, 3) := by decide +kernel
theorem dX6_setPrice_28 : decode cX6_setPrice 28 = .ok (.iconst 2, 1) := by decide +kernel
theorem dX6_setPrice_29 : decode cX6_setPrice 29 = .ok (.goto 4, 3) := by decide +kernel
theorem dX6_setPrice_32 : decode cX6_setPrice 32 = .ok (.iconst 0, 1) := by decide +kernel
theorem dX6_setPrice_33 : decode cX6_setPrice 33 = .ok (.putfield 81, 3) := by decide +kernel
theorem dX6_setPrice_36 : decode cX6_setPrice 36 = .ok (.aload_n 0, 1) := by decide +kernel
theorem dX6_setPrice_37 : decode cX6_setPrice 37 = .ok (.getfield 81, 3) := by decide +kernel
theorem dX6_setPrice_40 : decode cX6_setPrice 40 = .ok (.ifCond .le 5, 3) := by decide +kernel
theorem dX6_setPrice_43 : decode cX6_setPrice 43 = .ok (.iconst 0, 1) := by decide +kernel
theorem dX6_setPrice_44 : decode cX6_setPrice 44 = .ok (.ireturn, 1) := by decide +kernel
theorem dX6_setPrice_45 : decode cX6_setPrice 45 = .ok (.iload_n 1, 1) := by decide +kernel
theorem dX6_setPrice_46 : decode cX6_setPrice 46 = .ok (.iconst (-1), 1) := by decide +kernel
theorem dX6_setPrice_47 : decode cX6_setPrice 47 = .ok (.if_icmp .ne 10, 3) := by decide +kernel
theorem dX6_setPrice_50 : decode cX6_setPrice 50 = .ok (.aload_n 0, 1) := by decide +kernel
theorem dX6_setPrice_51 : decode cX6_setPrice 51 = .ok (.getfield 77, 3) := by decide +kernel
theorem dX6_setPrice_54 : decode cX6_setPrice 54 = .ok (.goto 9, 3) := by decide +kernel
theorem dX6_setPrice_57 : decode cX6_setPrice 57 = .ok (.aload_n 0, 1) := by decide +kernel
theorem dX6_setPrice_58 : decode cX6_setPrice 58 = .ok (.getfield 7, 3) := by decide +kernel
theorem dX6_setPrice_61 : decode cX6_setPrice 61 = .ok (.iload_n 1, 1) := by decide +kernel
theorem dX6_setPrice_62 : decode cX6_setPrice 62 = .ok (.iaload, 1) := by decide +kernel
theorem dX6_setPrice_63 : decode cX6_setPrice 63 = .ok (.istore_n 3, 1) := by decide +kernel
theorem dX6_setPrice_64 : decode cX6_setPrice 64 = .ok (.iload_n 1, 1) := by decide +kernel
theorem dX6_setPrice_65 : decode cX6_setPrice 65 = .ok (.iconst (-1), 1) := by decide +kernel
theorem dX6_setPrice_66 : decode cX6_setPrice 66 = .ok (.if_icmp .ne 11, 3) := by decide +kernel
theorem dX6_setPrice_69 : decode cX6_setPrice 69 = .ok (.aload_n 0, 1) := by decide +kernel
theorem dX6_setPrice_70 : decode cX6_setPrice 70 = .ok (.iload_n 2, 1) := by decide +kernel
theorem dX6_setPrice_71 : decode cX6_setPrice 71 = .ok (.putfield 77, 3) := by decide +kernel
theorem dX6_setPrice_74 : decode cX6_setPrice 74 = .ok (.goto 10, 3) := by decide +kernel
theorem dX6_setPrice_77 : decode cX6_setPrice 77 = .ok (.aload_n 0, 1) := by decide +kernel
theorem dX6_setPrice_78 : decode cX6_setPrice 78 = .ok (.getfield 7, 3) := by decide +kernel
theorem dX6_setPrice_81 : decode cX6_setPrice 81 = .ok (.iload_n 1, 1) := by decide +kernel
theorem dX6_setPrice_82 : decode cX6_setPrice 82 = .ok (.iload_n 2, 1) := by decide +kernel
theorem dX6_setPrice_83 : decode cX6_setPrice 83 = .ok (.iastore, 1) := by decide +kernel
theorem dX6_setPrice_84 : decode cX6_setPrice 84 = .ok (.iload_n 3, 1) := by decide +kernel
theorem dX6_setPrice_85 : decode cX6_setPrice 85 = .ok (.ireturn, 1) := by decide +kernel
theorem dX6_make_0 : decode cX6_make 0 = .ok (.aload_n 0, 1) := by decide +kernel
theorem dX6_make_1 : decode cX6_make 1 = .ok (.getfield 16, 3) := by decide +kernel
theorem dX6_make_4 : decode cX6_make 4 = .ok (.aload_n 0, 1) := by decide +kernel
theorem dX6_make_5 : decode cX6_make 5 = .ok (.getfield 88, 3) := by decide +kernel
theorem dX6_make_8 : decode cX6_make 8 = .ok (.iload_n 1, 1) := by decide +kernel
theorem dX6_make_9 : decode cX6_make 9 = .ok (.iastore, 1) := by decide +kernel
theorem dX6_make_10 : decode cX6_make 10 = .ok (.aload_n 0, 1) := by decide +kernel
theorem dX6_make_11 : decode cX6_make 11 = .ok (.getfield 19, 3) := by decide +kernel
theorem dX6_make_14 : decode cX6_make 14 = .ok (.aload_n 0, 1) := by decide +kernel
theorem dX6_make_15 : decode cX6_make 15 = .ok (.getfield 88, 3) := by decide +kernel
theorem dX6_make_18 : decode cX6_make 18 = .ok (.iload_n 2, 1) := by decide +kernel
theorem dX6_make_19 : decode cX6_make 19 = .ok (.iastore, 1) := by decide +kernel
theorem dX6_make_20 : decode cX6_make 20 = .ok (.aload_n 0, 1) := by decide +kernel
theorem dX6_make_21 : decode cX6_make 21 = .ok (.getfield 22, 3) := by decide +kernel
theorem dX6_make_24 : decode cX6_make 24 = .ok (.aload_n 0, 1) := by decide +kernel
theorem dX6_make_25 : decode cX6_make 25 = .ok (.getfield 88, 3) := by decide +kernel
theorem dX6_make_28 : decode cX6_make 28 = .ok (.iload_n 3, 1) := by decide +kernel
theorem dX6_make_29 : decode cX6_make 29 = .ok (.iastore, 1) := by decide +kernel
theorem dX6_make_30 : decode cX6_make 30 = .ok (.aload_n 0, 1) := by decide +kernel
theorem dX6_make_31 : decode cX6_make 31 = .ok (.getfield 25, 3) := by decide +kernel
theorem dX6_make_34 : decode cX6_make 34 = .ok (.aload_n 0, 1) := by decide +kernel
theorem dX6_make_35 : decode cX6_make 35 = .ok (.getfield 88, 3) := by decide +kernel
theorem dX6_make_38 : decode cX6_make 38 = .ok (.aload_n 0, 1) := by decide +kernel
theorem dX6_make_39 : decode cX6_make 39 = .ok (.getfield 94, 3) := by decide +kernel
theorem dX6_make_42 : decode cX6_make 42 = .ok (.iastore, 1) := by decide +kernel
theorem dX6_make_43 : decode cX6_make 43 = .ok (.aload_n 0, 1) := by decide +kernel
theorem dX6_make_44 : decode cX6_make 44 = .ok (.getfield 28, 3) := by decide +kernel
theorem dX6_make_47 : decode cX6_make 47 = .ok (.aload_n 0, 1) := by decide +kernel
theorem dX6_make_48 : decode cX6_make 48 = .ok (.getfield 88, 3) := by decide +kernel
theorem dX6_make_51 : decode cX6_make 51 = .ok (.iload 4, 2) := by decide +kernel
theorem dX6_make_53 : decode cX6_make 53 = .ok (.iastore, 1) := by decide +kernel
theorem dX6_make_54 : decode cX6_make 54 = .ok (.aload_n 0, 1) := by decide +kernel
theorem dX6_make_55 : decode cX6_make 55 = .ok (.getfield 35, 3) := by decide +kernel
theorem dX6_make_58 : decode cX6_make 58 = .ok (.aload_n 0, 1) := by decide +kernel
theorem dX6_make_59 : decode cX6_make 59 = .ok (.getfield 88, 3) := by decide +kernel
theorem dX6_make_62 : decode cX6_make 62 = .ok (.iconst (-1), 1) := by decide +kernel
theorem dX6_make_63 : decode cX6_make 63 = .ok (.iastore, 1) := by decide +kernel
theorem dX6_make_64 : decode cX6_make 64 = .ok (.aload_n 0, 1) := by decide +kernel
theorem dX6_make_65 : decode cX6_make 65 = .ok (.dup, 1) := by decide +kernel
theorem dX6_make_66 : decode cX6_make 66 = .ok (.getfield 101, 3) := by decide +kernel
theorem dX6_make_69 : decode cX6_make 69 = .ok (.iload 4, 2) := by decide +kernel
theorem dX6_make_71 : decode cX6_make 71 = .ok (.iadd, 1) := by decide +kernel
theorem dX6_make_72 : decode cX6_make 72 = .ok (.putfield 101, 3) := by decide +kernel
theorem dX6_make_75 : decode cX6_make 75 = .ok (.aload_n 0, 1) := by decide +kernel
theorem dX6_make_76 : decode cX6_make 76 = .ok (.dup, 1) := by decide +kernel
theorem dX6_make_77 : decode cX6_make 77 = .ok (.getfield 88, 3) := by decide +kernel
theorem dX6_make_80 : decode cX6_make 80 = .ok (.iconst 1, 1) := by decide +kernel
theorem dX6_make_81 : decode cX6_make 81 = .ok (.iadd, 1) := by decide +kernel
theorem dX6_make_82 : decode cX6_make 82 = .ok (.putfield 88, 3) := by decide +kernel
theorem dX6_make_85 : decode cX6_make 85 = .ok (.aload_n 0, 1) := by decide +kernel
theorem dX6_make_86 : decode cX6_make 86 = .ok (.getfield 88, 3) := by decide +kernel
theorem dX6_make_89 : decode cX6_make 89 = .ok (.iconst 1, 1) := by decide +kernel
theorem dX6_make_90 : decode cX6_make 90 = .ok (.isub, 1) := by decide +kernel
theorem dX6_make_91 : decode cX6_make 91 = .ok (.ireturn, 1) := by decide +kernel
theorem dX6_buy_0 : decode cX6_buy 0 = .ok (.aload_n 0, 1) := by decide +kernel
theorem dX6_buy_1 : decode cX6_buy 1 = .ok (.iload_n 1, 1) := by decide +kernel
theorem dX6_buy_2 : decode cX6_buy 2 = .ok (.iconst (-1), 1) := by decide +kernel
theorem dX6_buy_3 : decode cX6_buy 3 = .ok (.if_icmp .eq 14, 3) := by decide +kernel
theorem dX6_buy_6 : decode cX6_buy 6 = .ok (.iload_n 1, 1) := by decide +kernel
theorem dX6_buy_7 : decode cX6_buy 7 = .ok (.invokestatic 97, 3) := by decide +kernel
theorem dX6_buy_10 : decode cX6_buy 10 = .ok (.ifCond .ne 7, 3) := by decide +kernel
theorem dX6_buy_13 : decode cX6_buy 13 = .ok (.iconst 1, 1) := by decide +kernel
theorem dX6_buy_14 : decode cX6_buy 14 = .ok (.goto 17, 3) := by decide +kernel
theorem dX6_buy_17 : decode cX6_buy 17 = .ok (.aload_n 0, 1) := by decide +kernel
theorem dX6_buy_18 : decode cX6_buy 18 = .ok (.getfield 88, 3) := by decide +kernel
theorem dX6_buy_21 : decode cX6_buy 21 = .ok (.bipush 80, 2) := by decide +kernel
theorem dX6_buy_23 : decode cX6_buy 23 = .ok (.if_icmp .ne 7, 3) := by decide +kernel
theorem dX6_buy_26 : decode cX6_buy 26 = .ok (.iconst 2, 1) := by decide +kernel
theorem dX6_buy_27 : decode cX6_buy 27 = .ok (.goto 4, 3) := by decide +kernel
theorem dX6_buy_30 : decode cX6_buy 30 = .ok (.iconst 0, 1) := by decide +kernel
theorem dX6_buy_31 : decode cX6_buy 31 = .ok (.putfield 81, 3) := by decide +kernel
theorem dX6_buy_34 : decode cX6_buy 34 = .ok (.aload_n 0, 1) := by decide +kernel
theorem dX6_buy_35 : decode cX6_buy 35 = .ok (.getfield 81, 3) := by decide +kernel
theorem dX6_buy_38 : decode cX6_buy 38 = .ok (.ifCond .le 5, 3) := by decide +kernel
theorem dX6_buy_41 : decode cX6_buy 41 = .ok (.iconst 0, 1) := by decide +kernel
theorem dX6_buy_42 : decode cX6_buy 42 = .ok (.ireturn, 1) := by decide +kernel
theorem dX6_buy_43 : decode cX6_buy 43 = .ok (.iload_n 1, 1) := by decide +kernel
theorem dX6_buy_44 : decode cX6_buy 44 = .ok (.iconst (-1), 1) := by decide +kernel
theorem dX6_buy_45 : decode cX6_buy 45 = .ok (.if_icmp .ne 17, 3) := by decide +kernel
theorem dX6_buy_48 : decode cX6_buy 48 = .ok (.aload_n 0, 1) := by decide +kernel
theorem dX6_buy_49 : decode cX6_buy 49 = .ok (.iconst 1, 1) := by decide +kernel
theorem dX6_buy_50 : decode cX6_buy 50 = .ok (.iconst (-1), 1) := by decide +kernel
theorem dX6_buy_51 : decode cX6_buy 51 = .ok (.iconst (-1), 1) := by decide +kernel
theorem dX6_buy_52 : decode cX6_buy 52 = .ok (.aload_n 0, 1) := by decide +kernel
theorem dX6_buy_53 : decode cX6_buy 53 = .ok (.getfield 77, 3) := by decide +kernel
theorem dX6_buy_56 : decode cX6_buy 56 = .ok (.invokevirtual 104, 3) := by decide +kernel
theorem dX6_buy_59 : decode cX6_buy 59 = .ok (.goto 16, 3) := by decide +kernel
theorem dX6_buy_62 : decode cX6_buy 62 = .ok (.aload_n 0, 1) := by decide +kernel
theorem dX6_buy_63 : decode cX6_buy 63 = .ok (.iconst 0, 1) := by decide +kernel
theorem dX6_buy_64 : decode cX6_buy 64 = .ok (.iload_n 1, 1) := by decide +kernel
theorem dX6_buy_65 : decode cX6_buy 65 = .ok (.iconst (-1), 1) := by decide +kernel
theorem dX6_buy_66 : decode cX6_buy 66 = .ok (.aload_n 0, 1) := by decide +kernel
theorem dX6_buy_67 : decode cX6_buy 67 = .ok (.getfield 7, 3) := by decide +kernel
theorem dX6_buy_70 : decode cX6_buy 70 = .ok (.iload_n 1, 1) := by decide +kernel
theorem dX6_buy_71 : decode cX6_buy 71 = .ok (.iaload, 1) := by decide +kernel
theorem dX6_buy_72 : decode cX6_buy 72 = .ok (.invokevirtual 104, 3) := by decide +kernel
theorem dX6_buy_75 : decode cX6_buy 75 = .ok (.ireturn, 1) := by decide +kernel
theorem dX6_isValid_0 : decode cX6_isValid 0 = .ok (.aload_n 0, 1) := by decide +kernel
theorem dX6_isValid_1 : decode cX6_isValid 1 = .ok (.getfield 13, 3) := by decide +kernel
theorem dX6_isValid_4 : decode cX6_isValid 4 = .ok (.iload_n 1, 1) := by decide +kernel
theorem dX6_isValid_5 : decode cX6_isValid 5 = .ok (.iaload, 1) := by decide +kernel
theorem dX6_isValid_6 : decode cX6_isValid 6 = .ok (.aload_n 0, 1) := by decide +kernel
theorem dX6_isValid_7 : decode cX6_isValid 7 = .ok (.getfield 94, 3) := by decide +kernel
theorem dX6_isValid_10 : decode cX6_isValid 10 = .ok (.if_icmp .lt 7, 3) := by decide +kernel
theorem dX6_isValid_13 : decode cX6_isValid 13 = .ok (.iconst 1, 1) := by decide +kernel
theorem dX6_isValid_14 : decode cX6_isValid 14 = .ok (.goto 4, 3) := by decide +kernel
theorem dX6_isValid_17 : decode cX6_isValid 17 = .ok (.iconst 0, 1) := by decide +kernel
theorem dX6_isValid_18 : decode cX6_isValid 18 = .ok (.ireturn, 1) := by decide +kernel
theorem dX6_has_0 : decode cX6_has 0 = .ok (.iconst 0, 1) := by decide +kernel
theorem dX6_has_1 : decode cX6_has 1 = .ok (.istore_n 3, 1) := by decide +kernel
theorem dX6_has_2 : decode cX6_has 2 = .ok (.iconst 0, 1) := by decide +kernel
theorem dX6_has_3 : decode cX6_has 3 = .ok (.istore 4, 2) := by decide +kernel
theorem dX6_has_5 : decode cX6_has 5 = .ok (.iload 4, 2) := by decide +kernel
theorem dX6_has_7 : decode cX6_has 7 = .ok (.aload_n 0, 1) := by decide +kernel
theorem dX6_has_8 : decode cX6_has 8 = .ok (.getfield 88, 3) := by decide +kernel
theorem dX6_has_11 : decode cX6_has 11 = .ok (.if_icmp .ge 48, 3) := by decide +kernel
theorem dX6_has_14 : decode cX6_has 14 = .ok (.iload_n 3, 1) := by decide +kernel
theorem dX6_has_15 : decode cX6_has 15 = .ok (.aload_n 0, 1) := by decide +kernel
theorem dX6_has_16 : decode cX6_has 16 = .ok (.iload 4, 2) := by decide +kernel
theorem dX6_has_18 : decode cX6_has 18 = .ok (.invokevirtual 108, 3) := by decide +kernel
theorem dX6_has_21 : decode cX6_has 21 = .ok (.ifCond .eq 29, 3) := by decide +kernel
theorem dX6_has_24 : decode cX6_has 24 = .ok (.aload_n 0, 1) := by decide +kernel
theorem dX6_has_25 : decode cX6_has 25 = .ok (.getfield 16, 3) := by decide +kernel
theorem dX6_has_28 : decode cX6_has 28 = .ok (.iload 4, 2) := by decide +kernel
theorem dX6_has_30 : decode cX6_has 30 = .ok (.iaload, 1) := by decide +kernel
theorem dX6_has_31 : decode cX6_has 31 = .ok (.iload_n 2, 1) := by decide +kernel
theorem dX6_has_32 : decode cX6_has 32 = .ok (.if_icmp .ne 18, 3) := by decide +kernel
theorem dX6_has_35 : decode cX6_has 35 = .ok (.aload_n 0, 1) := by decide +kernel
theorem dX6_has_36 : decode cX6_has 36 = .ok (.getfield 22, 3) := by decide +kernel
theorem dX6_has_39 : decode cX6_has 39 = .ok (.iload 4, 2) := by decide +kernel
theorem dX6_has_41 : decode cX6_has 41 = .ok (.iaload, 1) := by decide +kernel
theorem dX6_has_42 : decode cX6_has 42 = .ok (.iload_n 1, 1) := by decide +kernel
theorem dX6_has_43 : decode cX6_has 43 = .ok (.if_icmp .ne 7, 3) := by decide +kernel
theorem dX6_has_46 : decode cX6_has 46 = .ok (.iconst 1, 1) := by decide +kernel
theorem dX6_has_47 : decode cX6_has 47 = .ok (.goto 4, 3) := by decide +kernel
theorem dX6_has_50 : decode cX6_has 50 = .ok (.iconst 0, 1) := by decide +kernel
theorem dX6_has_51 : decode cX6_has 51 = .ok (.iadd, 1) := by decide +kernel
theorem dX6_has_52 : decode cX6_has 52 = .ok (.istore_n 3, 1) := by decide +kernel
theorem dX6_has_53 : decode cX6_has 53 = .ok (.iinc 4 1, 3) := by decide +kernel
theorem dX6_has_56 : decode cX6_has 56 = .ok (.goto (-51), 3) := by decide +kernel
theorem dX6_has_59 : decode cX6_has 59 = .ok (.iload_n 3, 1) := by decide +kernel
theorem dX6_has_60 : decode cX6_has 60 = .ok (.ireturn, 1) := by decide +kernel
theorem dX6_admit_0 : decode cX6_admit 0 = .ok (.aload_n 0, 1) := by decide +kernel
theorem dX6_admit_1 : decode cX6_admit 1 = .ok (.iload_n 1, 1) := by decide +kernel
theorem dX6_admit_2 : decode cX6_admit 2 = .ok (.invokestatic 111, 3) := by decide +kernel
theorem dX6_admit_5 : decode cX6_admit 5 = .ok (.ifCond .eq 7, 3) := by decide +kernel
theorem dX6_admit_8 : decode cX6_admit 8 = .ok (.iconst 0, 1) := by decide +kernel
theorem dX6_admit_9 : decode cX6_admit 9 = .ok (.goto 4, 3) := by decide +kernel
theorem dX6_admit_12 : decode cX6_admit 12 = .ok (.iconst 1, 1) := by decide +kernel
theorem dX6_admit_13 : decode cX6_admit 13 = .ok (.putfield 81, 3) := by decide +kernel
theorem dX6_admit_16 : decode cX6_admit 16 = .ok (.aload_n 0, 1) := by decide +kernel
theorem dX6_admit_17 : decode cX6_admit 17 = .ok (.getfield 81, 3) := by decide +kernel
theorem dX6_admit_20 : decode cX6_admit 20 = .ok (.ifCond .ne 79, 3) := by decide +kernel
theorem dX6_admit_23 : decode cX6_admit 23 = .ok (.iload_n 2, 1) := by decide +kernel
theorem dX6_admit_24 : decode cX6_admit 24 = .ok (.ifCond .eq 30, 3) := by decide +kernel
theorem dX6_admit_27 : decode cX6_admit 27 = .ok (.aload_n 0, 1) := by decide +kernel
theorem dX6_admit_28 : decode cX6_admit 28 = .ok (.iload_n 1, 1) := by decide +kernel
theorem dX6_admit_29 : decode cX6_admit 29 = .ok (.iconst 2, 1) := by decide +kernel
theorem dX6_admit_30 : decode cX6_admit 30 = .ok (.invokevirtual 114, 3) := by decide +kernel
theorem dX6_admit_33 : decode cX6_admit 33 = .ok (.ifCond .le 17, 3) := by decide +kernel
theorem dX6_admit_36 : decode cX6_admit 36 = .ok (.aload_n 0, 1) := by decide +kernel
theorem dX6_admit_37 : decode cX6_admit 37 = .ok (.iload_n 1, 1) := by decide +kernel
theorem dX6_admit_38 : decode cX6_admit 38 = .ok (.iconst 3, 1) := by decide +kernel
theorem dX6_admit_39 : decode cX6_admit 39 = .ok (.invokevirtual 114, 3) := by decide +kernel
theorem dX6_admit_42 : decode cX6_admit 42 = .ok (.iconst 2, 1) := by decide +kernel
theorem dX6_admit_43 : decode cX6_admit 43 = .ok (.if_icmp .ge 7, 3) := by decide +kernel
theorem dX6_admit_46 : decode cX6_admit 46 = .ok (.iconst 1, 1) := by decide +kernel
theorem dX6_admit_47 : decode cX6_admit 47 = .ok (.goto 21, 3) := by decide +kernel
theorem dX6_admit_50 : decode cX6_admit 50 = .ok (.iconst 0, 1) := by decide +kernel
theorem dX6_admit_51 : decode cX6_admit 51 = .ok (.goto 17, 3) := by decide +kernel
theorem dX6_admit_54 : decode cX6_admit 54 = .ok (.aload_n 0, 1) := by decide +kernel
theorem dX6_admit_55 : decode cX6_admit 55 = .ok (.iload_n 1, 1) := by decide +kernel
theorem dX6_admit_56 : decode cX6_admit 56 = .ok (.iconst 2, 1) := by decide +kernel
theorem dX6_admit_57 : decode cX6_admit 57 = .ok (.invokevirtual 114, 3) := by decide +kernel
theorem dX6_admit_60 : decode cX6_admit 60 = .ok (.ifCond .ne 7, 3) := by decide +kernel
theorem dX6_admit_63 : decode cX6_admit 63 = .ok (.iconst 1, 1) := by decide +kernel
theorem dX6_admit_64 : decode cX6_admit 64 = .ok (.goto 4, 3) := by decide +kernel
theorem dX6_admit_67 : decode cX6_admit 67 = .ok (.iconst 0, 1) := by decide +kernel
theorem dX6_admit_68 : decode cX6_admit 68 = .ok (.istore_n 3, 1) := by decide +kernel
theorem dX6_admit_69 : decode cX6_admit 69 = .ok (.aload_n 0, 1) := by decide +kernel
theorem dX6_admit_70 : decode cX6_admit 70 = .ok (.aload_n 0, 1) := by decide +kernel
theorem dX6_admit_71 : decode cX6_admit 71 = .ok (.iload_n 1, 1) := by decide +kernel
theorem dX6_admit_72 : decode cX6_admit 72 = .ok (.invokevirtual 118, 3) := by decide +kernel
theorem dX6_admit_75 : decode cX6_admit 75 = .ok (.ifCond .eq 16, 3) := by decide +kernel
theorem dX6_admit_78 : decode cX6_admit 78 = .ok (.iload_n 3, 1) := by decide +kernel
theorem dX6_admit_79 : decode cX6_admit 79 = .ok (.ifCond .eq 12, 3) := by decide +kernel
theorem dX6_admit_82 : decode cX6_admit 82 = .ok (.aload_n 0, 1) := by decide +kernel
theorem dX6_admit_83 : decode cX6_admit 83 = .ok (.getfield 88, 3) := by decide +kernel
theorem dX6_admit_86 : decode cX6_admit 86 = .ok (.bipush 80, 2) := by decide +kernel
theorem dX6_admit_88 : decode cX6_admit 88 = .ok (.if_icmp .ne 7, 3) := by decide +kernel
theorem dX6_admit_91 : decode cX6_admit 91 = .ok (.iconst 2, 1) := by decide +kernel
theorem dX6_admit_92 : decode cX6_admit 92 = .ok (.goto 4, 3) := by decide +kernel
theorem dX6_admit_95 : decode cX6_admit 95 = .ok (.iconst 0, 1) := by decide +kernel
theorem dX6_admit_96 : decode cX6_admit 96 = .ok (.putfield 81, 3) := by decide +kernel
theorem dX6_admit_99 : decode cX6_admit 99 = .ok (.aload_n 0, 1) := by decide +kernel
theorem dX6_admit_100 : decode cX6_admit 100 = .ok (.getfield 81, 3) := by decide +kernel
theorem dX6_admit_103 : decode cX6_admit 103 = .ok (.ifCond .le 5, 3) := by decide +kernel
theorem dX6_admit_106 : decode cX6_admit 106 = .ok (.iconst 0, 1) := by decide +kernel
theorem dX6_admit_107 : decode cX6_admit 107 = .ok (.ireturn, 1) := by decide +kernel
theorem dX6_admit_108 : decode cX6_admit 108 = .ok (.aload_n 0, 1) := by decide +kernel
theorem dX6_admit_109 : decode cX6_admit 109 = .ok (.iload_n 2, 1) := by decide +kernel
theorem dX6_admit_110 : decode cX6_admit 110 = .ok (.ifCond .eq 7, 3) := by decide +kernel
theorem dX6_admit_113 : decode cX6_admit 113 = .ok (.iconst 3, 1) := by decide +kernel
theorem dX6_admit_114 : decode cX6_admit 114 = .ok (.goto 4, 3) := by decide +kernel
theorem dX6_admit_117 : decode cX6_admit 117 = .ok (.iconst 2, 1) := by decide +kernel
theorem dX6_admit_118 : decode cX6_admit 118 = .ok (.iconst (-1), 1) := by decide +kernel
theorem dX6_admit_119 : decode cX6_admit 119 = .ok (.iload_n 1, 1) := by decide +kernel
theorem dX6_admit_120 : decode cX6_admit 120 = .ok (.iload_n 2, 1) := by decide +kernel
theorem dX6_admit_121 : decode cX6_admit 121 = .ok (.ifCond .eq 12, 3) := by decide +kernel
theorem dX6_admit_124 : decode cX6_admit 124 = .ok (.aload_n 0, 1) := by decide +kernel
theorem dX6_admit_125 : decode cX6_admit 125 = .ok (.getfield 77, 3) := by decide +kernel
theorem dX6_admit_128 : decode cX6_admit 128 = .ok (.iconst 2, 1) := by decide +kernel
theorem dX6_admit_129 : decode cX6_admit 129 = .ok (.idiv, 1) := by decide +kernel
theorem dX6_admit_130 : decode cX6_admit 130 = .ok (.goto 4, 3) := by decide +kernel
theorem dX6_admit_133 : decode cX6_admit 133 = .ok (.iconst 0, 1) := by decide +kernel
theorem dX6_admit_134 : decode cX6_admit 134 = .ok (.invokevirtual 104, 3) := by decide +kernel
theorem dX6_admit_137 : decode cX6_admit 137 = .ok (.ireturn, 1) := by decide +kernel
theorem dX6_isFor_0 : decode cX6_isFor 0 = .ok (.aload_n 0, 1) := by decide +kernel
theorem dX6_isFor_1 : decode cX6_isFor 1 = .ok (.getfield 16, 3) := by decide +kernel
theorem dX6_isFor_4 : decode cX6_isFor 4 = .ok (.iload_n 1, 1) := by decide +kernel
theorem dX6_isFor_5 : decode cX6_isFor 5 = .ok (.iaload, 1) := by decide +kernel
theorem dX6_isFor_6 : decode cX6_isFor 6 = .ok (.ifCond .ne 13, 3) := by decide +kernel
theorem dX6_isFor_9 : decode cX6_isFor 9 = .ok (.aload_n 0, 1) := by decide +kernel
theorem dX6_isFor_10 : decode cX6_isFor 10 = .ok (.getfield 19, 3) := by decide +kernel
theorem dX6_isFor_13 : decode cX6_isFor 13 = .ok (.iload_n 1, 1) := by decide +kernel
theorem dX6_isFor_14 : decode cX6_isFor 14 = .ok (.iaload, 1) := by decide +kernel
theorem dX6_isFor_15 : decode cX6_isFor 15 = .ok (.iload_n 2, 1) := by decide +kernel
theorem dX6_isFor_16 : decode cX6_isFor 16 = .ok (.if_icmp .ne 7, 3) := by decide +kernel
theorem dX6_isFor_19 : decode cX6_isFor 19 = .ok (.iconst 1, 1) := by decide +kernel
theorem dX6_isFor_20 : decode cX6_isFor 20 = .ok (.goto 4, 3) := by decide +kernel
theorem dX6_isFor_23 : decode cX6_isFor 23 = .ok (.iconst 0, 1) := by decide +kernel
theorem dX6_isFor_24 : decode cX6_isFor 24 = .ok (.ireturn, 1) := by decide +kernel
theorem dX6_giveBack_0 : decode cX6_giveBack 0 = .ok (.aload_n 0, 1) := by decide +kernel
theorem dX6_giveBack_1 : decode cX6_giveBack 1 = .ok (.aload_n 0, 1) := by decide +kernel
theorem dX6_giveBack_2 : decode cX6_giveBack 2 = .ok (.iload_n 1, 1) := by decide +kernel
theorem dX6_giveBack_3 : decode cX6_giveBack 3 = .ok (.invokevirtual 121, 3) := by decide +kernel
theorem dX6_giveBack_6 : decode cX6_giveBack 6 = .ok (.ifCond .ne 7, 3) := by decide +kernel
theorem dX6_giveBack_9 : decode cX6_giveBack 9 = .ok (.iconst 1, 1) := by decide +kernel
theorem dX6_giveBack_10 : decode cX6_giveBack 10 = .ok (.goto 35, 3) := by decide +kernel
theorem dX6_giveBack_13 : decode cX6_giveBack 13 = .ok (.aload_n 0, 1) := by decide +kernel
theorem dX6_giveBack_14 : decode cX6_giveBack 14 = .ok (.iload_n 1, 1) := by decide +kernel
theorem dX6_giveBack_15 : decode cX6_giveBack 15 = .ok (.invokevirtual 108, 3) := by decide +kernel
theorem dX6_giveBack_18 : decode cX6_giveBack 18 = .ok (.ifCond .eq 22, 3) := by decide +kernel
theorem dX6_giveBack_21 : decode cX6_giveBack 21 = .ok (.aload_n 0, 1) := by decide +kernel
theorem dX6_giveBack_22 : decode cX6_giveBack 22 = .ok (.getfield 41, 3) := by decide +kernel
theorem dX6_giveBack_25 : decode cX6_giveBack 25 = .ok (.iload_n 1, 1) := by decide +kernel
theorem dX6_giveBack_26 : decode cX6_giveBack 26 = .ok (.iaload, 1) := by decide +kernel
theorem dX6_giveBack_27 : decode cX6_giveBack 27 = .ok (.ifCond .ne 13, 3) := by decide +kernel
theorem dX6_giveBack_30 : decode cX6_giveBack 30 = .ok (.aload_n 0, 1) := by decide +kernel
theorem dX6_giveBack_31 : decode cX6_giveBack 31 = .ok (.getfield 35, 3) := by decide +kernel
theorem dX6_giveBack_34 : decode cX6_giveBack 34 = .ok (.iload_n 1, 1) := by decide +kernel
theorem dX6_giveBack_35 : decode cX6_giveBack 35 = .ok (.iaload, 1) := by decide +kernel
theorem dX6_giveBack_36 : decode cX6_giveBack 36 = .ok (.iconst (-1), 1) := by decide +kernel
theorem dX6_giveBack_37 : decode cX6_giveBack 37 = .ok (.if_icmp .eq 7, 3) := by decide +kernel
theorem dX6_giveBack_40 : decode cX6_giveBack 40 = .ok (.iconst 2, 1) := by decide +kernel
theorem dX6_giveBack_41 : decode cX6_giveBack 41 = .ok (.goto 4, 3) := by decide +kernel
theorem dX6_giveBack_44 : decode cX6_giveBack 44 = .ok (.iconst 0, 1) := by decide +kernel
theorem dX6_giveBack_45 : decode cX6_giveBack 45 = .ok (.putfield 81, 3) := by decide +kernel
theorem dX6_giveBack_48 : decode cX6_giveBack 48 = .ok (.iconst 0, 1) := by decide +kernel
theorem dX6_giveBack_49 : decode cX6_giveBack 49 = .ok (.istore_n 2, 1) := by decide +kernel
theorem dX6_giveBack_50 : decode cX6_giveBack 50 = .ok (.iload_n 2, 1) := by decide +kernel
theorem dX6_giveBack_51 : decode cX6_giveBack 51 = .ok (.bipush 12, 2) := by decide +kernel
theorem dX6_giveBack_53 : decode cX6_giveBack 53 = .ok (.if_icmp .ge 45, 3) := by decide +kernel
theorem dX6_giveBack_56 : decode cX6_giveBack 56 = .ok (.aload_n 0, 1) := by decide +kernel
theorem dX6_giveBack_57 : decode cX6_giveBack 57 = .ok (.getfield 81, 3) := by decide +kernel
theorem dX6_giveBack_60 : decode cX6_giveBack 60 = .ok (.ifCond .ne 38, 3) := by decide +kernel
theorem dX6_giveBack_63 : decode cX6_giveBack 63 = .ok (.aload_n 0, 1) := by decide +kernel
theorem dX6_giveBack_64 : decode cX6_giveBack 64 = .ok (.aload_n 0, 1) := by decide +kernel
theorem dX6_giveBack_65 : decode cX6_giveBack 65 = .ok (.iload_n 1, 1) := by decide +kernel
theorem dX6_giveBack_66 : decode cX6_giveBack 66 = .ok (.iload_n 2, 1) := by decide +kernel
theorem dX6_giveBack_67 : decode cX6_giveBack 67 = .ok (.iconst 3, 1) := by decide +kernel
theorem dX6_giveBack_68 : decode cX6_giveBack 68 = .ok (.idiv, 1) := by decide +kernel
theorem dX6_giveBack_69 : decode cX6_giveBack 69 = .ok (.invokevirtual 124, 3) := by decide +kernel
theorem dX6_giveBack_72 : decode cX6_giveBack 72 = .ok (.ifCond .eq 16, 3) := by decide +kernel
theorem dX6_giveBack_75 : decode cX6_giveBack 75 = .ok (.aload_n 0, 1) := by decide +kernel
theorem dX6_giveBack_76 : decode cX6_giveBack 76 = .ok (.getfield 47, 3) := by decide +kernel
theorem dX6_giveBack_79 : decode cX6_giveBack 79 = .ok (.iload_n 2, 1) := by decide +kernel
theorem dX6_giveBack_80 : decode cX6_giveBack 80 = .ok (.baload, 1) := by decide +kernel
theorem dX6_giveBack_81 : decode cX6_giveBack 81 = .ok (.ifCond .ne 7, 3) := by decide +kernel
theorem dX6_giveBack_84 : decode cX6_giveBack 84 = .ok (.iconst 2, 1) := by decide +kernel
theorem dX6_giveBack_85 : decode cX6_giveBack 85 = .ok (.goto 4, 3) := by decide +kernel
theorem dX6_giveBack_88 : decode cX6_giveBack 88 = .ok (.iconst 0, 1) := by decide +kernel
theorem dX6_giveBack_89 : decode cX6_giveBack 89 = .ok (.putfield 81, 3) := by decide +kernel
theorem dX6_giveBack_92 : decode cX6_giveBack 92 = .ok (.iinc 2 1, 3) := by decide +kernel
theorem dX6_giveBack_95 : decode cX6_giveBack 95 = .ok (.goto (-45), 3) := by decide +kernel
theorem dX6_giveBack_98 : decode cX6_giveBack 98 = .ok (.aload_n 0, 1) := by decide +kernel
theorem dX6_giveBack_99 : decode cX6_giveBack 99 = .ok (.getfield 81, 3) := by decide +kernel
theorem dX6_giveBack_102 : decode cX6_giveBack 102 = .ok (.ifCond .le 5, 3) := by decide +kernel
theorem dX6_giveBack_105 : decode cX6_giveBack 105 = .ok (.iconst 0, 1) := by decide +kernel
theorem dX6_giveBack_106 : decode cX6_giveBack 106 = .ok (.ireturn, 1) := by decide +kernel
theorem dX6_giveBack_107 : decode cX6_giveBack 107 = .ok (.aload_n 0, 1) := by decide +kernel
theorem dX6_giveBack_108 : decode cX6_giveBack 108 = .ok (.getfield 31, 3) := by decide +kernel
theorem dX6_giveBack_111 : decode cX6_giveBack 111 = .ok (.iload_n 1, 1) := by decide +kernel
theorem dX6_giveBack_112 : decode cX6_giveBack 112 = .ok (.iconst 1, 1) := by decide +kernel
theorem dX6_giveBack_113 : decode cX6_giveBack 113 = .ok (.bastore, 1) := by decide +kernel
theorem dX6_giveBack_114 : decode cX6_giveBack 114 = .ok (.aload_n 0, 1) := by decide +kernel
theorem dX6_giveBack_115 : decode cX6_giveBack 115 = .ok (.dup, 1) := by decide +kernel
theorem dX6_giveBack_116 : decode cX6_giveBack 116 = .ok (.getfield 101, 3) := by decide +kernel
theorem dX6_giveBack_119 : decode cX6_giveBack 119 = .ok (.aload_n 0, 1) := by decide +kernel
theorem dX6_giveBack_120 : decode cX6_giveBack 120 = .ok (.getfield 28, 3) := by decide +kernel
theorem dX6_giveBack_123 : decode cX6_giveBack 123 = .ok (.iload_n 1, 1) := by decide +kernel
theorem dX6_giveBack_124 : decode cX6_giveBack 124 = .ok (.iaload, 1) := by decide +kernel
theorem dX6_giveBack_125 : decode cX6_giveBack 125 = .ok (.isub, 1) := by decide +kernel
theorem dX6_giveBack_126 : decode cX6_giveBack 126 = .ok (.putfield 101, 3) := by decide +kernel
theorem dX6_giveBack_129 : decode cX6_giveBack 129 = .ok (.aload_n 0, 1) := by decide +kernel
theorem dX6_giveBack_130 : decode cX6_giveBack 130 = .ok (.getfield 28, 3) := by decide +kernel
theorem dX6_giveBack_133 : decode cX6_giveBack 133 = .ok (.iload_n 1, 1) := by decide +kernel
theorem dX6_giveBack_134 : decode cX6_giveBack 134 = .ok (.iaload, 1) := by decide +kernel
theorem dX6_giveBack_135 : decode cX6_giveBack 135 = .ok (.ireturn, 1) := by decide +kernel
theorem dX6_join_0 : decode cX6_join 0 = .ok (.aload_n 0, 1) := by decide +kernel
theorem dX6_join_1 : decode cX6_join 1 = .ok (.iload_n 1, 1) := by decide +kernel
theorem dX6_join_2 : decode cX6_join 2 = .ok (.invokestatic 111, 3) := by decide +kernel
theorem dX6_join_5 : decode cX6_join 5 = .ok (.ifCond .ne 7, 3) := by decide +kernel
theorem dX6_join_8 : decode cX6_join 8 = .ok (.iconst 1, 1) := by decide +kernel
theorem dX6_join_9 : decode cX6_join 9 = .ok (.goto 16, 3) := by decide +kernel
theorem dX6_join_12 : decode cX6_join 12 = .ok (.aload_n 0, 1) := by decide +kernel
theorem dX6_join_13 : decode cX6_join 13 = .ok (.iload_n 1, 1) := by decide +kernel
theorem dX6_join_14 : decode cX6_join 14 = .ok (.invokevirtual 118, 3) := by decide +kernel
theorem dX6_join_17 : decode cX6_join 17 = .ok (.ifCond .eq 7, 3) := by decide +kernel
theorem dX6_join_20 : decode cX6_join 20 = .ok (.iconst 2, 1) := by decide +kernel
theorem dX6_join_21 : decode cX6_join 21 = .ok (.goto 4, 3) := by decide +kernel
theorem dX6_join_24 : decode cX6_join 24 = .ok (.iconst 0, 1) := by decide +kernel
theorem dX6_join_25 : decode cX6_join 25 = .ok (.putfield 81, 3) := by decide +kernel
theorem dX6_join_28 : decode cX6_join 28 = .ok (.aload_n 0, 1) := by decide +kernel
theorem dX6_join_29 : decode cX6_join 29 = .ok (.getfield 81, 3) := by decide +kernel
theorem dX6_join_32 : decode cX6_join 32 = .ok (.ifCond .le 5, 3) := by decide +kernel
theorem dX6_join_35 : decode cX6_join 35 = .ok (.iconst 0, 1) := by decide +kernel
theorem dX6_join_36 : decode cX6_join 36 = .ok (.ireturn, 1) := by decide +kernel
theorem dX6_join_37 : decode cX6_join 37 = .ok (.aload_n 0, 1) := by decide +kernel
theorem dX6_join_38 : decode cX6_join 38 = .ok (.getfield 13, 3) := by decide +kernel
theorem dX6_join_41 : decode cX6_join 41 = .ok (.iload_n 1, 1) := by decide +kernel
theorem dX6_join_42 : decode cX6_join 42 = .ok (.aload_n 0, 1) := by decide +kernel
theorem dX6_join_43 : decode cX6_join 43 = .ok (.getfield 94, 3) := by decide +kernel
theorem dX6_join_46 : decode cX6_join 46 = .ok (.bipush 30, 2) := by decide +kernel
theorem dX6_join_48 : decode cX6_join 48 = .ok (.iadd, 1) := by decide +kernel
theorem dX6_join_49 : decode cX6_join 49 = .ok (.iconst 1, 1) := by decide +kernel
theorem dX6_join_50 : decode cX6_join 50 = .ok (.isub, 1) := by decide +kernel
theorem dX6_join_51 : decode cX6_join 51 = .ok (.iastore, 1) := by decide +kernel
theorem dX6_join_52 : decode cX6_join 52 = .ok (.aload_n 0, 1) := by decide +kernel
theorem dX6_join_53 : decode cX6_join 53 = .ok (.dup, 1) := by decide +kernel
theorem dX6_join_54 : decode cX6_join 54 = .ok (.getfield 101, 3) := by decide +kernel
theorem dX6_join_57 : decode cX6_join 57 = .ok (.sipush 6000, 3) := by decide +kernel
theorem dX6_join_60 : decode cX6_join 60 = .ok (.iadd, 1) := by decide +kernel
theorem dX6_join_61 : decode cX6_join 61 = .ok (.putfield 101, 3) := by decide +kernel
theorem dX6_join_64 : decode cX6_join 64 = .ok (.aload_n 0, 1) := by decide +kernel
theorem dX6_join_65 : decode cX6_join 65 = .ok (.getfield 13, 3) := by decide +kernel
theorem dX6_join_68 : decode cX6_join 68 = .ok (.iload_n 1, 1) := by decide +kernel
theorem dX6_join_69 : decode cX6_join 69 = .ok (.iaload, 1) := by decide +kernel
theorem dX6_join_70 : decode cX6_join 70 = .ok (.ireturn, 1) := by decide +kernel
theorem dX6_insideOf_0 : decode cX6_insideOf 0 = .ok (.iconst 0, 1) := by decide +kernel
theorem dX6_insideOf_1 : decode cX6_insideOf 1 = .ok (.istore_n 2, 1) := by decide +kernel
theorem dX6_insideOf_2 : decode cX6_insideOf 2 = .ok (.iconst 0, 1) := by decide +kernel
theorem dX6_insideOf_3 : decode cX6_insideOf 3 = .ok (.istore_n 3, 1) := by decide +kernel
theorem dX6_insideOf_4 : decode cX6_insideOf 4 = .ok (.iload_n 3, 1) := by decide +kernel
theorem dX6_insideOf_5 : decode cX6_insideOf 5 = .ok (.aload_n 0, 1) := by decide +kernel
theorem dX6_insideOf_6 : decode cX6_insideOf 6 = .ok (.getfield 88, 3) := by decide +kernel
theorem dX6_insideOf_9 : decode cX6_insideOf 9 = .ok (.if_icmp .ge 27, 3) := by decide +kernel
theorem dX6_insideOf_12 : decode cX6_insideOf 12 = .ok (.iload_n 2, 1) := by decide +kernel
theorem dX6_insideOf_13 : decode cX6_insideOf 13 = .ok (.aload_n 0, 1) := by decide +kernel
theorem dX6_insideOf_14 : decode cX6_insideOf 14 = .ok (.getfield 35, 3) := by decide +kernel
theorem dX6_insideOf_17 : decode cX6_insideOf 17 = .ok (.iload_n 3, 1) := by decide +kernel
theorem dX6_insideOf_18 : decode cX6_insideOf 18 = .ok (.iaload, 1) := by decide +kernel
theorem dX6_insideOf_19 : decode cX6_insideOf 19 = .ok (.iload_n 1, 1) := by decide +kernel
theorem dX6_insideOf_20 : decode cX6_insideOf 20 = .ok (.if_icmp .ne 7, 3) := by decide +kernel
theorem dX6_insideOf_23 : decode cX6_insideOf 23 = .ok (.iconst 1, 1) := by decide +kernel
theorem dX6_insideOf_24 : decode cX6_insideOf 24 = .ok (.goto 4, 3) := by decide +kernel
theorem dX6_insideOf_27 : decode cX6_insideOf 27 = .ok (.iconst 0, 1) := by decide +kernel
theorem dX6_insideOf_28 : decode cX6_insideOf 28 = .ok (.iadd, 1) := by decide +kernel
theorem dX6_insideOf_29 : decode cX6_insideOf 29 = .ok (.istore_n 2, 1) := by decide +kernel
theorem dX6_insideOf_30 : decode cX6_insideOf 30 = .ok (.iinc 3 1, 3) := by decide +kernel
theorem dX6_insideOf_33 : decode cX6_insideOf 33 = .ok (.goto (-29), 3) := by decide +kernel
theorem dX6_insideOf_36 : decode cX6_insideOf 36 = .ok (.iload_n 2, 1) := by decide +kernel
theorem dX6_insideOf_37 : decode cX6_insideOf 37 = .ok (.ireturn, 1) := by decide +kernel
theorem dX6_isAhead_0 : decode cX6_isAhead 0 = .ok (.aload_n 0, 1) := by decide +kernel
theorem dX6_isAhead_1 : decode cX6_isAhead 1 = .ok (.getfield 16, 3) := by decide +kernel
theorem dX6_isAhead_4 : decode cX6_isAhead 4 = .ok (.iload_n 1, 1) := by decide +kernel
theorem dX6_isAhead_5 : decode cX6_isAhead 5 = .ok (.iaload, 1) := by decide +kernel
theorem dX6_isAhead_6 : decode cX6_isAhead 6 = .ok (.iconst 2, 1) := by decide +kernel
theorem dX6_isAhead_7 : decode cX6_isAhead 7 = .ok (.if_icmp .ne 7, 3) := by decide +kernel
theorem dX6_isAhead_10 : decode cX6_isAhead 10 = .ok (.iconst 1, 1) := by decide +kernel
theorem dX6_isAhead_11 : decode cX6_isAhead 11 = .ok (.goto 4, 3) := by decide +kernel
theorem dX6_isAhead_14 : decode cX6_isAhead 14 = .ok (.iconst 0, 1) := by decide +kernel
theorem dX6_isAhead_15 : decode cX6_isAhead 15 = .ok (.istore_n 3, 1) := by decide +kernel
theorem dX6_isAhead_16 : decode cX6_isAhead 16 = .ok (.aload_n 0, 1) := by decide +kernel
theorem dX6_isAhead_17 : decode cX6_isAhead 17 = .ok (.getfield 16, 3) := by decide +kernel
theorem dX6_isAhead_20 : decode cX6_isAhead 20 = .ok (.iload_n 2, 1) := by decide +kernel
theorem dX6_isAhead_21 : decode cX6_isAhead 21 = .ok (.iaload, 1) := by decide +kernel
theorem dX6_isAhead_22 : decode cX6_isAhead 22 = .ok (.iconst 2, 1) := by decide +kernel
theorem dX6_isAhead_23 : decode cX6_isAhead 23 = .ok (.if_icmp .ne 7, 3) := by decide +kernel
theorem dX6_isAhead_26 : decode cX6_isAhead 26 = .ok (.iconst 1, 1) := by decide +kernel
theorem dX6_isAhead_27 : decode cX6_isAhead 27 = .ok (.goto 4, 3) := by decide +kernel
theorem dX6_isAhead_30 : decode cX6_isAhead 30 = .ok (.iconst 0, 1) := by decide +kernel
theorem dX6_isAhead_31 : decode cX6_isAhead 31 = .ok (.istore 4, 2) := by decide +kernel
theorem dX6_isAhead_33 : decode cX6_isAhead 33 = .ok (.iload_n 3, 1) := by decide +kernel
theorem dX6_isAhead_34 : decode cX6_isAhead 34 = .ok (.iload 4, 2) := by decide +kernel
theorem dX6_isAhead_36 : decode cX6_isAhead 36 = .ok (.if_icmp .eq 7, 3) := by decide +kernel
theorem dX6_isAhead_39 : decode cX6_isAhead 39 = .ok (.iload_n 3, 1) := by decide +kernel
theorem dX6_isAhead_40 : decode cX6_isAhead 40 = .ok (.goto 23, 3) := by decide +kernel
theorem dX6_isAhead_43 : decode cX6_isAhead 43 = .ok (.aload_n 0, 1) := by decide +kernel
theorem dX6_isAhead_44 : decode cX6_isAhead 44 = .ok (.getfield 38, 3) := by decide +kernel
theorem dX6_isAhead_47 : decode cX6_isAhead 47 = .ok (.iload_n 1, 1) := by decide +kernel
theorem dX6_isAhead_48 : decode cX6_isAhead 48 = .ok (.iaload, 1) := by decide +kernel
theorem dX6_isAhead_49 : decode cX6_isAhead 49 = .ok (.aload_n 0, 1) := by decide +kernel
theorem dX6_isAhead_50 : decode cX6_isAhead 50 = .ok (.getfield 38, 3) := by decide +kernel
theorem dX6_isAhead_53 : decode cX6_isAhead 53 = .ok (.iload_n 2, 1) := by decide +kernel
theorem dX6_isAhead_54 : decode cX6_isAhead 54 = .ok (.iaload, 1) := by decide +kernel
theorem dX6_isAhead_55 : decode cX6_isAhead 55 = .ok (.if_icmp .ge 7, 3) := by decide +kernel
theorem dX6_isAhead_58 : decode cX6_isAhead 58 = .ok (.iconst 1, 1) := by decide +kernel
theorem dX6_isAhead_59 : decode cX6_isAhead 59 = .ok (.goto 4, 3) := by decide +kernel
theorem dX6_isAhead_62 : decode cX6_isAhead 62 = .ok (.iconst 0, 1) := by decide +kernel
theorem dX6_isAhead_63 : decode cX6_isAhead 63 = .ok (.ireturn, 1) := by decide +kernel
theorem dX6_inQueue_0 : decode cX6_inQueue 0 = .ok (.iconst 0, 1) := by decide +kernel
theorem dX6_inQueue_1 : decode cX6_inQueue 1 = .ok (.istore_n 3, 1) := by decide +kernel
theorem dX6_inQueue_2 : decode cX6_inQueue 2 = .ok (.iload_n 3, 1) := by decide +kernel
theorem dX6_inQueue_3 : decode cX6_inQueue 3 = .ok (.aload_n 0, 1) := by decide +kernel
theorem dX6_inQueue_4 : decode cX6_inQueue 4 = .ok (.getfield 88, 3) := by decide +kernel
theorem dX6_inQueue_7 : decode cX6_inQueue 7 = .ok (.if_icmp .ge 91, 3) := by decide +kernel
theorem dX6_inQueue_10 : decode cX6_inQueue 10 = .ok (.aload_n 0, 1) := by decide +kernel
theorem dX6_inQueue_11 : decode cX6_inQueue 11 = .ok (.getfield 35, 3) := by decide +kernel
theorem dX6_inQueue_14 : decode cX6_inQueue 14 = .ok (.iload_n 3, 1) := by decide +kernel
theorem dX6_inQueue_15 : decode cX6_inQueue 15 = .ok (.iaload, 1) := by decide +kernel
theorem dX6_inQueue_16 : decode cX6_inQueue 16 = .ok (.bipush 100, 2) := by decide +kernel
theorem dX6_inQueue_18 : decode cX6_inQueue 18 = .ok (.iload_n 1, 1) := by decide +kernel
theorem dX6_inQueue_19 : decode cX6_inQueue 19 = .ok (.iadd, 1) := by decide +kernel
theorem dX6_inQueue_20 : decode cX6_inQueue 20 = .ok (.if_icmp .ne 72, 3) := by decide +kernel
theorem dX6_inQueue_23 : decode cX6_inQueue 23 = .ok (.iconst 0, 1) := by decide +kernel
theorem dX6_inQueue_24 : decode cX6_inQueue 24 = .ok (.istore 4, 2) := by decide +kernel
theorem dX6_inQueue_26 : decode cX6_inQueue 26 = .ok (.iconst 0, 1) := by decide +kernel
theorem dX6_inQueue_27 : decode cX6_inQueue 27 = .ok (.istore 5, 2) := by decide +kernel
theorem dX6_inQueue_29 : decode cX6_inQueue 29 = .ok (.iload 5, 2) := by decide +kernel
theorem dX6_inQueue_31 : decode cX6_inQueue 31 = .ok (.aload_n 0, 1) := by decide +kernel
theorem dX6_inQueue_32 : decode cX6_inQueue 32 = .ok (.getfield 88, 3) := by decide +kernel
theorem dX6_inQueue_35 : decode cX6_inQueue 35 = .ok (.if_icmp .ge 49, 3) := by decide +kernel
theorem dX6_inQueue_38 : decode cX6_inQueue 38 = .ok (.iload 4, 2) := by decide +kernel
theorem dX6_inQueue_40 : decode cX6_inQueue 40 = .ok (.aload_n 0, 1) := by decide +kernel
theorem dX6_inQueue_41 : decode cX6_inQueue 41 = .ok (.getfield 35, 3) := by decide +kernel
theorem dX6_inQueue_44 : decode cX6_inQueue 44 = .ok (.iload 5, 2) := by decide +kernel
theorem dX6_inQueue_46 : decode cX6_inQueue 46 = .ok (.iaload, 1) := by decide +kernel
theorem dX6_inQueue_47 : decode cX6_inQueue 47 = .ok (.bipush 100, 2) := by decide +kernel
theorem dX6_inQueue_49 : decode cX6_inQueue 49 = .ok (.iload_n 1, 1) := by decide +kernel
theorem dX6_inQueue_50 : decode cX6_inQueue 50 = .ok (.iadd, 1) := by decide +kernel
theorem dX6_inQueue_51 : decode cX6_inQueue 51 = .ok (.if_icmp .ne 23, 3) := by decide +kernel
theorem dX6_inQueue_54 : decode cX6_inQueue 54 = .ok (.iload 5, 2) := by decide +kernel
theorem dX6_inQueue_56 : decode cX6_inQueue 56 = .ok (.iload_n 3, 1) := by decide +kernel
theorem dX6_inQueue_57 : decode cX6_inQueue 57 = .ok (.if_icmp .eq 17, 3) := by decide +kernel
theorem dX6_inQueue_60 : decode cX6_inQueue 60 = .ok (.aload_n 0, 1) := by decide +kernel
theorem dX6_inQueue_61 : decode cX6_inQueue 61 = .ok (.iload 5, 2) := by decide +kernel
theorem dX6_inQueue_63 : decode cX6_inQueue 63 = .ok (.iload_n 3, 1) := by decide +kernel
theorem dX6_inQueue_64 : decode cX6_inQueue 64 = .ok (.invokevirtual 128, 3) := by decide +kernel
theorem dX6_inQueue_67 : decode cX6_inQueue 67 = .ok (.ifCond .eq 7, 3) := by decide +kernel
theorem dX6_inQueue_70 : decode cX6_inQueue 70 = .ok (.iconst 1, 1) := by decide +kernel
theorem dX6_inQueue_71 : decode cX6_inQueue 71 = .ok (.goto 4, 3) := by decide +kernel
theorem dX6_inQueue_74 : decode cX6_inQueue 74 = .ok (.iconst 0, 1) := by decide +kernel
theorem dX6_inQueue_75 : decode cX6_inQueue 75 = .ok (.iadd, 1) := by decide +kernel
theorem dX6_inQueue_76 : decode cX6_inQueue 76 = .ok (.istore 4, 2) := by decide +kernel
theorem dX6_inQueue_78 : decode cX6_inQueue 78 = .ok (.iinc 5 1, 3) := by decide +kernel
theorem dX6_inQueue_81 : decode cX6_inQueue 81 = .ok (.goto (-52), 3) := by decide +kernel
theorem dX6_inQueue_84 : decode cX6_inQueue 84 = .ok (.iload 4, 2) := by decide +kernel
theorem dX6_inQueue_86 : decode cX6_inQueue 86 = .ok (.iload_n 2, 1) := by decide +kernel
theorem dX6_inQueue_87 : decode cX6_inQueue 87 = .ok (.if_icmp .ne 5, 3) := by decide +kernel
theorem dX6_inQueue_90 : decode cX6_inQueue 90 = .ok (.iload_n 3, 1) := by decide +kernel
theorem dX6_inQueue_91 : decode cX6_inQueue 91 = .ok (.ireturn, 1) := by decide +kernel
theorem dX6_inQueue_92 : decode cX6_inQueue 92 = .ok (.iinc 3 1, 3) := by decide +kernel
theorem dX6_inQueue_95 : decode cX6_inQueue 95 = .ok (.goto (-93), 3) := by decide +kernel
theorem dX6_inQueue_98 : decode cX6_inQueue 98 = .ok (.iconst (-1), 1) := by decide +kernel
theorem dX6_inQueue_99 : decode cX6_inQueue 99 = .ok (.ireturn, 1) := by decide +kernel
theorem dX6_see_0 : decode cX6_see 0 = .ok (.aload_n 0, 1) := by decide +kernel
theorem dX6_see_1 : decode cX6_see 1 = .ok (.getfield 35, 3) := by decide +kernel
theorem dX6_see_4 : decode cX6_see 4 = .ok (.iload_n 1, 1) := by decide +kernel
theorem dX6_see_5 : decode cX6_see 5 = .ok (.iload_n 2, 1) := by decide +kernel
theorem dX6_see_6 : decode cX6_see 6 = .ok (.iastore, 1) := by decide +kernel
theorem dX6_see_7 : decode cX6_see 7 = .ok (.aload_n 0, 1) := by decide +kernel
theorem dX6_see_8 : decode cX6_see 8 = .ok (.getfield 41, 3) := by decide +kernel
theorem dX6_see_11 : decode cX6_see 11 = .ok (.iload_n 1, 1) := by decide +kernel
theorem dX6_see_12 : decode cX6_see 12 = .ok (.iaload, 1) := by decide +kernel
theorem dX6_see_13 : decode cX6_see 13 = .ok (.iload_n 2, 1) := by decide +kernel
theorem dX6_see_14 : decode cX6_see 14 = .ok (.ishr, 1) := by decide +kernel
theorem dX6_see_15 : decode cX6_see 15 = .ok (.iconst 1, 1) := by decide +kernel
theorem dX6_see_16 : decode cX6_see 16 = .ok (.iand, 1) := by decide +kernel
theorem dX6_see_17 : decode cX6_see 17 = .ok (.iconst 1, 1) := by decide +kernel
theorem dX6_see_18 : decode cX6_see 18 = .ok (.if_icmp .ne 4, 3) := by decide +kernel
theorem dX6_see_21 : decode cX6_see 21 = .ok (.return_, 1) := by decide +kernel
theorem dX6_see_22 : decode cX6_see 22 = .ok (.aload_n 0, 1) := by decide +kernel
theorem dX6_see_23 : decode cX6_see 23 = .ok (.getfield 41, 3) := by decide +kernel
theorem dX6_see_26 : decode cX6_see 26 = .ok (.iload_n 1, 1) := by decide +kernel
theorem dX6_see_27 : decode cX6_see 27 = .ok (.dup2, 1) := by decide +kernel
theorem dX6_see_28 : decode cX6_see 28 = .ok (.iaload, 1) := by decide +kernel
theorem dX6_see_29 : decode cX6_see 29 = .ok (.iconst 1, 1) := by decide +kernel
theorem dX6_see_30 : decode cX6_see 30 = .ok (.iload_n 2, 1) := by decide +kernel
theorem dX6_see_31 : decode cX6_see 31 = .ok (.ishl, 1) := by decide +kernel
theorem dX6_see_32 : decode cX6_see 32 = .ok (.ior, 1) := by decide +kernel
theorem dX6_see_33 : decode cX6_see 33 = .ok (.iastore, 1) := by decide +kernel
theorem dX6_see_34 : decode cX6_see 34 = .ok (.iconst 0, 1) := by decide +kernel
theorem dX6_see_35 : decode cX6_see 35 = .ok (.istore_n 3, 1) := by decide +kernel
theorem dX6_see_36 : decode cX6_see 36 = .ok (.iload_n 3, 1) := by decide +kernel
theorem dX6_see_37 : decode cX6_see 37 = .ok (.aload_n 0, 1) := by decide +kernel
theorem dX6_see_38 : decode cX6_see 38 = .ok (.getfield 91, 3) := by decide +kernel
theorem dX6_see_41 : decode cX6_see 41 = .ok (.if_icmp .ge 120, 3) := by decide +kernel
theorem dX6_see_44 : decode cX6_see 44 = .ok (.aload_n 0, 1) := by decide +kernel
theorem dX6_see_45 : decode cX6_see 45 = .ok (.getfield 53, 3) := by decide +kernel
theorem dX6_see_48 : decode cX6_see 48 = .ok (.iload_n 3, 1) := by decide +kernel
theorem dX6_see_49 : decode cX6_see 49 = .ok (.iaload, 1) := by decide +kernel
theorem dX6_see_50 : decode cX6_see 50 = .ok (.iload_n 2, 1) := by decide +kernel
theorem dX6_see_51 : decode cX6_see 51 = .ok (.if_icmp .ne 104, 3) := by decide +kernel
theorem dX6_see_54 : decode cX6_see 54 = .ok (.aload_n 0, 1) := by decide +kernel
theorem dX6_see_55 : decode cX6_see 55 = .ok (.getfield 68, 3) := by decide +kernel
theorem dX6_see_58 : decode cX6_see 58 = .ok (.iload_n 3, 1) := by decide +kernel
theorem dX6_see_59 : decode cX6_see 59 = .ok (.dup2, 1) := by decide +kernel
theorem dX6_see_60 : decode cX6_see 60 = .ok (.iaload, 1) := by decide +kernel
theorem dX6_see_61 : decode cX6_see 61 = .ok (.iconst 1, 1) := by decide +kernel
theorem dX6_see_62 : decode cX6_see 62 = .ok (.iadd, 1) := by decide +kernel
theorem dX6_see_63 : decode cX6_see 63 = .ok (.iastore, 1) := by decide +kernel
theorem dX6_see_64 : decode cX6_see 64 = .ok (.aload_n 0, 1) := by decide +kernel
theorem dX6_see_65 : decode cX6_see 65 = .ok (.getfield 71, 3) := by decide +kernel
theorem dX6_see_68 : decode cX6_see 68 = .ok (.iload_n 2, 1) := by decide +kernel
theorem dX6_see_69 : decode cX6_see 69 = .ok (.iconst 3, 1) := by decide +kernel
theorem dX6_see_70 : decode cX6_see 70 = .ok (.idiv, 1) := by decide +kernel
theorem dX6_see_71 : decode cX6_see 71 = .ok (.dup2, 1) := by decide +kernel
theorem dX6_see_72 : decode cX6_see 72 = .ok (.iaload, 1) := by decide +kernel
theorem dX6_see_73 : decode cX6_see 73 = .ok (.aload_n 0, 1) := by decide +kernel
theorem dX6_see_74 : decode cX6_see 74 = .ok (.getfield 56, 3) := by decide +kernel
theorem dX6_see_77 : decode cX6_see 77 = .ok (.iload_n 3, 1) := by decide +kernel
theorem dX6_see_78 : decode cX6_see 78 = .ok (.baload, 1) := by decide +kernel
theorem dX6_see_79 : decode cX6_see 79 = .ok (.ifCond .eq 12, 3) := by decide +kernel
theorem dX6_see_82 : decode cX6_see 82 = .ok (.aload_n 0, 1) := by decide +kernel
theorem dX6_see_83 : decode cX6_see 83 = .ok (.getfield 59, 3) := by decide +kernel
theorem dX6_see_86 : decode cX6_see 86 = .ok (.iload_n 3, 1) := by decide +kernel
theorem dX6_see_87 : decode cX6_see 87 = .ok (.iaload, 1) := by decide +kernel
theorem dX6_see_88 : decode cX6_see 88 = .ok (.goto 4, 3) := by decide +kernel
theorem dX6_see_91 : decode cX6_see 91 = .ok (.iconst 0, 1) := by decide +kernel
theorem dX6_see_92 : decode cX6_see 92 = .ok (.isub, 1) := by decide +kernel
theorem dX6_see_93 : decode cX6_see 93 = .ok (.iastore, 1) := by decide +kernel
theorem dX6_see_94 : decode cX6_see 94 = .ok (.aload_n 0, 1) := by decide +kernel
theorem dX6_see_95 : decode cX6_see 95 = .ok (.getfield 71, 3) := by decide +kernel
theorem dX6_see_98 : decode cX6_see 98 = .ok (.aload_n 0, 1) := by decide +kernel
theorem dX6_see_99 : decode cX6_see 99 = .ok (.getfield 50, 3) := by decide +kernel
theorem dX6_see_102 : decode cX6_see 102 = .ok (.iload_n 3, 1) := by decide +kernel
theorem dX6_see_103 : decode cX6_see 103 = .ok (.iaload, 1) := by decide +kernel
theorem dX6_see_104 : decode cX6_see 104 = .ok (.dup2, 1) := by decide +kernel
theorem dX6_see_105 : decode cX6_see 105 = .ok (.iaload, 1) := by decide +kernel
theorem dX6_see_106 : decode cX6_see 106 = .ok (.aload_n 0, 1) := by decide +kernel
theorem dX6_see_107 : decode cX6_see 107 = .ok (.getfield 56, 3) := by decide +kernel
theorem dX6_see_110 : decode cX6_see 110 = .ok (.iload_n 3, 1) := by decide +kernel
theorem dX6_see_111 : decode cX6_see 111 = .ok (.baload, 1) := by decide +kernel
theorem dX6_see_112 : decode cX6_see 112 = .ok (.ifCond .eq 12, 3) := by decide +kernel
theorem dX6_see_115 : decode cX6_see 115 = .ok (.aload_n 0, 1) := by decide +kernel
theorem dX6_see_116 : decode cX6_see 116 = .ok (.getfield 59, 3) := by decide +kernel
theorem dX6_see_119 : decode cX6_see 119 = .ok (.iload_n 3, 1) := by decide +kernel
theorem dX6_see_120 : decode cX6_see 120 = .ok (.iaload, 1) := by decide +kernel
theorem dX6_see_121 : decode cX6_see 121 = .ok (.goto 4, 3) := by decide +kernel
theorem dX6_see_124 : decode cX6_see 124 = .ok (.iconst 0, 1) := by decide +kernel
theorem dX6_see_125 : decode cX6_see 125 = .ok (.iadd, 1) := by decide +kernel
theorem dX6_see_126 : decode cX6_see 126 = .ok (.iastore, 1) := by decide +kernel
theorem dX6_see_127 : decode cX6_see 127 = .ok (.aload_n 0, 1) := by decide +kernel
theorem dX6_see_128 : decode cX6_see 128 = .ok (.getfield 62, 3) := by decide +kernel
theorem dX6_see_131 : decode cX6_see 131 = .ok (.iload_n 3, 1) := by decide +kernel
theorem dX6_see_132 : decode cX6_see 132 = .ok (.dup2, 1) := by decide +kernel
theorem dX6_see_133 : decode cX6_see 133 = .ok (.iaload, 1) := by decide +kernel
theorem dX6_see_134 : decode cX6_see 134 = .ok (.aload_n 0, 1) := by decide +kernel
theorem dX6_see_135 : decode cX6_see 135 = .ok (.getfield 56, 3) := by decide +kernel
theorem dX6_see_138 : decode cX6_see 138 = .ok (.iload_n 3, 1) := by decide +kernel
theorem dX6_see_139 : decode cX6_see 139 = .ok (.baload, 1) := by decide +kernel
theorem dX6_see_140 : decode cX6_see 140 = .ok (.ifCond .eq 12, 3) := by decide +kernel
theorem dX6_see_143 : decode cX6_see 143 = .ok (.aload_n 0, 1) := by decide +kernel
theorem dX6_see_144 : decode cX6_see 144 = .ok (.getfield 59, 3) := by decide +kernel
theorem dX6_see_147 : decode cX6_see 147 = .ok (.iload_n 3, 1) := by decide +kernel
theorem dX6_see_148 : decode cX6_see 148 = .ok (.iaload, 1) := by decide +kernel
theorem dX6_see_149 : decode cX6_see 149 = .ok (.goto 4, 3) := by decide +kernel
theorem dX6_see_152 : decode cX6_see 152 = .ok (.iconst 0, 1) := by decide +kernel
theorem dX6_see_153 : decode cX6_see 153 = .ok (.iadd, 1) := by decide +kernel
theorem dX6_see_154 : decode cX6_see 154 = .ok (.iastore, 1) := by decide +kernel
theorem dX6_see_155 : decode cX6_see 155 = .ok (.iinc 3 1, 3) := by decide +kernel
theorem dX6_see_158 : decode cX6_see 158 = .ok (.goto (-122), 3) := by decide +kernel
theorem dX6_see_161 : decode cX6_see 161 = .ok (.return_, 1) := by decide +kernel
theorem dX6_letIn_0 : decode cX6_letIn 0 = .ok (.aload_n 0, 1) := by decide +kernel
theorem dX6_letIn_1 : decode cX6_letIn 1 = .ok (.iload_n 1, 1) := by decide +kernel
theorem dX6_letIn_2 : decode cX6_letIn 2 = .ok (.iconst 0, 1) := by decide +kernel
theorem dX6_letIn_3 : decode cX6_letIn 3 = .ok (.invokevirtual 131, 3) := by decide +kernel
theorem dX6_letIn_6 : decode cX6_letIn 6 = .ok (.istore_n 2, 1) := by decide +kernel
theorem dX6_letIn_7 : decode cX6_letIn 7 = .ok (.iload_n 2, 1) := by decide +kernel
theorem dX6_letIn_8 : decode cX6_letIn 8 = .ok (.iconst (-1), 1) := by decide +kernel
theorem dX6_letIn_9 : decode cX6_letIn 9 = .ok (.if_icmp .eq 33, 3) := by decide +kernel
theorem dX6_letIn_12 : decode cX6_letIn 12 = .ok (.aload_n 0, 1) := by decide +kernel
theorem dX6_letIn_13 : decode cX6_letIn 13 = .ok (.iload_n 1, 1) := by decide +kernel
theorem dX6_letIn_14 : decode cX6_letIn 14 = .ok (.invokevirtual 134, 3) := by decide +kernel
theorem dX6_letIn_17 : decode cX6_letIn 17 = .ok (.aload_n 0, 1) := by decide +kernel
theorem dX6_letIn_18 : decode cX6_letIn 18 = .ok (.getfield 44, 3) := by decide +kernel
theorem dX6_letIn_21 : decode cX6_letIn 21 = .ok (.iload_n 1, 1) := by decide +kernel
theorem dX6_letIn_22 : decode cX6_letIn 22 = .ok (.iaload, 1) := by decide +kernel
theorem dX6_letIn_23 : decode cX6_letIn 23 = .ok (.if_icmp .ge 19, 3) := by decide +kernel
theorem dX6_letIn_26 : decode cX6_letIn 26 = .ok (.aload_n 0, 1) := by decide +kernel
theorem dX6_letIn_27 : decode cX6_letIn 27 = .ok (.iload_n 2, 1) := by decide +kernel
theorem dX6_letIn_28 : decode cX6_letIn 28 = .ok (.iload_n 1, 1) := by decide +kernel
theorem dX6_letIn_29 : decode cX6_letIn 29 = .ok (.invokevirtual 138, 3) := by decide +kernel
theorem dX6_letIn_32 : decode cX6_letIn 32 = .ok (.aload_n 0, 1) := by decide +kernel
theorem dX6_letIn_33 : decode cX6_letIn 33 = .ok (.iload_n 1, 1) := by decide +kernel
theorem dX6_letIn_34 : decode cX6_letIn 34 = .ok (.iconst 0, 1) := by decide +kernel
theorem dX6_letIn_35 : decode cX6_letIn 35 = .ok (.invokevirtual 131, 3) := by decide +kernel
theorem dX6_letIn_38 : decode cX6_letIn 38 = .ok (.istore_n 2, 1) := by decide +kernel
theorem dX6_letIn_39 : decode cX6_letIn 39 = .ok (.goto (-32), 3) := by decide +kernel
theorem dX6_letIn_42 : decode cX6_letIn 42 = .ok (.return_, 1) := by decide +kernel
theorem dX6_setCap_0 : decode cX6_setCap 0 = .ok (.aload_n 0, 1) := by decide +kernel
theorem dX6_setCap_1 : decode cX6_setCap 1 = .ok (.iload_n 1, 1) := by decide +kernel
theorem dX6_setCap_2 : decode cX6_setCap 2 = .ok (.invokestatic 142, 3) := by decide +kernel
theorem dX6_setCap_5 : decode cX6_setCap 5 = .ok (.ifCond .ne 7, 3) := by decide +kernel
theorem dX6_setCap_8 : decode cX6_setCap 8 = .ok (.iconst 1, 1) := by decide +kernel
theorem dX6_setCap_9 : decode cX6_setCap 9 = .ok (.goto 18, 3) := by decide +kernel
theorem dX6_setCap_12 : decode cX6_setCap 12 = .ok (.iload_n 2, 1) := by decide +kernel
theorem dX6_setCap_13 : decode cX6_setCap 13 = .ok (.iconst 0, 1) := by decide +kernel
theorem dX6_setCap_14 : decode cX6_setCap 14 = .ok (.bipush 20, 2) := by decide +kernel
theorem dX6_setCap_16 : decode cX6_setCap 16 = .ok (.invokestatic 84, 3) := by decide +kernel
theorem dX6_setCap_19 : decode cX6_setCap 19 = .ok (.ifCond .ne 7, 3) := by decide +kernel
theorem dX6_setCap_22 : decode cX6_setCap 22 = .ok (.iconst 2, 1) := by decide +kernel
theorem dX6_setCap_23 : decode cX6_setCap 23 = .ok (.goto 4, 3) := by decide +kernel
theorem dX6_setCap_26 : decode cX6_setCap 26 = .ok (.iconst 0, 1) := by decide +kernel
theorem dX6_setCap_27 : decode cX6_setCap 27 = .ok (.putfield 81, 3) := by decide +kernel
theorem dX6_setCap_30 : decode cX6_setCap 30 = .ok (.aload_n 0, 1) := by decide +kernel
theorem dX6_setCap_31 : decode cX6_setCap 31 = .ok (.getfield 81, 3) := by decide +kernel
theorem dX6_setCap_34 : decode cX6_setCap 34 = .ok (.ifCond .le 5, 3) := by decide +kernel
theorem dX6_setCap_37 : decode cX6_setCap 37 = .ok (.iconst 0, 1) := by decide +kernel
theorem dX6_setCap_38 : decode cX6_setCap 38 = .ok (.ireturn, 1) := by decide +kernel
theorem dX6_setCap_39 : decode cX6_setCap 39 = .ok (.aload_n 0, 1) := by decide +kernel
theorem dX6_setCap_40 : decode cX6_setCap 40 = .ok (.getfield 44, 3) := by decide +kernel
theorem dX6_setCap_43 : decode cX6_setCap 43 = .ok (.iload_n 1, 1) := by decide +kernel
theorem dX6_setCap_44 : decode cX6_setCap 44 = .ok (.iload_n 2, 1) := by decide +kernel
theorem dX6_setCap_45 : decode cX6_setCap 45 = .ok (.iastore, 1) := by decide +kernel
theorem dX6_setCap_46 : decode cX6_setCap 46 = .ok (.aload_n 0, 1) := by decide +kernel
theorem dX6_setCap_47 : decode cX6_setCap 47 = .ok (.iload_n 1, 1) := by decide +kernel
theorem dX6_setCap_48 : decode cX6_setCap 48 = .ok (.invokevirtual 145, 3) := by decide +kernel
theorem dX6_setCap_51 : decode cX6_setCap 51 = .ok (.aload_n 0, 1) := by decide +kernel
theorem dX6_setCap_52 : decode cX6_setCap 52 = .ok (.iload_n 1, 1) := by decide +kernel
theorem dX6_setCap_53 : decode cX6_setCap 53 = .ok (.invokevirtual 134, 3) := by decide +kernel
theorem dX6_setCap_56 : decode cX6_setCap 56 = .ok (.ireturn, 1) := by decide +kernel
theorem dX6_clear_0 : decode cX6_clear 0 = .ok (.iconst 0, 1) := by decide +kernel
theorem dX6_clear_1 : decode cX6_clear 1 = .ok (.istore_n 2, 1) := by decide +kernel
theorem dX6_clear_2 : decode cX6_clear 2 = .ok (.iconst 0, 1) := by decide +kernel
theorem dX6_clear_3 : decode cX6_clear 3 = .ok (.istore_n 3, 1) := by decide +kernel
theorem dX6_clear_4 : decode cX6_clear 4 = .ok (.iload_n 3, 1) := by decide +kernel
theorem dX6_clear_5 : decode cX6_clear 5 = .ok (.aload_n 0, 1) := by decide +kernel
theorem dX6_clear_6 : decode cX6_clear 6 = .ok (.getfield 88, 3) := by decide +kernel
theorem dX6_clear_9 : decode cX6_clear 9 = .ok (.if_icmp .ge 42, 3) := by decide +kernel
theorem dX6_clear_12 : decode cX6_clear 12 = .ok (.aload_n 0, 1) := by decide +kernel
theorem dX6_clear_13 : decode cX6_clear 13 = .ok (.getfield 35, 3) := by decide +kernel
theorem dX6_clear_16 : decode cX6_clear 16 = .ok (.iload_n 3, 1) := by decide +kernel
theorem dX6_clear_17 : decode cX6_clear 17 = .ok (.iaload, 1) := by decide +kernel
theorem dX6_clear_18 : decode cX6_clear 18 = .ok (.iload_n 1, 1) := by decide +kernel
theorem dX6_clear_19 : decode cX6_clear 19 = .ok (.if_icmp .eq 16, 3) := by decide +kernel
theorem dX6_clear_22 : decode cX6_clear 22 = .ok (.aload_n 0, 1) := by decide +kernel
theorem dX6_clear_23 : decode cX6_clear 23 = .ok (.getfield 35, 3) := by decide +kernel
theorem dX6_clear_26 : decode cX6_clear 26 = .ok (.iload_n 3, 1) := by decide +kernel
theorem dX6_clear_27 : decode cX6_clear 27 = .ok (.iaload, 1) := by decide +kernel
theorem dX6_clear_28 : decode cX6_clear 28 = .ok (.bipush 100, 2) := by decide +kernel
theorem dX6_clear_30 : decode cX6_clear 30 = .ok (.iload_n 1, 1) := by decide +kernel
theorem dX6_clear_31 : decode cX6_clear 31 = .ok (.iadd, 1) := by decide +kernel
theorem dX6_clear_32 : decode cX6_clear 32 = .ok (.if_icmp .ne 13, 3) := by decide +kernel
theorem dX6_clear_35 : decode cX6_clear 35 = .ok (.aload_n 0, 1) := by decide +kernel
theorem dX6_clear_36 : decode cX6_clear 36 = .ok (.getfield 35, 3) := by decide +kernel
theorem dX6_clear_39 : decode cX6_clear 39 = .ok (.iload_n 3, 1) := by decide +kernel
theorem dX6_clear_40 : decode cX6_clear 40 = .ok (.iconst (-1), 1) := by decide +kernel
theorem dX6_clear_41 : decode cX6_clear 41 = .ok (.iastore, 1) := by decide +kernel
theorem dX6_clear_42 : decode cX6_clear 42 = .ok (.iinc 2 1, 3) := by decide +kernel
theorem dX6_clear_45 : decode cX6_clear 45 = .ok (.iinc 3 1, 3) := by decide +kernel
theorem dX6_clear_48 : decode cX6_clear 48 = .ok (.goto (-44), 3) := by decide +kernel
theorem dX6_clear_51 : decode cX6_clear 51 = .ok (.iload_n 2, 1) := by decide +kernel
theorem dX6_clear_52 : decode cX6_clear 52 = .ok (.ireturn, 1) := by decide +kernel
theorem dX6_close_0 : decode cX6_close 0 = .ok (.aload_n 0, 1) := by decide +kernel
theorem dX6_close_1 : decode cX6_close 1 = .ok (.iload_n 1, 1) := by decide +kernel
theorem dX6_close_2 : decode cX6_close 2 = .ok (.invokestatic 142, 3) := by decide +kernel
theorem dX6_close_5 : decode cX6_close 5 = .ok (.ifCond .eq 7, 3) := by decide +kernel
theorem dX6_close_8 : decode cX6_close 8 = .ok (.iconst 0, 1) := by decide +kernel
theorem dX6_close_9 : decode cX6_close 9 = .ok (.goto 4, 3) := by decide +kernel
theorem dX6_close_12 : decode cX6_close 12 = .ok (.iconst 1, 1) := by decide +kernel
theorem dX6_close_13 : decode cX6_close 13 = .ok (.putfield 81, 3) := by decide +kernel
theorem dX6_close_16 : decode cX6_close 16 = .ok (.aload_n 0, 1) := by decide +kernel
theorem dX6_close_17 : decode cX6_close 17 = .ok (.getfield 81, 3) := by decide +kernel
theorem dX6_close_20 : decode cX6_close 20 = .ok (.ifCond .le 5, 3) := by decide +kernel
theorem dX6_close_23 : decode cX6_close 23 = .ok (.iconst 0, 1) := by decide +kernel
theorem dX6_close_24 : decode cX6_close 24 = .ok (.ireturn, 1) := by decide +kernel
theorem dX6_close_25 : decode cX6_close 25 = .ok (.aload_n 0, 1) := by decide +kernel
theorem dX6_close_26 : decode cX6_close 26 = .ok (.getfield 47, 3) := by decide +kernel
theorem dX6_close_29 : decode cX6_close 29 = .ok (.iload_n 1, 1) := by decide +kernel
theorem dX6_close_30 : decode cX6_close 30 = .ok (.iload_n 2, 1) := by decide +kernel
theorem dX6_close_31 : decode cX6_close 31 = .ok (.bastore, 1) := by decide +kernel
theorem dX6_close_32 : decode cX6_close 32 = .ok (.iload_n 2, 1) := by decide +kernel
theorem dX6_close_33 : decode cX6_close 33 = .ok (.ifCond .eq 11, 3) := by decide +kernel
theorem dX6_close_36 : decode cX6_close 36 = .ok (.aload_n 0, 1) := by decide +kernel
theorem dX6_close_37 : decode cX6_close 37 = .ok (.iload_n 1, 1) := by decide +kernel
theorem dX6_close_38 : decode cX6_close 38 = .ok (.invokevirtual 149, 3) := by decide +kernel
theorem dX6_close_41 : decode cX6_close 41 = .ok (.goto 4, 3) := by decide +kernel
theorem dX6_close_44 : decode cX6_close 44 = .ok (.iconst 0, 1) := by decide +kernel
theorem dX6_close_45 : decode cX6_close 45 = .ok (.ireturn, 1) := by decide +kernel
theorem dX6_enter_0 : decode cX6_enter 0 = .ok (.aload_n 0, 1) := by decide +kernel
theorem dX6_enter_1 : decode cX6_enter 1 = .ok (.aload_n 0, 1) := by decide +kernel
theorem dX6_enter_2 : decode cX6_enter 2 = .ok (.iload_n 1, 1) := by decide +kernel
theorem dX6_enter_3 : decode cX6_enter 3 = .ok (.invokevirtual 121, 3) := by decide +kernel
theorem dX6_enter_6 : decode cX6_enter 6 = .ok (.ifCond .eq 10, 3) := by decide +kernel
theorem dX6_enter_9 : decode cX6_enter 9 = .ok (.iload_n 2, 1) := by decide +kernel
theorem dX6_enter_10 : decode cX6_enter 10 = .ok (.invokestatic 142, 3) := by decide +kernel
theorem dX6_enter_13 : decode cX6_enter 13 = .ok (.ifCond .ne 7, 3) := by decide +kernel
theorem dX6_enter_16 : decode cX6_enter 16 = .ok (.iconst 1, 1) := by decide +kernel
theorem dX6_enter_17 : decode cX6_enter 17 = .ok (.goto 46, 3) := by decide +kernel
theorem dX6_enter_20 : decode cX6_enter 20 = .ok (.aload_n 0, 1) := by decide +kernel
theorem dX6_enter_21 : decode cX6_enter 21 = .ok (.iload_n 1, 1) := by decide +kernel
theorem dX6_enter_22 : decode cX6_enter 22 = .ok (.invokevirtual 108, 3) := by decide +kernel
theorem dX6_enter_25 : decode cX6_enter 25 = .ok (.ifCond .eq 33, 3) := by decide +kernel
theorem dX6_enter_28 : decode cX6_enter 28 = .ok (.aload_n 0, 1) := by decide +kernel
theorem dX6_enter_29 : decode cX6_enter 29 = .ok (.iload_n 1, 1) := by decide +kernel
theorem dX6_enter_30 : decode cX6_enter 30 = .ok (.iload_n 2, 1) := by decide +kernel
theorem dX6_enter_31 : decode cX6_enter 31 = .ok (.iconst 3, 1) := by decide +kernel
theorem dX6_enter_32 : decode cX6_enter 32 = .ok (.idiv, 1) := by decide +kernel
theorem dX6_enter_33 : decode cX6_enter 33 = .ok (.invokevirtual 124, 3) := by decide +kernel
theorem dX6_enter_36 : decode cX6_enter 36 = .ok (.ifCond .eq 22, 3) := by decide +kernel
theorem dX6_enter_39 : decode cX6_enter 39 = .ok (.aload_n 0, 1) := by decide +kernel
theorem dX6_enter_40 : decode cX6_enter 40 = .ok (.getfield 35, 3) := by decide +kernel
theorem dX6_enter_43 : decode cX6_enter 43 = .ok (.iload_n 1, 1) := by decide +kernel
theorem dX6_enter_44 : decode cX6_enter 44 = .ok (.iaload, 1) := by decide +kernel
theorem dX6_enter_45 : decode cX6_enter 45 = .ok (.iconst (-1), 1) := by decide +kernel
theorem dX6_enter_46 : decode cX6_enter 46 = .ok (.if_icmp .ne 12, 3) := by decide +kernel
theorem dX6_enter_49 : decode cX6_enter 49 = .ok (.aload_n 0, 1) := by decide +kernel
theorem dX6_enter_50 : decode cX6_enter 50 = .ok (.getfield 47, 3) := by decide +kernel
theorem dX6_enter_53 : decode cX6_enter 53 = .ok (.iload_n 2, 1) := by decide +kernel
theorem dX6_enter_54 : decode cX6_enter 54 = .ok (.baload, 1) := by decide +kernel
theorem dX6_enter_55 : decode cX6_enter 55 = .ok (.ifCond .eq 7, 3) := by decide +kernel
theorem dX6_enter_58 : decode cX6_enter 58 = .ok (.iconst 2, 1) := by decide +kernel
theorem dX6_enter_59 : decode cX6_enter 59 = .ok (.goto 4, 3) := by decide +kernel
theorem dX6_enter_62 : decode cX6_enter 62 = .ok (.iconst 0, 1) := by decide +kernel
theorem dX6_enter_63 : decode cX6_enter 63 = .ok (.putfield 81, 3) := by decide +kernel
theorem dX6_enter_66 : decode cX6_enter 66 = .ok (.aload_n 0, 1) := by decide +kernel
theorem dX6_enter_67 : decode cX6_enter 67 = .ok (.getfield 81, 3) := by decide +kernel
theorem dX6_enter_70 : decode cX6_enter 70 = .ok (.ifCond .le 5, 3) := by decide +kernel
theorem dX6_enter_73 : decode cX6_enter 73 = .ok (.iconst 0, 1) := by decide +kernel
theorem dX6_enter_74 : decode cX6_enter 74 = .ok (.ireturn, 1) := by decide +kernel
theorem dX6_enter_75 : decode cX6_enter 75 = .ok (.aload_n 0, 1) := by decide +kernel
theorem dX6_enter_76 : decode cX6_enter 76 = .ok (.iload_n 2, 1) := by decide +kernel
theorem dX6_enter_77 : decode cX6_enter 77 = .ok (.invokevirtual 134, 3) := by decide +kernel
theorem dX6_enter_80 : decode cX6_enter 80 = .ok (.aload_n 0, 1) := by decide +kernel
theorem dX6_enter_81 : decode cX6_enter 81 = .ok (.getfield 44, 3) := by decide +kernel
theorem dX6_enter_84 : decode cX6_enter 84 = .ok (.iload_n 2, 1) := by decide +kernel
theorem dX6_enter_85 : decode cX6_enter 85 = .ok (.iaload, 1) := by decide +kernel
theorem dX6_enter_86 : decode cX6_enter 86 = .ok (.if_icmp .ge 17, 3) := by decide +kernel
theorem dX6_enter_89 : decode cX6_enter 89 = .ok (.aload_n 0, 1) := by decide +kernel
theorem dX6_enter_90 : decode cX6_enter 90 = .ok (.iload_n 2, 1) := by decide +kernel
theorem dX6_enter_91 : decode cX6_enter 91 = .ok (.iconst 0, 1) := by decide +kernel
theorem dX6_enter_92 : decode cX6_enter 92 = .ok (.invokevirtual 131, 3) := by decide +kernel
theorem dX6_enter_95 : decode cX6_enter 95 = .ok (.iconst (-1), 1) := by decide +kernel
theorem dX6_enter_96 : decode cX6_enter 96 = .ok (.if_icmp .ne 7, 3) := by decide +kernel
theorem dX6_enter_99 : decode cX6_enter 99 = .ok (.iconst 1, 1) := by decide +kernel
theorem dX6_enter_100 : decode cX6_enter 100 = .ok (.goto 4, 3) := by decide +kernel
theorem dX6_enter_103 : decode cX6_enter 103 = .ok (.iconst 0, 1) := by decide +kernel
theorem dX6_enter_104 : decode cX6_enter 104 = .ok (.istore_n 3, 1) := by decide +kernel
theorem dX6_enter_105 : decode cX6_enter 105 = .ok (.iload_n 3, 1) := by decide +kernel
theorem dX6_enter_106 : decode cX6_enter 106 = .ok (.ifCond .eq 12, 3) := by decide +kernel
theorem dX6_enter_109 : decode cX6_enter 109 = .ok (.aload_n 0, 1) := by decide +kernel
theorem dX6_enter_110 : decode cX6_enter 110 = .ok (.iload_n 1, 1) := by decide +kernel
theorem dX6_enter_111 : decode cX6_enter 111 = .ok (.iload_n 2, 1) := by decide +kernel
theorem dX6_enter_112 : decode cX6_enter 112 = .ok (.invokevirtual 138, 3) := by decide +kernel
theorem dX6_enter_115 : decode cX6_enter 115 = .ok (.goto 33, 3) := by decide +kernel
theorem dX6_enter_118 : decode cX6_enter 118 = .ok (.aload_n 0, 1) := by decide +kernel
theorem dX6_enter_119 : decode cX6_enter 119 = .ok (.getfield 35, 3) := by decide +kernel
theorem dX6_enter_122 : decode cX6_enter 122 = .ok (.iload_n 1, 1) := by decide +kernel
theorem dX6_enter_123 : decode cX6_enter 123 = .ok (.bipush 100, 2) := by decide +kernel
theorem dX6_enter_125 : decode cX6_enter 125 = .ok (.iload_n 2, 1) := by decide +kernel
theorem dX6_enter_126 : decode cX6_enter 126 = .ok (.iadd, 1) := by decide +kernel
theorem dX6_enter_127 : decode cX6_enter 127 = .ok (.iastore, 1) := by decide +kernel
theorem dX6_enter_128 : decode cX6_enter 128 = .ok (.aload_n 0, 1) := by decide +kernel
theorem dX6_enter_129 : decode cX6_enter 129 = .ok (.getfield 38, 3) := by decide +kernel
theorem dX6_enter_132 : decode cX6_enter 132 = .ok (.iload_n 1, 1) := by decide +kernel
theorem dX6_enter_133 : decode cX6_enter 133 = .ok (.aload_n 0, 1) := by decide +kernel
theorem dX6_enter_134 : decode cX6_enter 134 = .ok (.getfield 152, 3) := by decide +kernel
theorem dX6_enter_137 : decode cX6_enter 137 = .ok (.iastore, 1) := by decide +kernel
theorem dX6_enter_138 : decode cX6_enter 138 = .ok (.aload_n 0, 1) := by decide +kernel
theorem dX6_enter_139 : decode cX6_enter 139 = .ok (.dup, 1) := by decide +kernel
theorem dX6_enter_140 : decode cX6_enter 140 = .ok (.getfield 152, 3) := by decide +kernel
theorem dX6_enter_143 : decode cX6_enter 143 = .ok (.iconst 1, 1) := by decide +kernel
theorem dX6_enter_144 : decode cX6_enter 144 = .ok (.iadd, 1) := by decide +kernel
theorem dX6_enter_145 : decode cX6_enter 145 = .ok (.putfield 152, 3) := by decide +kernel
theorem dX6_enter_148 : decode cX6_enter 148 = .ok (.iload_n 3, 1) := by decide +kernel
theorem dX6_enter_149 : decode cX6_enter 149 = .ok (.ireturn, 1) := by decide +kernel
theorem dX6_goOut_0 : decode cX6_goOut 0 = .ok (.aload_n 0, 1) := by decide +kernel
theorem dX6_goOut_1 : decode cX6_goOut 1 = .ok (.aload_n 0, 1) := by decide +kernel
theorem dX6_goOut_2 : decode cX6_goOut 2 = .ok (.iload_n 1, 1) := by decide +kernel
theorem dX6_goOut_3 : decode cX6_goOut 3 = .ok (.invokevirtual 121, 3) := by decide +kernel
theorem dX6_goOut_6 : decode cX6_goOut 6 = .ok (.ifCond .ne 7, 3) := by decide +kernel
theorem dX6_goOut_9 : decode cX6_goOut 9 = .ok (.iconst 1, 1) := by decide +kernel
theorem dX6_goOut_10 : decode cX6_goOut 10 = .ok (.goto 18, 3) := by decide +kernel
theorem dX6_goOut_13 : decode cX6_goOut 13 = .ok (.aload_n 0, 1) := by decide +kernel
theorem dX6_goOut_14 : decode cX6_goOut 14 = .ok (.getfield 35, 3) := by decide +kernel
theorem dX6_goOut_17 : decode cX6_goOut 17 = .ok (.iload_n 1, 1) := by decide +kernel
theorem dX6_goOut_18 : decode cX6_goOut 18 = .ok (.iaload, 1) := by decide +kernel
theorem dX6_goOut_19 : decode cX6_goOut 19 = .ok (.iconst (-1), 1) := by decide +kernel
theorem dX6_goOut_20 : decode cX6_goOut 20 = .ok (.if_icmp .ne 7, 3) := by decide +kernel
theorem dX6_goOut_23 : decode cX6_goOut 23 = .ok (.iconst 2, 1) := by decide +kernel
theorem dX6_goOut_24 : decode cX6_goOut 24 = .ok (.goto 4, 3) := by decide +kernel
theorem dX6_goOut_27 : decode cX6_goOut 27 = .ok (.iconst 0, 1) := by decide +kernel
theorem dX6_goOut_28 : decode cX6_goOut 28 = .ok (.putfield 81, 3) := by decide +kernel
theorem dX6_goOut_31 : decode cX6_goOut 31 = .ok (.aload_n 0, 1) := by decide +kernel
theorem dX6_goOut_32 : decode cX6_goOut 32 = .ok (.getfield 81, 3) := by decide +kernel
theorem dX6_goOut_35 : decode cX6_goOut 35 = .ok (.ifCond .le 5, 3) := by decide +kernel
theorem dX6_goOut_38 : decode cX6_goOut 38 = .ok (.iconst 0, 1) := by decide +kernel
theorem dX6_goOut_39 : decode cX6_goOut 39 = .ok (.ireturn, 1) := by decide +kernel
theorem dX6_goOut_40 : decode cX6_goOut 40 = .ok (.aload_n 0, 1) := by decide +kernel
theorem dX6_goOut_41 : decode cX6_goOut 41 = .ok (.getfield 35, 3) := by decide +kernel
theorem dX6_goOut_44 : decode cX6_goOut 44 = .ok (.iload_n 1, 1) := by decide +kernel
theorem dX6_goOut_45 : decode cX6_goOut 45 = .ok (.iaload, 1) := by decide +kernel
theorem dX6_goOut_46 : decode cX6_goOut 46 = .ok (.bipush 100, 2) := by decide +kernel
theorem dX6_goOut_48 : decode cX6_goOut 48 = .ok (.irem, 1) := by decide +kernel
theorem dX6_goOut_49 : decode cX6_goOut 49 = .ok (.istore_n 2, 1) := by decide +kernel
theorem dX6_goOut_50 : decode cX6_goOut 50 = .ok (.aload_n 0, 1) := by decide +kernel
theorem dX6_goOut_51 : decode cX6_goOut 51 = .ok (.getfield 35, 3) := by decide +kernel
theorem dX6_goOut_54 : decode cX6_goOut 54 = .ok (.iload_n 1, 1) := by decide +kernel
theorem dX6_goOut_55 : decode cX6_goOut 55 = .ok (.iconst (-1), 1) := by decide +kernel
theorem dX6_goOut_56 : decode cX6_goOut 56 = .ok (.iastore, 1) := by decide +kernel
theorem dX6_goOut_57 : decode cX6_goOut 57 = .ok (.aload_n 0, 1) := by decide +kernel
theorem dX6_goOut_58 : decode cX6_goOut 58 = .ok (.iload_n 2, 1) := by decide +kernel
theorem dX6_goOut_59 : decode cX6_goOut 59 = .ok (.invokevirtual 145, 3) := by decide +kernel
theorem dX6_goOut_62 : decode cX6_goOut 62 = .ok (.iload_n 2, 1) := by decide +kernel
theorem dX6_goOut_63 : decode cX6_goOut 63 = .ok (.ireturn, 1) := by decide +kernel
theorem dX6_addWork_0 : decode cX6_addWork 0 = .ok (.aload_n 0, 1) := by decide +kernel
theorem dX6_addWork_1 : decode cX6_addWork 1 = .ok (.iload_n 1, 1) := by decide +kernel
theorem dX6_addWork_2 : decode cX6_addWork 2 = .ok (.invokestatic 142, 3) := by decide +kernel
theorem dX6_addWork_5 : decode cX6_addWork 5 = .ok (.ifCond .ne 7, 3) := by decide +kernel
theorem dX6_addWork_8 : decode cX6_addWork 8 = .ok (.iconst 1, 1) := by decide +kernel
theorem dX6_addWork_9 : decode cX6_addWork 9 = .ok (.goto 17, 3) := by decide +kernel
theorem dX6_addWork_12 : decode cX6_addWork 12 = .ok (.aload_n 0, 1) := by decide +kernel
theorem dX6_addWork_13 : decode cX6_addWork 13 = .ok (.getfield 91, 3) := by decide +kernel
theorem dX6_addWork_16 : decode cX6_addWork 16 = .ok (.bipush 12, 2) := by decide +kernel
theorem dX6_addWork_18 : decode cX6_addWork 18 = .ok (.if_icmp .ne 7, 3) := by decide +kernel
theorem dX6_addWork_21 : decode cX6_addWork 21 = .ok (.iconst 2, 1) := by decide +kernel
theorem dX6_addWork_22 : decode cX6_addWork 22 = .ok (.goto 4, 3) := by decide +kernel
theorem dX6_addWork_25 : decode cX6_addWork 25 = .ok (.iconst 0, 1) := by decide +kernel
theorem dX6_addWork_26 : decode cX6_addWork 26 = .ok (.putfield 81, 3) := by decide +kernel
theorem dX6_addWork_29 : decode cX6_addWork 29 = .ok (.aload_n 0, 1) := by decide +kernel
theorem dX6_addWork_30 : decode cX6_addWork 30 = .ok (.getfield 81, 3) := by decide +kernel
theorem dX6_addWork_33 : decode cX6_addWork 33 = .ok (.ifCond .le 5, 3) := by decide +kernel
theorem dX6_addWork_36 : decode cX6_addWork 36 = .ok (.iconst 0, 1) := by decide +kernel
theorem dX6_addWork_37 : decode cX6_addWork 37 = .ok (.ireturn, 1) := by decide +kernel
theorem dX6_addWork_38 : decode cX6_addWork 38 = .ok (.aload_n 0, 1) := by decide +kernel
theorem dX6_addWork_39 : decode cX6_addWork 39 = .ok (.getfield 50, 3) := by decide +kernel
theorem dX6_addWork_42 : decode cX6_addWork 42 = .ok (.aload_n 0, 1) := by decide +kernel
theorem dX6_addWork_43 : decode cX6_addWork 43 = .ok (.getfield 91, 3) := by decide +kernel
theorem dX6_addWork_46 : decode cX6_addWork 46 = .ok (.iload_n 1, 1) := by decide +kernel
theorem dX6_addWork_47 : decode cX6_addWork 47 = .ok (.iconst 3, 1) := by decide +kernel
theorem dX6_addWork_48 : decode cX6_addWork 48 = .ok (.idiv, 1) := by decide +kernel
theorem dX6_addWork_49 : decode cX6_addWork 49 = .ok (.iastore, 1) := by decide +kernel
theorem dX6_addWork_50 : decode cX6_addWork 50 = .ok (.aload_n 0, 1) := by decide +kernel
theorem dX6_addWork_51 : decode cX6_addWork 51 = .ok (.getfield 53, 3) := by decide +kernel
theorem dX6_addWork_54 : decode cX6_addWork 54 = .ok (.aload_n 0, 1) := by decide +kernel
theorem dX6_addWork_55 : decode cX6_addWork 55 = .ok (.getfield 91, 3) := by decide +kernel
theorem dX6_addWork_58 : decode cX6_addWork 58 = .ok (.iload_n 1, 1) := by decide +kernel
theorem dX6_addWork_59 : decode cX6_addWork 59 = .ok (.iastore, 1) := by decide +kernel
theorem dX6_addWork_60 : decode cX6_addWork 60 = .ok (.aload_n 0, 1) := by decide +kernel
theorem dX6_addWork_61 : decode cX6_addWork 61 = .ok (.getfield 65, 3) := by decide +kernel
theorem dX6_addWork_64 : decode cX6_addWork 64 = .ok (.aload_n 0, 1) := by decide +kernel
theorem dX6_addWork_65 : decode cX6_addWork 65 = .ok (.getfield 91, 3) := by decide +kernel
theorem dX6_addWork_68 : decode cX6_addWork 68 = .ok (.bipush 20, 2) := by decide +kernel
theorem dX6_addWork_70 : decode cX6_addWork 70 = .ok (.iastore, 1) := by decide +kernel
theorem dX6_addWork_71 : decode cX6_addWork 71 = .ok (.aload_n 0, 1) := by decide +kernel
theorem dX6_addWork_72 : decode cX6_addWork 72 = .ok (.dup, 1) := by decide +kernel
theorem dX6_addWork_73 : decode cX6_addWork 73 = .ok (.getfield 91, 3) := by decide +kernel
theorem dX6_addWork_76 : decode cX6_addWork 76 = .ok (.iconst 1, 1) := by decide +kernel
theorem dX6_addWork_77 : decode cX6_addWork 77 = .ok (.iadd, 1) := by decide +kernel
theorem dX6_addWork_78 : decode cX6_addWork 78 = .ok (.putfield 91, 3) := by decide +kernel
theorem dX6_addWork_81 : decode cX6_addWork 81 = .ok (.aload_n 0, 1) := by decide +kernel
theorem dX6_addWork_82 : decode cX6_addWork 82 = .ok (.getfield 91, 3) := by decide +kernel
theorem dX6_addWork_85 : decode cX6_addWork 85 = .ok (.iconst 1, 1) := by decide +kernel
theorem dX6_addWork_86 : decode cX6_addWork 86 = .ok (.isub, 1) := by decide +kernel
theorem dX6_addWork_87 : decode cX6_addWork 87 = .ok (.ireturn, 1) := by decide +kernel
theorem dX6_areOne_0 : decode cX6_areOne 0 = .ok (.aload_n 0, 1) := by decide +kernel
theorem dX6_areOne_1 : decode cX6_areOne 1 = .ok (.iload_n 1, 1) := by decide +kernel
theorem dX6_areOne_2 : decode cX6_areOne 2 = .ok (.invokevirtual 155, 3) := by decide +kernel
theorem dX6_areOne_5 : decode cX6_areOne 5 = .ok (.ifCond .eq 14, 3) := by decide +kernel
theorem dX6_areOne_8 : decode cX6_areOne 8 = .ok (.iload_n 2, 1) := by decide +kernel
theorem dX6_areOne_9 : decode cX6_areOne 9 = .ok (.invokestatic 142, 3) := by decide +kernel
theorem dX6_areOne_12 : decode cX6_areOne 12 = .ok (.ifCond .eq 7, 3) := by decide +kernel
theorem dX6_areOne_15 : decode cX6_areOne 15 = .ok (.iconst 1, 1) := by decide +kernel
theorem dX6_areOne_16 : decode cX6_areOne 16 = .ok (.goto 4, 3) := by decide +kernel
theorem dX6_areOne_19 : decode cX6_areOne 19 = .ok (.iconst 0, 1) := by decide +kernel
theorem dX6_areOne_20 : decode cX6_areOne 20 = .ok (.ireturn, 1) := by decide +kernel
theorem dX6_hang_0 : decode cX6_hang 0 = .ok (.aload_n 0, 1) := by decide +kernel
theorem dX6_hang_1 : decode cX6_hang 1 = .ok (.aload_n 0, 1) := by decide +kernel
theorem dX6_hang_2 : decode cX6_hang 2 = .ok (.iload_n 1, 1) := by decide +kernel
theorem dX6_hang_3 : decode cX6_hang 3 = .ok (.iload_n 2, 1) := by decide +kernel
theorem dX6_hang_4 : decode cX6_hang 4 = .ok (.invokevirtual 158, 3) := by decide +kernel
theorem dX6_hang_7 : decode cX6_hang 7 = .ok (.ifCond .ne 7, 3) := by decide +kernel
theorem dX6_hang_10 : decode cX6_hang 10 = .ok (.iconst 1, 1) := by decide +kernel
theorem dX6_hang_11 : decode cX6_hang 11 = .ok (.goto 22, 3) := by decide +kernel
theorem dX6_hang_14 : decode cX6_hang 14 = .ok (.aload_n 0, 1) := by decide +kernel
theorem dX6_hang_15 : decode cX6_hang 15 = .ok (.getfield 53, 3) := by decide +kernel
theorem dX6_hang_18 : decode cX6_hang 18 = .ok (.iload_n 1, 1) := by decide +kernel
theorem dX6_hang_19 : decode cX6_hang 19 = .ok (.iaload, 1) := by decide +kernel
theorem dX6_hang_20 : decode cX6_hang 20 = .ok (.iconst 3, 1) := by decide +kernel
theorem dX6_hang_21 : decode cX6_hang 21 = .ok (.idiv, 1) := by decide +kernel
theorem dX6_hang_22 : decode cX6_hang 22 = .ok (.iload_n 2, 1) := by decide +kernel
theorem dX6_hang_23 : decode cX6_hang 23 = .ok (.iconst 3, 1) := by decide +kernel
theorem dX6_hang_24 : decode cX6_hang 24 = .ok (.idiv, 1) := by decide +kernel
theorem dX6_hang_25 : decode cX6_hang 25 = .ok (.if_icmp .eq 7, 3) := by decide +kernel
theorem dX6_hang_28 : decode cX6_hang 28 = .ok (.iconst 2, 1) := by decide +kernel
theorem dX6_hang_29 : decode cX6_hang 29 = .ok (.goto 4, 3) := by decide +kernel
theorem dX6_hang_32 : decode cX6_hang 32 = .ok (.iconst 0, 1) := by decide +kernel
theorem dX6_hang_33 : decode cX6_hang 33 = .ok (.putfield 81, 3) := by decide +kernel
theorem dX6_hang_36 : decode cX6_hang 36 = .ok (.aload_n 0, 1) := by decide +kernel
theorem dX6_hang_37 : decode cX6_hang 37 = .ok (.getfield 81, 3) := by decide +kernel
theorem dX6_hang_40 : decode cX6_hang 40 = .ok (.ifCond .le 5, 3) := by decide +kernel
theorem dX6_hang_43 : decode cX6_hang 43 = .ok (.iconst 0, 1) := by decide +kernel
theorem dX6_hang_44 : decode cX6_hang 44 = .ok (.ireturn, 1) := by decide +kernel
theorem dX6_hang_45 : decode cX6_hang 45 = .ok (.aload_n 0, 1) := by decide +kernel
theorem dX6_hang_46 : decode cX6_hang 46 = .ok (.getfield 53, 3) := by decide +kernel
theorem dX6_hang_49 : decode cX6_hang 49 = .ok (.iload_n 1, 1) := by decide +kernel
theorem dX6_hang_50 : decode cX6_hang 50 = .ok (.iaload, 1) := by decide +kernel
theorem dX6_hang_51 : decode cX6_hang 51 = .ok (.istore_n 3, 1) := by decide +kernel
theorem dX6_hang_52 : decode cX6_hang 52 = .ok (.aload_n 0, 1) := by decide +kernel
theorem dX6_hang_53 : decode cX6_hang 53 = .ok (.getfield 53, 3) := by decide +kernel
theorem dX6_hang_56 : decode cX6_hang 56 = .ok (.iload_n 1, 1) := by decide +kernel
theorem dX6_hang_57 : decode cX6_hang 57 = .ok (.iload_n 2, 1) := by decide +kernel
theorem dX6_hang_58 : decode cX6_hang 58 = .ok (.iastore, 1) := by decide +kernel
theorem dX6_hang_59 : decode cX6_hang 59 = .ok (.iload_n 3, 1) := by decide +kernel
theorem dX6_hang_60 : decode cX6_hang 60 = .ok (.ireturn, 1) := by decide +kernel
theorem dX6_lend_0 : decode cX6_lend 0 = .ok (.aload_n 0, 1) := by decide +kernel
theorem dX6_lend_1 : decode cX6_lend 1 = .ok (.aload_n 0, 1) := by decide +kernel
theorem dX6_lend_2 : decode cX6_lend 2 = .ok (.iload_n 1, 1) := by decide +kernel
theorem dX6_lend_3 : decode cX6_lend 3 = .ok (.iload_n 2, 1) := by decide +kernel
theorem dX6_lend_4 : decode cX6_lend 4 = .ok (.invokevirtual 158, 3) := by decide +kernel
theorem dX6_lend_7 : decode cX6_lend 7 = .ok (.ifCond .ne 7, 3) := by decide +kernel
theorem dX6_lend_10 : decode cX6_lend 10 = .ok (.iconst 1, 1) := by decide +kernel
theorem dX6_lend_11 : decode cX6_lend 11 = .ok (.goto 44, 3) := by decide +kernel
theorem dX6_lend_14 : decode cX6_lend 14 = .ok (.iload_n 3, 1) := by decide +kernel
theorem dX6_lend_15 : decode cX6_lend 15 = .ok (.iconst 0, 1) := by decide +kernel
theorem dX6_lend_16 : decode cX6_lend 16 = .ok (.sipush 1000, 3) := by decide +kernel
theorem dX6_lend_19 : decode cX6_lend 19 = .ok (.invokestatic 84, 3) := by decide +kernel
theorem dX6_lend_22 : decode cX6_lend 22 = .ok (.ifCond .ne 7, 3) := by decide +kernel
theorem dX6_lend_25 : decode cX6_lend 25 = .ok (.iconst 2, 1) := by decide +kernel
theorem dX6_lend_26 : decode cX6_lend 26 = .ok (.goto 29, 3) := by decide +kernel
theorem dX6_lend_29 : decode cX6_lend 29 = .ok (.aload_n 0, 1) := by decide +kernel
theorem dX6_lend_30 : decode cX6_lend 30 = .ok (.getfield 56, 3) := by decide +kernel
theorem dX6_lend_33 : decode cX6_lend 33 = .ok (.iload_n 1, 1) := by decide +kernel
theorem dX6_lend_34 : decode cX6_lend 34 = .ok (.baload, 1) := by decide +kernel
theorem dX6_lend_35 : decode cX6_lend 35 = .ok (.ifCond .ne 15, 3) := by decide +kernel
theorem dX6_lend_38 : decode cX6_lend 38 = .ok (.iload_n 2, 1) := by decide +kernel
theorem dX6_lend_39 : decode cX6_lend 39 = .ok (.iconst 3, 1) := by decide +kernel
theorem dX6_lend_40 : decode cX6_lend 40 = .ok (.idiv, 1) := by decide +kernel
theorem dX6_lend_41 : decode cX6_lend 41 = .ok (.aload_n 0, 1) := by decide +kernel
theorem dX6_lend_42 : decode cX6_lend 42 = .ok (.getfield 50, 3) := by decide +kernel
theorem dX6_lend_45 : decode cX6_lend 45 = .ok (.iload_n 1, 1) := by decide +kernel
theorem dX6_lend_46 : decode cX6_lend 46 = .ok (.iaload, 1) := by decide +kernel
theorem dX6_lend_47 : decode cX6_lend 47 = .ok (.if_icmp .ne 7, 3) := by decide +kernel
theorem dX6_lend_50 : decode cX6_lend 50 = .ok (.iconst 3, 1) := by decide +kernel
theorem dX6_lend_51 : decode cX6_lend 51 = .ok (.goto 4, 3) := by decide +kernel
theorem dX6_lend_54 : decode cX6_lend 54 = .ok (.iconst 0, 1) := by decide +kernel
theorem dX6_lend_55 : decode cX6_lend 55 = .ok (.putfield 81, 3) := by decide +kernel
theorem dX6_lend_58 : decode cX6_lend 58 = .ok (.aload_n 0, 1) := by decide +kernel
theorem dX6_lend_59 : decode cX6_lend 59 = .ok (.getfield 81, 3) := by decide +kernel
theorem dX6_lend_62 : decode cX6_lend 62 = .ok (.ifCond .le 5, 3) := by decide +kernel
theorem dX6_lend_65 : decode cX6_lend 65 = .ok (.iconst 0, 1) := by decide +kernel
theorem dX6_lend_66 : decode cX6_lend 66 = .ok (.ireturn, 1) := by decide +kernel
theorem dX6_lend_67 : decode cX6_lend 67 = .ok (.aload_n 0, 1) := by decide +kernel
theorem dX6_lend_68 : decode cX6_lend 68 = .ok (.getfield 56, 3) := by decide +kernel
theorem dX6_lend_71 : decode cX6_lend 71 = .ok (.iload_n 1, 1) := by decide +kernel
theorem dX6_lend_72 : decode cX6_lend 72 = .ok (.iconst 1, 1) := by decide +kernel
theorem dX6_lend_73 : decode cX6_lend 73 = .ok (.bastore, 1) := by decide +kernel
theorem dX6_lend_74 : decode cX6_lend 74 = .ok (.aload_n 0, 1) := by decide +kernel
theorem dX6_lend_75 : decode cX6_lend 75 = .ok (.getfield 53, 3) := by decide +kernel
theorem dX6_lend_78 : decode cX6_lend 78 = .ok (.iload_n 1, 1) := by decide +kernel
theorem dX6_lend_79 : decode cX6_lend 79 = .ok (.iload_n 2, 1) := by decide +kernel
theorem dX6_lend_80 : decode cX6_lend 80 = .ok (.iastore, 1) := by decide +kernel
theorem dX6_lend_81 : decode cX6_lend 81 = .ok (.aload_n 0, 1) := by decide +kernel
theorem dX6_lend_82 : decode cX6_lend 82 = .ok (.getfield 59, 3) := by decide +kernel
theorem dX6_lend_85 : decode cX6_lend 85 = .ok (.iload_n 1, 1) := by decide +kernel
theorem dX6_lend_86 : decode cX6_lend 86 = .ok (.iload_n 3, 1) := by decide +kernel
theorem dX6_lend_87 : decode cX6_lend 87 = .ok (.iastore, 1) := by decide +kernel
theorem dX6_lend_88 : decode cX6_lend 88 = .ok (.aload_n 0, 1) := by decide +kernel
theorem dX6_lend_89 : decode cX6_lend 89 = .ok (.getfield 62, 3) := by decide +kernel
theorem dX6_lend_92 : decode cX6_lend 92 = .ok (.iload_n 1, 1) := by decide +kernel
theorem dX6_lend_93 : decode cX6_lend 93 = .ok (.iconst 0, 1) := by decide +kernel
theorem dX6_lend_94 : decode cX6_lend 94 = .ok (.iastore, 1) := by decide +kernel
theorem dX6_lend_95 : decode cX6_lend 95 = .ok (.iload_n 2, 1) := by decide +kernel
theorem dX6_lend_96 : decode cX6_lend 96 = .ok (.iconst 3, 1) := by decide +kernel
theorem dX6_lend_97 : decode cX6_lend 97 = .ok (.idiv, 1) := by decide +kernel
theorem dX6_lend_98 : decode cX6_lend 98 = .ok (.ireturn, 1) := by decide +kernel
theorem dX6_bringHome_0 : decode cX6_bringHome 0 = .ok (.aload_n 0, 1) := by decide +kernel
theorem dX6_bringHome_1 : decode cX6_bringHome 1 = .ok (.aload_n 0, 1) := by decide +kernel
theorem dX6_bringHome_2 : decode cX6_bringHome 2 = .ok (.iload_n 1, 1) := by decide +kernel
theorem dX6_bringHome_3 : decode cX6_bringHome 3 = .ok (.iload_n 2, 1) := by decide +kernel
theorem dX6_bringHome_4 : decode cX6_bringHome 4 = .ok (.invokevirtual 158, 3) := by decide +kernel
theorem dX6_bringHome_7 : decode cX6_bringHome 7 = .ok (.ifCond .ne 7, 3) := by decide +kernel
theorem dX6_bringHome_10 : decode cX6_bringHome 10 = .ok (.iconst 1, 1) := by decide +kernel
theorem dX6_bringHome_11 : decode cX6_bringHome 11 = .ok (.goto 29, 3) := by decide +kernel
theorem dX6_bringHome_14 : decode cX6_bringHome 14 = .ok (.aload_n 0, 1) := by decide +kernel
theorem dX6_bringHome_15 : decode cX6_bringHome 15 = .ok (.getfield 56, 3) := by decide +kernel
theorem dX6_bringHome_18 : decode cX6_bringHome 18 = .ok (.iload_n 1, 1) := by decide +kernel
theorem dX6_bringHome_19 : decode cX6_bringHome 19 = .ok (.baload, 1) := by decide +kernel
theorem dX6_bringHome_20 : decode cX6_bringHome 20 = .ok (.ifCond .eq 15, 3) := by decide +kernel
theorem dX6_bringHome_23 : decode cX6_bringHome 23 = .ok (.iload_n 2, 1) := by decide +kernel
theorem dX6_bringHome_24 : decode cX6_bringHome 24 = .ok (.iconst 3, 1) := by decide +kernel
theorem dX6_bringHome_25 : decode cX6_bringHome 25 = .ok (.idiv, 1) := by decide +kernel
theorem dX6_bringHome_26 : decode cX6_bringHome 26 = .ok (.aload_n 0, 1) := by decide +kernel
theorem dX6_bringHome_27 : decode cX6_bringHome 27 = .ok (.getfield 50, 3) := by decide +kernel
theorem dX6_bringHome_30 : decode cX6_bringHome 30 = .ok (.iload_n 1, 1) := by decide +kernel
theorem dX6_bringHome_31 : decode cX6_bringHome 31 = .ok (.iaload, 1) := by decide +kernel
theorem dX6_bringHome_32 : decode cX6_bringHome 32 = .ok (.if_icmp .eq 7, 3) := by decide +kernel
theorem dX6_bringHome_35 : decode cX6_bringHome 35 = .ok (.iconst 2, 1) := by decide +kernel
theorem dX6_bringHome_36 : decode cX6_bringHome 36 = .ok (.goto 4, 3) := by decide +kernel
theorem dX6_bringHome_39 : decode cX6_bringHome 39 = .ok (.iconst 0, 1) := by decide +kernel
theorem dX6_bringHome_40 : decode cX6_bringHome 40 = .ok (.putfield 81, 3) := by decide +kernel
theorem dX6_bringHome_43 : decode cX6_bringHome 43 = .ok (.aload_n 0, 1) := by decide +kernel
theorem dX6_bringHome_44 : decode cX6_bringHome 44 = .ok (.getfield 81, 3) := by decide +kernel
theorem dX6_bringHome_47 : decode cX6_bringHome 47 = .ok (.ifCond .le 5, 3) := by decide +kernel
theorem dX6_bringHome_50 : decode cX6_bringHome 50 = .ok (.iconst 0, 1) := by decide +kernel
theorem dX6_bringHome_51 : decode cX6_bringHome 51 = .ok (.ireturn, 1) := by decide +kernel
theorem dX6_bringHome_52 : decode cX6_bringHome 52 = .ok (.aload_n 0, 1) := by decide +kernel
theorem dX6_bringHome_53 : decode cX6_bringHome 53 = .ok (.getfield 56, 3) := by decide +kernel
theorem dX6_bringHome_56 : decode cX6_bringHome 56 = .ok (.iload_n 1, 1) := by decide +kernel
theorem dX6_bringHome_57 : decode cX6_bringHome 57 = .ok (.iconst 0, 1) := by decide +kernel
theorem dX6_bringHome_58 : decode cX6_bringHome 58 = .ok (.bastore, 1) := by decide +kernel
theorem dX6_bringHome_59 : decode cX6_bringHome 59 = .ok (.aload_n 0, 1) := by decide +kernel
theorem dX6_bringHome_60 : decode cX6_bringHome 60 = .ok (.getfield 53, 3) := by decide +kernel
theorem dX6_bringHome_63 : decode cX6_bringHome 63 = .ok (.iload_n 1, 1) := by decide +kernel
theorem dX6_bringHome_64 : decode cX6_bringHome 64 = .ok (.iload_n 2, 1) := by decide +kernel
theorem dX6_bringHome_65 : decode cX6_bringHome 65 = .ok (.iastore, 1) := by decide +kernel
theorem dX6_bringHome_66 : decode cX6_bringHome 66 = .ok (.aload_n 0, 1) := by decide +kernel
theorem dX6_bringHome_67 : decode cX6_bringHome 67 = .ok (.getfield 62, 3) := by decide +kernel
theorem dX6_bringHome_70 : decode cX6_bringHome 70 = .ok (.iload_n 1, 1) := by decide +kernel
theorem dX6_bringHome_71 : decode cX6_bringHome 71 = .ok (.iaload, 1) := by decide +kernel
theorem dX6_bringHome_72 : decode cX6_bringHome 72 = .ok (.ireturn, 1) := by decide +kernel
theorem dX6_setShare_0 : decode cX6_setShare 0 = .ok (.aload_n 0, 1) := by decide +kernel
theorem dX6_setShare_1 : decode cX6_setShare 1 = .ok (.aload_n 0, 1) := by decide +kernel
theorem dX6_setShare_2 : decode cX6_setShare 2 = .ok (.iload_n 1, 1) := by decide +kernel
theorem dX6_setShare_3 : decode cX6_setShare 3 = .ok (.invokevirtual 155, 3) := by decide +kernel
theorem dX6_setShare_6 : decode cX6_setShare 6 = .ok (.ifCond .ne 7, 3) := by decide +kernel
theorem dX6_setShare_9 : decode cX6_setShare 9 = .ok (.iconst 1, 1) := by decide +kernel
theorem dX6_setShare_10 : decode cX6_setShare 10 = .ok (.goto 18, 3) := by decide +kernel
theorem dX6_setShare_13 : decode cX6_setShare 13 = .ok (.iload_n 2, 1) := by decide +kernel
theorem dX6_setShare_14 : decode cX6_setShare 14 = .ok (.iconst 0, 1) := by decide +kernel
theorem dX6_setShare_15 : decode cX6_setShare 15 = .ok (.bipush 100, 2) := by decide +kernel
theorem dX6_setShare_17 : decode cX6_setShare 17 = .ok (.invokestatic 84, 3) := by decide +kernel
theorem dX6_setShare_20 : decode cX6_setShare 20 = .ok (.ifCond .ne 7, 3) := by decide +kernel
theorem dX6_setShare_23 : decode cX6_setShare 23 = .ok (.iconst 2, 1) := by decide +kernel
theorem dX6_setShare_24 : decode cX6_setShare 24 = .ok (.goto 4, 3) := by decide +kernel
theorem dX6_setShare_27 : decode cX6_setShare 27 = .ok (.iconst 0, 1) := by decide +kernel
theorem dX6_setShare_28 : decode cX6_setShare 28 = .ok (.putfield 81, 3) := by decide +kernel
theorem dX6_setShare_31 : decode cX6_setShare 31 = .ok (.aload_n 0, 1) := by decide +kernel
theorem dX6_setShare_32 : decode cX6_setShare 32 = .ok (.getfield 81, 3) := by decide +kernel
theorem dX6_setShare_35 : decode cX6_setShare 35 = .ok (.ifCond .le 5, 3) := by decide +kernel
theorem dX6_setShare_38 : decode cX6_setShare 38 = .ok (.iconst 0, 1) := by decide +kernel
theorem dX6_setShare_39 : decode cX6_setShare 39 = .ok (.ireturn, 1) := by decide +kernel
theorem dX6_setShare_40 : decode cX6_setShare 40 = .ok (.aload_n 0, 1) := by decide +kernel
theorem dX6_setShare_41 : decode cX6_setShare 41 = .ok (.getfield 65, 3) := by decide +kernel
theorem dX6_setShare_44 : decode cX6_setShare 44 = .ok (.iload_n 1, 1) := by decide +kernel
theorem dX6_setShare_45 : decode cX6_setShare 45 = .ok (.iaload, 1) := by decide +kernel
theorem dX6_setShare_46 : decode cX6_setShare 46 = .ok (.istore_n 3, 1) := by decide +kernel
theorem dX6_setShare_47 : decode cX6_setShare 47 = .ok (.aload_n 0, 1) := by decide +kernel
theorem dX6_setShare_48 : decode cX6_setShare 48 = .ok (.getfield 65, 3) := by decide +kernel
theorem dX6_setShare_51 : decode cX6_setShare 51 = .ok (.iload_n 1, 1) := by decide +kernel
theorem dX6_setShare_52 : decode cX6_setShare 52 = .ok (.iload_n 2, 1) := by decide +kernel
theorem dX6_setShare_53 : decode cX6_setShare 53 = .ok (.iastore, 1) := by decide +kernel
theorem dX6_setShare_54 : decode cX6_setShare 54 = .ok (.iload_n 3, 1) := by decide +kernel
theorem dX6_setShare_55 : decode cX6_setShare 55 = .ok (.ireturn, 1) := by decide +kernel
theorem dX6_sell_0 : decode cX6_sell 0 = .ok (.aload_n 0, 1) := by decide +kernel
theorem dX6_sell_1 : decode cX6_sell 1 = .ok (.iload_n 1, 1) := by decide +kernel
theorem dX6_sell_2 : decode cX6_sell 2 = .ok (.invokestatic 97, 3) := by decide +kernel
theorem dX6_sell_5 : decode cX6_sell 5 = .ok (.ifCond .eq 11, 3) := by decide +kernel
theorem dX6_sell_8 : decode cX6_sell 8 = .ok (.aload_n 0, 1) := by decide +kernel
theorem dX6_sell_9 : decode cX6_sell 9 = .ok (.iload_n 2, 1) := by decide +kernel
theorem dX6_sell_10 : decode cX6_sell 10 = .ok (.invokevirtual 155, 3) := by decide +kernel
theorem dX6_sell_13 : decode cX6_sell 13 = .ok (.ifCond .ne 7, 3) := by decide +kernel
theorem dX6_sell_16 : decode cX6_sell 16 = .ok (.iconst 1, 1) := by decide +kernel
theorem dX6_sell_17 : decode cX6_sell 17 = .ok (.goto 18, 3) := by decide +kernel
theorem dX6_sell_20 : decode cX6_sell 20 = .ok (.iload_n 3, 1) := by decide +kernel
theorem dX6_sell_21 : decode cX6_sell 21 = .ok (.iconst 1, 1) := by decide +kernel
theorem dX6_sell_22 : decode cX6_sell 22 = .ok (.ldc 161, 2) := by decide +kernel
theorem dX6_sell_24 : decode cX6_sell 24 = .ok (.invokestatic 84, 3) := by decide +kernel
theorem dX6_sell_27 : decode cX6_sell 27 = .ok (.ifCond .ne 7, 3) := by decide +kernel
theorem dX6_sell_30 : decode cX6_sell 30 = .ok (.iconst 2, 1) := by decide +kernel
theorem dX6_sell_31 : decode cX6_sell 31 = .ok (.goto 4, 3) := by decide +kernel
theorem dX6_sell_34 : decode cX6_sell 34 = .ok (.iconst 0, 1) := by decide +kernel
theorem dX6_sell_35 : decode cX6_sell 35 = .ok (.putfield 81, 3) := by decide +kernel
theorem dX6_sell_38 : decode cX6_sell 38 = .ok (.aload_n 0, 1) := by decide +kernel
theorem dX6_sell_39 : decode cX6_sell 39 = .ok (.getfield 81, 3) := by decide +kernel
theorem dX6_sell_42 : decode cX6_sell 42 = .ok (.ifCond .le 5, 3) := by decide +kernel
theorem dX6_sell_45 : decode cX6_sell 45 = .ok (.iconst 0, 1) := by decide +kernel
theorem dX6_sell_46 : decode cX6_sell 46 = .ok (.ireturn, 1) := by decide +kernel
theorem dX6_sell_47 : decode cX6_sell 47 = .ok (.aload_n 0, 1) := by decide +kernel
theorem dX6_sell_48 : decode cX6_sell 48 = .ok (.getfield 50, 3) := by decide +kernel
theorem dX6_sell_51 : decode cX6_sell 51 = .ok (.iload_n 2, 1) := by decide +kernel
theorem dX6_sell_52 : decode cX6_sell 52 = .ok (.iaload, 1) := by decide +kernel
theorem dX6_sell_53 : decode cX6_sell 53 = .ok (.iload_n 1, 1) := by decide +kernel
theorem dX6_sell_54 : decode cX6_sell 54 = .ok (.if_icmp .ne 7, 3) := by decide +kernel
theorem dX6_sell_57 : decode cX6_sell 57 = .ok (.iconst 0, 1) := by decide +kernel
theorem dX6_sell_58 : decode cX6_sell 58 = .ok (.goto 14, 3) := by decide +kernel
theorem dX6_sell_61 : decode cX6_sell 61 = .ok (.iload_n 3, 1) := by decide +kernel
theorem dX6_sell_62 : decode cX6_sell 62 = .ok (.aload_n 0, 1) := by decide +kernel
theorem dX6_sell_63 : decode cX6_sell 63 = .ok (.getfield 65, 3) := by decide +kernel
theorem dX6_sell_66 : decode cX6_sell 66 = .ok (.iload_n 2, 1) := by decide +kernel
theorem dX6_sell_67 : decode cX6_sell 67 = .ok (.iaload, 1) := by decide +kernel
theorem dX6_sell_68 : decode cX6_sell 68 = .ok (.imul, 1) := by decide +kernel
theorem dX6_sell_69 : decode cX6_sell 69 = .ok (.bipush 100, 2) := by decide +kernel
theorem dX6_sell_71 : decode cX6_sell 71 = .ok (.idiv, 1) := by decide +kernel
theorem dX6_sell_72 : decode cX6_sell 72 = .ok (.istore 4, 2) := by decide +kernel
theorem dX6_sell_74 : decode cX6_sell 74 = .ok (.aload_n 0, 1) := by decide +kernel
theorem dX6_sell_75 : decode cX6_sell 75 = .ok (.getfield 71, 3) := by decide +kernel
theorem dX6_sell_78 : decode cX6_sell 78 = .ok (.aload_n 0, 1) := by decide +kernel
theorem dX6_sell_79 : decode cX6_sell 79 = .ok (.getfield 50, 3) := by decide +kernel
theorem dX6_sell_82 : decode cX6_sell 82 = .ok (.iload_n 2, 1) := by decide +kernel
theorem dX6_sell_83 : decode cX6_sell 83 = .ok (.iaload, 1) := by decide +kernel
theorem dX6_sell_84 : decode cX6_sell 84 = .ok (.dup2, 1) := by decide +kernel
theorem dX6_sell_85 : decode cX6_sell 85 = .ok (.iaload, 1) := by decide +kernel
theorem dX6_sell_86 : decode cX6_sell 86 = .ok (.iload 4, 2) := by decide +kernel
theorem dX6_sell_88 : decode cX6_sell 88 = .ok (.iadd, 1) := by decide +kernel
theorem dX6_sell_89 : decode cX6_sell 89 = .ok (.iastore, 1) := by decide +kernel
theorem dX6_sell_90 : decode cX6_sell 90 = .ok (.aload_n 0, 1) := by decide +kernel
theorem dX6_sell_91 : decode cX6_sell 91 = .ok (.getfield 71, 3) := by decide +kernel
theorem dX6_sell_94 : decode cX6_sell 94 = .ok (.iload_n 1, 1) := by decide +kernel
theorem dX6_sell_95 : decode cX6_sell 95 = .ok (.dup2, 1) := by decide +kernel
theorem dX6_sell_96 : decode cX6_sell 96 = .ok (.iaload, 1) := by decide +kernel
theorem dX6_sell_97 : decode cX6_sell 97 = .ok (.iload_n 3, 1) := by decide +kernel
theorem dX6_sell_98 : decode cX6_sell 98 = .ok (.iload 4, 2) := by decide +kernel
theorem dX6_sell_100 : decode cX6_sell 100 = .ok (.isub, 1) := by decide +kernel
theorem dX6_sell_101 : decode cX6_sell 101 = .ok (.iadd, 1) := by decide +kernel
theorem dX6_sell_102 : decode cX6_sell 102 = .ok (.iastore, 1) := by decide +kernel
theorem dX6_sell_103 : decode cX6_sell 103 = .ok (.aload_n 0, 1) := by decide +kernel
theorem dX6_sell_104 : decode cX6_sell 104 = .ok (.dup, 1) := by decide +kernel
theorem dX6_sell_105 : decode cX6_sell 105 = .ok (.getfield 101, 3) := by decide +kernel
theorem dX6_sell_108 : decode cX6_sell 108 = .ok (.iload_n 3, 1) := by decide +kernel
theorem dX6_sell_109 : decode cX6_sell 109 = .ok (.iadd, 1) := by decide +kernel
theorem dX6_sell_110 : decode cX6_sell 110 = .ok (.putfield 101, 3) := by decide +kernel
theorem dX6_sell_113 : decode cX6_sell 113 = .ok (.iload_n 3, 1) := by decide +kernel
theorem dX6_sell_114 : decode cX6_sell 114 = .ok (.iload 4, 2) := by decide +kernel
theorem dX6_sell_116 : decode cX6_sell 116 = .ok (.isub, 1) := by decide +kernel
theorem dX6_sell_117 : decode cX6_sell 117 = .ok (.ireturn, 1) := by decide +kernel
theorem dX6_give_0 : decode cX6_give 0 = .ok (.aload_n 0, 1) := by decide +kernel
theorem dX6_give_1 : decode cX6_give 1 = .ok (.iload_n 1, 1) := by decide +kernel
theorem dX6_give_2 : decode cX6_give 2 = .ok (.invokestatic 97, 3) := by decide +kernel
theorem dX6_give_5 : decode cX6_give 5 = .ok (.ifCond .eq 15, 3) := by decide +kernel
theorem dX6_give_8 : decode cX6_give 8 = .ok (.iload_n 3, 1) := by decide +kernel
theorem dX6_give_9 : decode cX6_give 9 = .ok (.iconst (-1), 1) := by decide +kernel
theorem dX6_give_10 : decode cX6_give 10 = .ok (.if_icmp .eq 14, 3) := by decide +kernel
theorem dX6_give_13 : decode cX6_give 13 = .ok (.iload_n 3, 1) := by decide +kernel
theorem dX6_give_14 : decode cX6_give 14 = .ok (.invokestatic 111, 3) := by decide +kernel
theorem dX6_give_17 : decode cX6_give 17 = .ok (.ifCond .ne 7, 3) := by decide +kernel
theorem dX6_give_20 : decode cX6_give 20 = .ok (.iconst 1, 1) := by decide +kernel
theorem dX6_give_21 : decode cX6_give 21 = .ok (.goto 18, 3) := by decide +kernel
theorem dX6_give_24 : decode cX6_give 24 = .ok (.iload_n 2, 1) := by decide +kernel
theorem dX6_give_25 : decode cX6_give 25 = .ok (.iconst 1, 1) := by decide +kernel
theorem dX6_give_26 : decode cX6_give 26 = .ok (.ldc 161, 2) := by decide +kernel
theorem dX6_give_28 : decode cX6_give 28 = .ok (.invokestatic 84, 3) := by decide +kernel
theorem dX6_give_31 : decode cX6_give 31 = .ok (.ifCond .ne 7, 3) := by decide +kernel
theorem dX6_give_34 : decode cX6_give 34 = .ok (.iconst 2, 1) := by decide +kernel
theorem dX6_give_35 : decode cX6_give 35 = .ok (.goto 4, 3) := by decide +kernel
theorem dX6_give_38 : decode cX6_give 38 = .ok (.iconst 0, 1) := by decide +kernel
theorem dX6_give_39 : decode cX6_give 39 = .ok (.putfield 81, 3) := by decide +kernel
theorem dX6_give_42 : decode cX6_give 42 = .ok (.aload_n 0, 1) := by decide +kernel
theorem dX6_give_43 : decode cX6_give 43 = .ok (.getfield 81, 3) := by decide +kernel
theorem dX6_give_46 : decode cX6_give 46 = .ok (.ifCond .le 5, 3) := by decide +kernel
theorem dX6_give_49 : decode cX6_give 49 = .ok (.iconst 0, 1) := by decide +kernel
theorem dX6_give_50 : decode cX6_give 50 = .ok (.ireturn, 1) := by decide +kernel
theorem dX6_give_51 : decode cX6_give 51 = .ok (.iload_n 3, 1) := by decide +kernel
theorem dX6_give_52 : decode cX6_give 52 = .ok (.iconst (-1), 1) := by decide +kernel
theorem dX6_give_53 : decode cX6_give 53 = .ok (.if_icmp .eq 17, 3) := by decide +kernel
theorem dX6_give_56 : decode cX6_give 56 = .ok (.aload_n 0, 1) := by decide +kernel
theorem dX6_give_57 : decode cX6_give 57 = .ok (.iload_n 3, 1) := by decide +kernel
theorem dX6_give_58 : decode cX6_give 58 = .ok (.invokevirtual 118, 3) := by decide +kernel
theorem dX6_give_61 : decode cX6_give 61 = .ok (.ifCond .eq 9, 3) := by decide +kernel
theorem dX6_give_64 : decode cX6_give 64 = .ok (.iload_n 2, 1) := by decide +kernel
theorem dX6_give_65 : decode cX6_give 65 = .ok (.iconst 4, 1) := by decide +kernel
theorem dX6_give_66 : decode cX6_give 66 = .ok (.idiv, 1) := by decide +kernel
theorem dX6_give_67 : decode cX6_give 67 = .ok (.goto 4, 3) := by decide +kernel
theorem dX6_give_70 : decode cX6_give 70 = .ok (.iconst 0, 1) := by decide +kernel
theorem dX6_give_71 : decode cX6_give 71 = .ok (.istore 4, 2) := by decide +kernel
theorem dX6_give_73 : decode cX6_give 73 = .ok (.aload_n 0, 1) := by decide +kernel
theorem dX6_give_74 : decode cX6_give 74 = .ok (.getfield 71, 3) := by decide +kernel
theorem dX6_give_77 : decode cX6_give 77 = .ok (.iload_n 1, 1) := by decide +kernel
theorem dX6_give_78 : decode cX6_give 78 = .ok (.dup2, 1) := by decide +kernel
theorem dX6_give_79 : decode cX6_give 79 = .ok (.iaload, 1) := by decide +kernel
theorem dX6_give_80 : decode cX6_give 80 = .ok (.iload_n 2, 1) := by decide +kernel
theorem dX6_give_81 : decode cX6_give 81 = .ok (.iload 4, 2) := by decide +kernel
theorem dX6_give_83 : decode cX6_give 83 = .ok (.iadd, 1) := by decide +kernel
theorem dX6_give_84 : decode cX6_give 84 = .ok (.iadd, 1) := by decide +kernel
theorem dX6_give_85 : decode cX6_give 85 = .ok (.iastore, 1) := by decide +kernel
theorem dX6_give_86 : decode cX6_give 86 = .ok (.aload_n 0, 1) := by decide +kernel
theorem dX6_give_87 : decode cX6_give 87 = .ok (.getfield 71, 3) := by decide +kernel
theorem dX6_give_90 : decode cX6_give 90 = .ok (.iconst 4, 1) := by decide +kernel
theorem dX6_give_91 : decode cX6_give 91 = .ok (.dup2, 1) := by decide +kernel
theorem dX6_give_92 : decode cX6_give 92 = .ok (.iaload, 1) := by decide +kernel
theorem dX6_give_93 : decode cX6_give 93 = .ok (.iload 4, 2) := by decide +kernel
theorem dX6_give_95 : decode cX6_give 95 = .ok (.isub, 1) := by decide +kernel
theorem dX6_give_96 : decode cX6_give 96 = .ok (.iastore, 1) := by decide +kernel
theorem dX6_give_97 : decode cX6_give 97 = .ok (.aload_n 0, 1) := by decide +kernel
theorem dX6_give_98 : decode cX6_give 98 = .ok (.dup, 1) := by decide +kernel
theorem dX6_give_99 : decode cX6_give 99 = .ok (.getfield 101, 3) := by decide +kernel
theorem dX6_give_102 : decode cX6_give 102 = .ok (.iload_n 2, 1) := by decide +kernel
theorem dX6_give_103 : decode cX6_give 103 = .ok (.iadd, 1) := by decide +kernel
theorem dX6_give_104 : decode cX6_give 104 = .ok (.putfield 101, 3) := by decide +kernel
theorem dX6_give_107 : decode cX6_give 107 = .ok (.iload_n 2, 1) := by decide +kernel
theorem dX6_give_108 : decode cX6_give 108 = .ok (.iload 4, 2) := by decide +kernel
theorem dX6_give_110 : decode cX6_give 110 = .ok (.iadd, 1) := by decide +kernel
theorem dX6_give_111 : decode cX6_give 111 = .ok (.ireturn, 1) := by decide +kernel
theorem dX6_bits_0 : decode cX6_bits 0 = .ok (.iconst 0, 1) := by decide +kernel
theorem dX6_bits_1 : decode cX6_bits 1 = .ok (.istore_n 1, 1) := by decide +kernel
theorem dX6_bits_2 : decode cX6_bits 2 = .ok (.iconst 0, 1) := by decide +kernel
theorem dX6_bits_3 : decode cX6_bits 3 = .ok (.istore_n 2, 1) := by decide +kernel
theorem dX6_bits_4 : decode cX6_bits 4 = .ok (.iload_n 2, 1) := by decide +kernel
theorem dX6_bits_5 : decode cX6_bits 5 = .ok (.bipush 12, 2) := by decide +kernel
theorem dX6_bits_7 : decode cX6_bits 7 = .ok (.if_icmp .ge 17, 3) := by decide +kernel
theorem dX6_bits_10 : decode cX6_bits 10 = .ok (.iload_n 1, 1) := by decide +kernel
theorem dX6_bits_11 : decode cX6_bits 11 = .ok (.iload_n 0, 1) := by decide +kernel
theorem dX6_bits_12 : decode cX6_bits 12 = .ok (.iload_n 2, 1) := by decide +kernel
theorem dX6_bits_13 : decode cX6_bits 13 = .ok (.ishr, 1) := by decide +kernel
theorem dX6_bits_14 : decode cX6_bits 14 = .ok (.iconst 1, 1) := by decide +kernel
theorem dX6_bits_15 : decode cX6_bits 15 = .ok (.iand, 1) := by decide +kernel
theorem dX6_bits_16 : decode cX6_bits 16 = .ok (.iadd, 1) := by decide +kernel
theorem dX6_bits_17 : decode cX6_bits 17 = .ok (.istore_n 1, 1) := by decide +kernel
theorem dX6_bits_18 : decode cX6_bits 18 = .ok (.iinc 2 1, 3) := by decide +kernel
theorem dX6_bits_21 : decode cX6_bits 21 = .ok (.goto (-17), 3) := by decide +kernel
theorem dX6_bits_24 : decode cX6_bits 24 = .ok (.iload_n 1, 1) := by decide +kernel
theorem dX6_bits_25 : decode cX6_bits 25 = .ok (.ireturn, 1) := by decide +kernel
theorem dX6_share_0 : decode cX6_share 0 = .ok (.iload_n 2, 1) := by decide +kernel
theorem dX6_share_1 : decode cX6_share 1 = .ok (.invokestatic 162, 3) := by decide +kernel
theorem dX6_share_4 : decode cX6_share 4 = .ok (.istore_n 3, 1) := by decide +kernel
theorem dX6_share_5 : decode cX6_share 5 = .ok (.iload_n 3, 1) := by decide +kernel
theorem dX6_share_6 : decode cX6_share 6 = .ok (.ifCond .ne 7, 3) := by decide +kernel
theorem dX6_share_9 : decode cX6_share 9 = .ok (.iconst 0, 1) := by decide +kernel
theorem dX6_share_10 : decode cX6_share 10 = .ok (.goto 6, 3) := by decide +kernel
theorem dX6_share_13 : decode cX6_share 13 = .ok (.iload_n 1, 1) := by decide +kernel
theorem dX6_share_14 : decode cX6_share 14 = .ok (.iload_n 3, 1) := by decide +kernel
theorem dX6_share_15 : decode cX6_share 15 = .ok (.idiv, 1) := by decide +kernel
theorem dX6_share_16 : decode cX6_share 16 = .ok (.istore 4, 2) := by decide +kernel
theorem dX6_share_18 : decode cX6_share 18 = .ok (.iconst 0, 1) := by decide +kernel
theorem dX6_share_19 : decode cX6_share 19 = .ok (.istore 5, 2) := by decide +kernel
theorem dX6_share_21 : decode cX6_share 21 = .ok (.iload 5, 2) := by decide +kernel
theorem dX6_share_23 : decode cX6_share 23 = .ok (.bipush 12, 2) := by decide +kernel
theorem dX6_share_25 : decode cX6_share 25 = .ok (.if_icmp .ge 37, 3) := by decide +kernel
theorem dX6_share_28 : decode cX6_share 28 = .ok (.aload_n 0, 1) := by decide +kernel
theorem dX6_share_29 : decode cX6_share 29 = .ok (.getfield 71, 3) := by decide +kernel
theorem dX6_share_32 : decode cX6_share 32 = .ok (.iload 5, 2) := by decide +kernel
theorem dX6_share_34 : decode cX6_share 34 = .ok (.iconst 3, 1) := by decide +kernel
theorem dX6_share_35 : decode cX6_share 35 = .ok (.idiv, 1) := by decide +kernel
theorem dX6_share_36 : decode cX6_share 36 = .ok (.dup2, 1) := by decide +kernel
theorem dX6_share_37 : decode cX6_share 37 = .ok (.iaload, 1) := by decide +kernel
theorem dX6_share_38 : decode cX6_share 38 = .ok (.iload_n 2, 1) := by decide +kernel
theorem dX6_share_39 : decode cX6_share 39 = .ok (.iload 5, 2) := by decide +kernel
theorem dX6_share_41 : decode cX6_share 41 = .ok (.ishr, 1) := by decide +kernel
theorem dX6_share_42 : decode cX6_share 42 = .ok (.iconst 1, 1) := by decide +kernel
theorem dX6_share_43 : decode cX6_share 43 = .ok (.iand, 1) := by decide +kernel
theorem dX6_share_44 : decode cX6_share 44 = .ok (.iconst 1, 1) := by decide +kernel
theorem dX6_share_45 : decode cX6_share 45 = .ok (.if_icmp .ne 8, 3) := by decide +kernel
theorem dX6_share_48 : decode cX6_share 48 = .ok (.iload 4, 2) := by decide +kernel
theorem dX6_share_50 : decode cX6_share 50 = .ok (.goto 4, 3) := by decide +kernel
theorem dX6_share_53 : decode cX6_share 53 = .ok (.iconst 0, 1) := by decide +kernel
theorem dX6_share_54 : decode cX6_share 54 = .ok (.iadd, 1) := by decide +kernel
theorem dX6_share_55 : decode cX6_share 55 = .ok (.iastore, 1) := by decide +kernel
theorem dX6_share_56 : decode cX6_share 56 = .ok (.iinc 5 1, 3) := by decide +kernel
theorem dX6_share_59 : decode cX6_share 59 = .ok (.goto (-38), 3) := by decide +kernel
theorem dX6_share_62 : decode cX6_share 62 = .ok (.aload_n 0, 1) := by decide +kernel
theorem dX6_share_63 : decode cX6_share 63 = .ok (.getfield 71, 3) := by decide +kernel
theorem dX6_share_66 : decode cX6_share 66 = .ok (.iconst 4, 1) := by decide +kernel
theorem dX6_share_67 : decode cX6_share 67 = .ok (.dup2, 1) := by decide +kernel
theorem dX6_share_68 : decode cX6_share 68 = .ok (.iaload, 1) := by decide +kernel
theorem dX6_share_69 : decode cX6_share 69 = .ok (.iload_n 1, 1) := by decide +kernel
theorem dX6_share_70 : decode cX6_share 70 = .ok (.iload 4, 2) := by decide +kernel
theorem dX6_share_72 : decode cX6_share 72 = .ok (.iload_n 3, 1) := by decide +kernel
theorem dX6_share_73 : decode cX6_share 73 = .ok (.imul, 1) := by decide +kernel
theorem dX6_share_74 : decode cX6_share 74 = .ok (.isub, 1) := by decide +kernel
theorem dX6_share_75 : decode cX6_share 75 = .ok (.iadd, 1) := by decide +kernel
theorem dX6_share_76 : decode cX6_share 76 = .ok (.iastore, 1) := by decide +kernel
theorem dX6_share_77 : decode cX6_share 77 = .ok (.return_, 1) := by decide +kernel
theorem dX6_endDay_0 : decode cX6_endDay 0 = .ok (.iconst 0, 1) := by decide +kernel
theorem dX6_endDay_1 : decode cX6_endDay 1 = .ok (.istore_n 1, 1) := by decide +kernel
theorem dX6_endDay_2 : decode cX6_endDay 2 = .ok (.iload_n 1, 1) := by decide +kernel
theorem dX6_endDay_3 : decode cX6_endDay 3 = .ok (.bipush 12, 2) := by decide +kernel
theorem dX6_endDay_5 : decode cX6_endDay 5 = .ok (.if_icmp .ge 15, 3) := by decide +kernel
theorem dX6_endDay_8 : decode cX6_endDay 8 = .ok (.aload_n 0, 1) := by decide +kernel
theorem dX6_endDay_9 : decode cX6_endDay 9 = .ok (.iload_n 1, 1) := by decide +kernel
theorem dX6_endDay_10 : decode cX6_endDay 10 = .ok (.invokevirtual 149, 3) := by decide +kernel
theorem dX6_endDay_13 : decode cX6_endDay 13 = .ok (.istore_n 2, 1) := by decide +kernel
theorem dX6_endDay_14 : decode cX6_endDay 14 = .ok (.iinc 1 1, 3) := by decide +kernel
theorem dX6_endDay_17 : decode cX6_endDay 17 = .ok (.goto (-15), 3) := by decide +kernel
theorem dX6_endDay_20 : decode cX6_endDay 20 = .ok (.iconst 0, 1) := by decide +kernel
theorem dX6_endDay_21 : decode cX6_endDay 21 = .ok (.istore_n 1, 1) := by decide +kernel
theorem dX6_endDay_22 : decode cX6_endDay 22 = .ok (.iload_n 1, 1) := by decide +kernel
theorem dX6_endDay_23 : decode cX6_endDay 23 = .ok (.aload_n 0, 1) := by decide +kernel
theorem dX6_endDay_24 : decode cX6_endDay 24 = .ok (.getfield 88, 3) := by decide +kernel
theorem dX6_endDay_27 : decode cX6_endDay 27 = .ok (.if_icmp .ge 33, 3) := by decide +kernel
theorem dX6_endDay_30 : decode cX6_endDay 30 = .ok (.aload_n 0, 1) := by decide +kernel
theorem dX6_endDay_31 : decode cX6_endDay 31 = .ok (.iload_n 1, 1) := by decide +kernel
theorem dX6_endDay_32 : decode cX6_endDay 32 = .ok (.invokevirtual 108, 3) := by decide +kernel
theorem dX6_endDay_35 : decode cX6_endDay 35 = .ok (.ifCond .eq 19, 3) := by decide +kernel
theorem dX6_endDay_38 : decode cX6_endDay 38 = .ok (.aload_n 0, 1) := by decide +kernel
theorem dX6_endDay_39 : decode cX6_endDay 39 = .ok (.aload_n 0, 1) := by decide +kernel
theorem dX6_endDay_40 : decode cX6_endDay 40 = .ok (.getfield 28, 3) := by decide +kernel
theorem dX6_endDay_43 : decode cX6_endDay 43 = .ok (.iload_n 1, 1) := by decide +kernel
theorem dX6_endDay_44 : decode cX6_endDay 44 = .ok (.iaload, 1) := by decide +kernel
theorem dX6_endDay_45 : decode cX6_endDay 45 = .ok (.aload_n 0, 1) := by decide +kernel
theorem dX6_endDay_46 : decode cX6_endDay 46 = .ok (.getfield 41, 3) := by decide +kernel
theorem dX6_endDay_49 : decode cX6_endDay 49 = .ok (.iload_n 1, 1) := by decide +kernel
theorem dX6_endDay_50 : decode cX6_endDay 50 = .ok (.iaload, 1) := by decide +kernel
theorem dX6_endDay_51 : decode cX6_endDay 51 = .ok (.invokevirtual 165, 3) := by decide +kernel
theorem dX6_endDay_54 : decode cX6_endDay 54 = .ok (.iinc 1 1, 3) := by decide +kernel
theorem dX6_endDay_57 : decode cX6_endDay 57 = .ok (.goto (-35), 3) := by decide +kernel
theorem dX6_endDay_60 : decode cX6_endDay 60 = .ok (.iconst 0, 1) := by decide +kernel
theorem dX6_endDay_61 : decode cX6_endDay 61 = .ok (.istore_n 1, 1) := by decide +kernel
theorem dX6_endDay_62 : decode cX6_endDay 62 = .ok (.iload_n 1, 1) := by decide +kernel
theorem dX6_endDay_63 : decode cX6_endDay 63 = .ok (.bipush 6, 2) := by decide +kernel
theorem dX6_endDay_65 : decode cX6_endDay 65 = .ok (.if_icmp .ge 84, 3) := by decide +kernel
theorem dX6_endDay_68 : decode cX6_endDay 68 = .ok (.iconst 0, 1) := by decide +kernel
theorem dX6_endDay_69 : decode cX6_endDay 69 = .ok (.istore_n 2, 1) := by decide +kernel
theorem dX6_endDay_70 : decode cX6_endDay 70 = .ok (.iconst 0, 1) := by decide +kernel
theorem dX6_endDay_71 : decode cX6_endDay 71 = .ok (.istore_n 3, 1) := by decide +kernel
theorem dX6_endDay_72 : decode cX6_endDay 72 = .ok (.iload_n 3, 1) := by decide +kernel
theorem dX6_endDay_73 : decode cX6_endDay 73 = .ok (.aload_n 0, 1) := by decide +kernel
theorem dX6_endDay_74 : decode cX6_endDay 74 = .ok (.getfield 88, 3) := by decide +kernel
theorem dX6_endDay_77 : decode cX6_endDay 77 = .ok (.if_icmp .ge 50, 3) := by decide +kernel
theorem dX6_endDay_80 : decode cX6_endDay 80 = .ok (.iload_n 2, 1) := by decide +kernel
theorem dX6_endDay_81 : decode cX6_endDay 81 = .ok (.aload_n 0, 1) := by decide +kernel
theorem dX6_endDay_82 : decode cX6_endDay 82 = .ok (.iload_n 3, 1) := by decide +kernel
theorem dX6_endDay_83 : decode cX6_endDay 83 = .ok (.invokevirtual 108, 3) := by decide +kernel
theorem dX6_endDay_86 : decode cX6_endDay 86 = .ok (.ifCond .eq 32, 3) := by decide +kernel
theorem dX6_endDay_89 : decode cX6_endDay 89 = .ok (.aload_n 0, 1) := by decide +kernel
theorem dX6_endDay_90 : decode cX6_endDay 90 = .ok (.getfield 16, 3) := by decide +kernel
theorem dX6_endDay_93 : decode cX6_endDay 93 = .ok (.iload_n 3, 1) := by decide +kernel
theorem dX6_endDay_94 : decode cX6_endDay 94 = .ok (.iaload, 1) := by decide +kernel
theorem dX6_endDay_95 : decode cX6_endDay 95 = .ok (.iconst 2, 1) := by decide +kernel
theorem dX6_endDay_96 : decode cX6_endDay 96 = .ok (.if_icmp .ne 22, 3) := by decide +kernel
theorem dX6_endDay_99 : decode cX6_endDay 99 = .ok (.aload_n 0, 1) := by decide +kernel
theorem dX6_endDay_100 : decode cX6_endDay 100 = .ok (.getfield 22, 3) := by decide +kernel
theorem dX6_endDay_103 : decode cX6_endDay 103 = .ok (.iload_n 3, 1) := by decide +kernel
theorem dX6_endDay_104 : decode cX6_endDay 104 = .ok (.iaload, 1) := by decide +kernel
theorem dX6_endDay_105 : decode cX6_endDay 105 = .ok (.iload_n 1, 1) := by decide +kernel
theorem dX6_endDay_106 : decode cX6_endDay 106 = .ok (.if_icmp .ne 12, 3) := by decide +kernel
theorem dX6_endDay_109 : decode cX6_endDay 109 = .ok (.aload_n 0, 1) := by decide +kernel
theorem dX6_endDay_110 : decode cX6_endDay 110 = .ok (.getfield 41, 3) := by decide +kernel
theorem dX6_endDay_113 : decode cX6_endDay 113 = .ok (.iload_n 3, 1) := by decide +kernel
theorem dX6_endDay_114 : decode cX6_endDay 114 = .ok (.iaload, 1) := by decide +kernel
theorem dX6_endDay_115 : decode cX6_endDay 115 = .ok (.goto 4, 3) := by decide +kernel
theorem dX6_endDay_118 : decode cX6_endDay 118 = .ok (.iconst 0, 1) := by decide +kernel
theorem dX6_endDay_119 : decode cX6_endDay 119 = .ok (.ior, 1) := by decide +kernel
theorem dX6_endDay_120 : decode cX6_endDay 120 = .ok (.istore_n 2, 1) := by decide +kernel
theorem dX6_endDay_121 : decode cX6_endDay 121 = .ok (.iinc 3 1, 3) := by decide +kernel
theorem dX6_endDay_124 : decode cX6_endDay 124 = .ok (.goto (-52), 3) := by decide +kernel
theorem dX6_endDay_127 : decode cX6_endDay 127 = .ok (.aload_n 0, 1) := by decide +kernel
theorem dX6_endDay_128 : decode cX6_endDay 128 = .ok (.iload_n 1, 1) := by decide +kernel
theorem dX6_endDay_129 : decode cX6_endDay 129 = .ok (.invokevirtual 118, 3) := by decide +kernel
theorem dX6_endDay_132 : decode cX6_endDay 132 = .ok (.ifCond .eq 11, 3) := by decide +kernel
theorem dX6_endDay_135 : decode cX6_endDay 135 = .ok (.aload_n 0, 1) := by decide +kernel
theorem dX6_endDay_136 : decode cX6_endDay 136 = .ok (.sipush 200, 3) := by decide +kernel
theorem dX6_endDay_139 : decode cX6_endDay 139 = .ok (.iload_n 2, 1) := by decide +kernel
theorem dX6_endDay_140 : decode cX6_endDay 140 = .ok (.invokevirtual 165, 3) := by decide +kernel
theorem dX6_endDay_143 : decode cX6_endDay 143 = .ok (.iinc 1 1, 3) := by decide +kernel
theorem dX6_endDay_146 : decode cX6_endDay 146 = .ok (.goto (-84), 3) := by decide +kernel
theorem dX6_endDay_149 : decode cX6_endDay 149 = .ok (.aload_n 0, 1) := by decide +kernel
theorem dX6_endDay_150 : decode cX6_endDay 150 = .ok (.dup, 1) := by decide +kernel
theorem dX6_endDay_151 : decode cX6_endDay 151 = .ok (.getfield 94, 3) := by decide +kernel
theorem dX6_endDay_154 : decode cX6_endDay 154 = .ok (.iconst 1, 1) := by decide +kernel
theorem dX6_endDay_155 : decode cX6_endDay 155 = .ok (.iadd, 1) := by decide +kernel
theorem dX6_endDay_156 : decode cX6_endDay 156 = .ok (.putfield 94, 3) := by decide +kernel
theorem dX6_endDay_159 : decode cX6_endDay 159 = .ok (.return_, 1) := by decide +kernel
theorem dX6_advance_0 : decode cX6_advance 0 = .ok (.aload_n 0, 1) := by decide +kernel
theorem dX6_advance_1 : decode cX6_advance 1 = .ok (.iload_n 1, 1) := by decide +kernel
theorem dX6_advance_2 : decode cX6_advance 2 = .ok (.iconst 1, 1) := by decide +kernel
theorem dX6_advance_3 : decode cX6_advance 3 = .ok (.bipush 60, 2) := by decide +kernel
theorem dX6_advance_5 : decode cX6_advance 5 = .ok (.invokestatic 84, 3) := by decide +kernel
theorem dX6_advance_8 : decode cX6_advance 8 = .ok (.ifCond .ne 7, 3) := by decide +kernel
theorem dX6_advance_11 : decode cX6_advance 11 = .ok (.iconst 1, 1) := by decide +kernel
theorem dX6_advance_12 : decode cX6_advance 12 = .ok (.goto 20, 3) := by decide +kernel
theorem dX6_advance_15 : decode cX6_advance 15 = .ok (.aload_n 0, 1) := by decide +kernel
theorem dX6_advance_16 : decode cX6_advance 16 = .ok (.getfield 94, 3) := by decide +kernel
theorem dX6_advance_19 : decode cX6_advance 19 = .ok (.iload_n 1, 1) := by decide +kernel
theorem dX6_advance_20 : decode cX6_advance 20 = .ok (.iadd, 1) := by decide +kernel
theorem dX6_advance_21 : decode cX6_advance 21 = .ok (.sipush 2000, 3) := by decide +kernel
theorem dX6_advance_24 : decode cX6_advance 24 = .ok (.if_icmp .le 7, 3) := by decide +kernel
theorem dX6_advance_27 : decode cX6_advance 27 = .ok (.iconst 2, 1) := by decide +kernel
theorem dX6_advance_28 : decode cX6_advance 28 = .ok (.goto 4, 3) := by decide +kernel
theorem dX6_advance_31 : decode cX6_advance 31 = .ok (.iconst 0, 1) := by decide +kernel
theorem dX6_advance_32 : decode cX6_advance 32 = .ok (.putfield 81, 3) := by decide +kernel
theorem dX6_advance_35 : decode cX6_advance 35 = .ok (.iconst 0, 1) := by decide +kernel
theorem dX6_advance_36 : decode cX6_advance 36 = .ok (.istore_n 2, 1) := by decide +kernel
theorem dX6_advance_37 : decode cX6_advance 37 = .ok (.iload_n 2, 1) := by decide +kernel
theorem dX6_advance_38 : decode cX6_advance 38 = .ok (.iload_n 1, 1) := by decide +kernel
theorem dX6_advance_39 : decode cX6_advance 39 = .ok (.if_icmp .ge 20, 3) := by decide +kernel
theorem dX6_advance_42 : decode cX6_advance 42 = .ok (.aload_n 0, 1) := by decide +kernel
theorem dX6_advance_43 : decode cX6_advance 43 = .ok (.getfield 81, 3) := by decide +kernel
theorem dX6_advance_46 : decode cX6_advance 46 = .ok (.ifCond .ne 13, 3) := by decide +kernel
theorem dX6_advance_49 : decode cX6_advance 49 = .ok (.aload_n 0, 1) := by decide +kernel
theorem dX6_advance_50 : decode cX6_advance 50 = .ok (.invokevirtual 168, 3) := by decide +kernel
theorem dX6_advance_53 : decode cX6_advance 53 = .ok (.iinc 2 1, 3) := by decide +kernel
theorem dX6_advance_56 : decode cX6_advance 56 = .ok (.goto (-19), 3) := by decide +kernel
theorem dX6_advance_59 : decode cX6_advance 59 = .ok (.aload_n 0, 1) := by decide +kernel
theorem dX6_advance_60 : decode cX6_advance 60 = .ok (.getfield 81, 3) := by decide +kernel
theorem dX6_advance_63 : decode cX6_advance 63 = .ok (.ifCond .ne 10, 3) := by decide +kernel
theorem dX6_advance_66 : decode cX6_advance 66 = .ok (.aload_n 0, 1) := by decide +kernel
theorem dX6_advance_67 : decode cX6_advance 67 = .ok (.getfield 94, 3) := by decide +kernel
theorem dX6_advance_70 : decode cX6_advance 70 = .ok (.goto 4, 3) := by decide +kernel
theorem dX6_advance_73 : decode cX6_advance 73 = .ok (.iconst 0, 1) := by decide +kernel
theorem dX6_advance_74 : decode cX6_advance 74 = .ok (.ireturn, 1) := by decide +kernel
theorem dX6_day_0 : decode cX6_day 0 = .ok (.aload_n 0, 1) := by decide +kernel
theorem dX6_day_1 : decode cX6_day 1 = .ok (.iconst 0, 1) := by decide +kernel
theorem dX6_day_2 : decode cX6_day 2 = .ok (.putfield 81, 3) := by decide +kernel
theorem dX6_day_5 : decode cX6_day 5 = .ok (.aload_n 0, 1) := by decide +kernel
theorem dX6_day_6 : decode cX6_day 6 = .ok (.getfield 94, 3) := by decide +kernel
theorem dX6_day_9 : decode cX6_day 9 = .ok (.ireturn, 1) := by decide +kernel
theorem dX6_tickets_0 : decode cX6_tickets 0 = .ok (.aload_n 0, 1) := by decide +kernel
theorem dX6_tickets_1 : decode cX6_tickets 1 = .ok (.iconst 0, 1) := by decide +kernel
theorem dX6_tickets_2 : decode cX6_tickets 2 = .ok (.putfield 81, 3) := by decide +kernel
theorem dX6_tickets_5 : decode cX6_tickets 5 = .ok (.aload_n 0, 1) := by decide +kernel
theorem dX6_tickets_6 : decode cX6_tickets 6 = .ok (.getfield 88, 3) := by decide +kernel
theorem dX6_tickets_9 : decode cX6_tickets 9 = .ok (.ireturn, 1) := by decide +kernel
theorem dX6_whereIs_0 : decode cX6_whereIs 0 = .ok (.aload_n 0, 1) := by decide +kernel
theorem dX6_whereIs_1 : decode cX6_whereIs 1 = .ok (.aload_n 0, 1) := by decide +kernel
theorem dX6_whereIs_2 : decode cX6_whereIs 2 = .ok (.iload_n 1, 1) := by decide +kernel
theorem dX6_whereIs_3 : decode cX6_whereIs 3 = .ok (.invokevirtual 121, 3) := by decide +kernel
theorem dX6_whereIs_6 : decode cX6_whereIs 6 = .ok (.ifCond .eq 7, 3) := by decide +kernel
theorem dX6_whereIs_9 : decode cX6_whereIs 9 = .ok (.iconst 0, 1) := by decide +kernel
theorem dX6_whereIs_10 : decode cX6_whereIs 10 = .ok (.goto 4, 3) := by decide +kernel
theorem dX6_whereIs_13 : decode cX6_whereIs 13 = .ok (.iconst 1, 1) := by decide +kernel
theorem dX6_whereIs_14 : decode cX6_whereIs 14 = .ok (.putfield 81, 3) := by decide +kernel
theorem dX6_whereIs_17 : decode cX6_whereIs 17 = .ok (.aload_n 0, 1) := by decide +kernel
theorem dX6_whereIs_18 : decode cX6_whereIs 18 = .ok (.getfield 81, 3) := by decide +kernel
theorem dX6_whereIs_21 : decode cX6_whereIs 21 = .ok (.ifCond .ne 12, 3) := by decide +kernel
theorem dX6_whereIs_24 : decode cX6_whereIs 24 = .ok (.aload_n 0, 1) := by decide +kernel
theorem dX6_whereIs_25 : decode cX6_whereIs 25 = .ok (.getfield 35, 3) := by decide +kernel
theorem dX6_whereIs_28 : decode cX6_whereIs 28 = .ok (.iload_n 1, 1) := by decide +kernel
theorem dX6_whereIs_29 : decode cX6_whereIs 29 = .ok (.iaload, 1) := by decide +kernel
theorem dX6_whereIs_30 : decode cX6_whereIs 30 = .ok (.goto 4, 3) := by decide +kernel
theorem dX6_whereIs_33 : decode cX6_whereIs 33 = .ok (.iconst 0, 1) := by decide +kernel
theorem dX6_whereIs_34 : decode cX6_whereIs 34 = .ok (.ireturn, 1) := by decide +kernel
theorem dX6_seen_0 : decode cX6_seen 0 = .ok (.aload_n 0, 1) := by decide +kernel
theorem dX6_seen_1 : decode cX6_seen 1 = .ok (.aload_n 0, 1) := by decide +kernel
theorem dX6_seen_2 : decode cX6_seen 2 = .ok (.iload_n 1, 1) := by decide +kernel
theorem dX6_seen_3 : decode cX6_seen 3 = .ok (.invokevirtual 121, 3) := by decide +kernel
theorem dX6_seen_6 : decode cX6_seen 6 = .ok (.ifCond .eq 7, 3) := by decide +kernel
theorem dX6_seen_9 : decode cX6_seen 9 = .ok (.iconst 0, 1) := by decide +kernel
theorem dX6_seen_10 : decode cX6_seen 10 = .ok (.goto 4, 3) := by decide +kernel
theorem dX6_seen_13 : decode cX6_seen 13 = .ok (.iconst 1, 1) := by decide +kernel
theorem dX6_seen_14 : decode cX6_seen 14 = .ok (.putfield 81, 3) := by decide +kernel
theorem dX6_seen_17 : decode cX6_seen 17 = .ok (.aload_n 0, 1) := by decide +kernel
theorem dX6_seen_18 : decode cX6_seen 18 = .ok (.getfield 81, 3) := by decide +kernel
theorem dX6_seen_21 : decode cX6_seen 21 = .ok (.ifCond .ne 12, 3) := by decide +kernel
theorem dX6_seen_24 : decode cX6_seen 24 = .ok (.aload_n 0, 1) := by decide +kernel
theorem dX6_seen_25 : decode cX6_seen 25 = .ok (.getfield 41, 3) := by decide +kernel
theorem dX6_seen_28 : decode cX6_seen 28 = .ok (.iload_n 1, 1) := by decide +kernel
theorem dX6_seen_29 : decode cX6_seen 29 = .ok (.iaload, 1) := by decide +kernel
theorem dX6_seen_30 : decode cX6_seen 30 = .ok (.goto 4, 3) := by decide +kernel
theorem dX6_seen_33 : decode cX6_seen 33 = .ok (.iconst 0, 1) := by decide +kernel
theorem dX6_seen_34 : decode cX6_seen 34 = .ok (.ireturn, 1) := by decide +kernel
theorem dX6_inside_0 : decode cX6_inside 0 = .ok (.aload_n 0, 1) := by decide +kernel
theorem dX6_inside_1 : decode cX6_inside 1 = .ok (.iload_n 1, 1) := by decide +kernel
theorem dX6_inside_2 : decode cX6_inside 2 = .ok (.invokestatic 142, 3) := by decide +kernel
theorem dX6_inside_5 : decode cX6_inside 5 = .ok (.ifCond .eq 7, 3) := by decide +kernel
theorem dX6_inside_8 : decode cX6_inside 8 = .ok (.iconst 0, 1) := by decide +kernel
theorem dX6_inside_9 : decode cX6_inside 9 = .ok (.goto 4, 3) := by decide +kernel
theorem dX6_inside_12 : decode cX6_inside 12 = .ok (.iconst 1, 1) := by decide +kernel
theorem dX6_inside_13 : decode cX6_inside 13 = .ok (.putfield 81, 3) := by decide +kernel
theorem dX6_inside_16 : decode cX6_inside 16 = .ok (.aload_n 0, 1) := by decide +kernel
theorem dX6_inside_17 : decode cX6_inside 17 = .ok (.getfield 81, 3) := by decide +kernel
theorem dX6_inside_20 : decode cX6_inside 20 = .ok (.ifCond .ne 11, 3) := by decide +kernel
theorem dX6_inside_23 : decode cX6_inside 23 = .ok (.aload_n 0, 1) := by decide +kernel
theorem dX6_inside_24 : decode cX6_inside 24 = .ok (.iload_n 1, 1) := by decide +kernel
theorem dX6_inside_25 : decode cX6_inside 25 = .ok (.invokevirtual 134, 3) := by decide +kernel
theorem dX6_inside_28 : decode cX6_inside 28 = .ok (.goto 4, 3) := by decide +kernel
theorem dX6_inside_31 : decode cX6_inside 31 = .ok (.iconst 0, 1) := by decide +kernel
theorem dX6_inside_32 : decode cX6_inside 32 = .ok (.ireturn, 1) := by decide +kernel
theorem dX6_queued_0 : decode cX6_queued 0 = .ok (.aload_n 0, 1) := by decide +kernel
theorem dX6_queued_1 : decode cX6_queued 1 = .ok (.iload_n 1, 1) := by decide +kernel
theorem dX6_queued_2 : decode cX6_queued 2 = .ok (.invokestatic 142, 3) := by decide +kernel
theorem dX6_queued_5 : decode cX6_queued 5 = .ok (.ifCond .eq 11, 3) := by decide +kernel
theorem dX6_queued_8 : decode cX6_queued 8 = .ok (.iload_n 2, 1) := by decide +kernel
theorem dX6_queued_9 : decode cX6_queued 9 = .ok (.ifCond .lt 7, 3) := by decide +kernel
theorem dX6_queued_12 : decode cX6_queued 12 = .ok (.iconst 0, 1) := by decide +kernel
theorem dX6_queued_13 : decode cX6_queued 13 = .ok (.goto 4, 3) := by decide +kernel
theorem dX6_queued_16 : decode cX6_queued 16 = .ok (.iconst 1, 1) := by decide +kernel
theorem dX6_queued_17 : decode cX6_queued 17 = .ok (.putfield 81, 3) := by decide +kernel
theorem dX6_queued_20 : decode cX6_queued 20 = .ok (.aload_n 0, 1) := by decide +kernel
theorem dX6_queued_21 : decode cX6_queued 21 = .ok (.getfield 81, 3) := by decide +kernel
theorem dX6_queued_24 : decode cX6_queued 24 = .ok (.ifCond .ne 12, 3) := by decide +kernel
theorem dX6_queued_27 : decode cX6_queued 27 = .ok (.aload_n 0, 1) := by decide +kernel
theorem dX6_queued_28 : decode cX6_queued 28 = .ok (.iload_n 1, 1) := by decide +kernel
theorem dX6_queued_29 : decode cX6_queued 29 = .ok (.iload_n 2, 1) := by decide +kernel
theorem dX6_queued_30 : decode cX6_queued 30 = .ok (.invokevirtual 131, 3) := by decide +kernel
theorem dX6_queued_33 : decode cX6_queued 33 = .ok (.goto 4, 3) := by decide +kernel
theorem dX6_queued_36 : decode cX6_queued 36 = .ok (.iconst 0, 1) := by decide +kernel
theorem dX6_queued_37 : decode cX6_queued 37 = .ok (.ireturn, 1) := by decide +kernel
theorem dX6_views_0 : decode cX6_views 0 = .ok (.aload_n 0, 1) := by decide +kernel
theorem dX6_views_1 : decode cX6_views 1 = .ok (.aload_n 0, 1) := by decide +kernel
theorem dX6_views_2 : decode cX6_views 2 = .ok (.iload_n 1, 1) := by decide +kernel
theorem dX6_views_3 : decode cX6_views 3 = .ok (.invokevirtual 155, 3) := by decide +kernel
theorem dX6_views_6 : decode cX6_views 6 = .ok (.ifCond .eq 7, 3) := by decide +kernel
theorem dX6_views_9 : decode cX6_views 9 = .ok (.iconst 0, 1) := by decide +kernel
theorem dX6_views_10 : decode cX6_views 10 = .ok (.goto 4, 3) := by decide +kernel
theorem dX6_views_13 : decode cX6_views 13 = .ok (.iconst 1, 1) := by decide +kernel
theorem dX6_views_14 : decode cX6_views 14 = .ok (.putfield 81, 3) := by decide +kernel
theorem dX6_views_17 : decode cX6_views 17 = .ok (.aload_n 0, 1) := by decide +kernel
theorem dX6_views_18 : decode cX6_views 18 = .ok (.getfield 81, 3) := by decide +kernel
theorem dX6_views_21 : decode cX6_views 21 = .ok (.ifCond .ne 12, 3) := by decide +kernel
theorem dX6_views_24 : decode cX6_views 24 = .ok (.aload_n 0, 1) := by decide +kernel
theorem dX6_views_25 : decode cX6_views 25 = .ok (.getfield 68, 3) := by decide +kernel
theorem dX6_views_28 : decode cX6_views 28 = .ok (.iload_n 1, 1) := by decide +kernel
theorem dX6_views_29 : decode cX6_views 29 = .ok (.iaload, 1) := by decide +kernel
theorem dX6_views_30 : decode cX6_views 30 = .ok (.goto 4, 3) := by decide +kernel
theorem dX6_views_33 : decode cX6_views 33 = .ok (.iconst 0, 1) := by decide +kernel
theorem dX6_views_34 : decode cX6_views 34 = .ok (.ireturn, 1) := by decide +kernel
theorem dX6_put_0 : decode cX6_put 0 = .ok (.aload_n 0, 1) := by decide +kernel
theorem dX6_put_1 : decode cX6_put 1 = .ok (.getfield 74, 3) := by decide +kernel
theorem dX6_put_4 : decode cX6_put 4 = .ok (.aload_n 0, 1) := by decide +kernel
theorem dX6_put_5 : decode cX6_put 5 = .ok (.getfield 171, 3) := by decide +kernel
theorem dX6_put_8 : decode cX6_put 8 = .ok (.iload_n 1, 1) := by decide +kernel
theorem dX6_put_9 : decode cX6_put 9 = .ok (.iastore, 1) := by decide +kernel
theorem dX6_put_10 : decode cX6_put 10 = .ok (.aload_n 0, 1) := by decide +kernel
theorem dX6_put_11 : decode cX6_put 11 = .ok (.dup, 1) := by decide +kernel
theorem dX6_put_12 : decode cX6_put 12 = .ok (.getfield 171, 3) := by decide +kernel
theorem dX6_put_15 : decode cX6_put 15 = .ok (.iconst 1, 1) := by decide +kernel
theorem dX6_put_16 : decode cX6_put 16 = .ok (.iadd, 1) := by decide +kernel
theorem dX6_put_17 : decode cX6_put 17 = .ok (.putfield 171, 3) := by decide +kernel
theorem dX6_put_20 : decode cX6_put 20 = .ok (.return_, 1) := by decide +kernel
theorem dX6_putNumber_0 : decode cX6_putNumber 0 = .ok (.sipush 1000, 3) := by decide +kernel
theorem dX6_putNumber_3 : decode cX6_putNumber 3 = .ok (.istore_n 2, 1) := by decide +kernel
theorem dX6_putNumber_4 : decode cX6_putNumber 4 = .ok (.iload_n 2, 1) := by decide +kernel
theorem dX6_putNumber_5 : decode cX6_putNumber 5 = .ok (.ifCond .le 34, 3) := by decide +kernel
theorem dX6_putNumber_8 : decode cX6_putNumber 8 = .ok (.iload_n 1, 1) := by decide +kernel
theorem dX6_putNumber_9 : decode cX6_putNumber 9 = .ok (.iload_n 2, 1) := by decide +kernel
theorem dX6_putNumber_10 : decode cX6_putNumber 10 = .ok (.if_icmp .ge 8, 3) := by decide +kernel
theorem dX6_putNumber_13 : decode cX6_putNumber 13 = .ok (.iload_n 2, 1) := by decide +kernel
theorem dX6_putNumber_14 : decode cX6_putNumber 14 = .ok (.iconst 1, 1) := by decide +kernel
theorem dX6_putNumber_15 : decode cX6_putNumber 15 = .ok (.if_icmp .ne 16, 3) := by decide +kernel
theorem dX6_putNumber_18 : decode cX6_putNumber 18 = .ok (.aload_n 0, 1) := by decide +kernel
theorem dX6_putNumber_19 : decode cX6_putNumber 19 = .ok (.bipush 48, 2) := by decide +kernel
theorem dX6_putNumber_21 : decode cX6_putNumber 21 = .ok (.iload_n 1, 1) := by decide +kernel
theorem dX6_putNumber_22 : decode cX6_putNumber 22 = .ok (.iload_n 2, 1) := by decide +kernel
theorem dX6_putNumber_23 : decode cX6_putNumber 23 = .ok (.idiv, 1) := by decide +kernel
theorem dX6_putNumber_24 : decode cX6_putNumber 24 = .ok (.bipush 10, 2) := by decide +kernel
theorem dX6_putNumber_26 : decode cX6_putNumber 26 = .ok (.irem, 1) := by decide +kernel
theorem dX6_putNumber_27 : decode cX6_putNumber 27 = .ok (.iadd, 1) := by decide +kernel
theorem dX6_putNumber_28 : decode cX6_putNumber 28 = .ok (.invokevirtual 174, 3) := by decide +kernel
theorem dX6_putNumber_31 : decode cX6_putNumber 31 = .ok (.iload_n 2, 1) := by decide +kernel
theorem dX6_putNumber_32 : decode cX6_putNumber 32 = .ok (.bipush 10, 2) := by decide +kernel
theorem dX6_putNumber_34 : decode cX6_putNumber 34 = .ok (.idiv, 1) := by decide +kernel
theorem dX6_putNumber_35 : decode cX6_putNumber 35 = .ok (.istore_n 2, 1) := by decide +kernel
theorem dX6_putNumber_36 : decode cX6_putNumber 36 = .ok (.goto (-32), 3) := by decide +kernel
theorem dX6_putNumber_39 : decode cX6_putNumber 39 = .ok (.return_, 1) := by decide +kernel
theorem dX6_titleAt_0 : decode cX6_titleAt 0 = .ok (.aload_n 0, 1) := by decide +kernel
theorem dX6_titleAt_1 : decode cX6_titleAt 1 = .ok (.aload_n 0, 1) := by decide +kernel
theorem dX6_titleAt_2 : decode cX6_titleAt 2 = .ok (.iload_n 1, 1) := by decide +kernel
theorem dX6_titleAt_3 : decode cX6_titleAt 3 = .ok (.invokevirtual 155, 3) := by decide +kernel
theorem dX6_titleAt_6 : decode cX6_titleAt 6 = .ok (.ifCond .eq 11, 3) := by decide +kernel
theorem dX6_titleAt_9 : decode cX6_titleAt 9 = .ok (.iload_n 2, 1) := by decide +kernel
theorem dX6_titleAt_10 : decode cX6_titleAt 10 = .ok (.ifCond .lt 7, 3) := by decide +kernel
theorem dX6_titleAt_13 : decode cX6_titleAt 13 = .ok (.iconst 0, 1) := by decide +kernel
theorem dX6_titleAt_14 : decode cX6_titleAt 14 = .ok (.goto 4, 3) := by decide +kernel
theorem dX6_titleAt_17 : decode cX6_titleAt 17 = .ok (.iconst 1, 1) := by decide +kernel
theorem dX6_titleAt_18 : decode cX6_titleAt 18 = .ok (.putfield 81, 3) := by decide +kernel
theorem dX6_titleAt_21 : decode cX6_titleAt 21 = .ok (.aload_n 0, 1) := by decide +kernel
theorem dX6_titleAt_22 : decode cX6_titleAt 22 = .ok (.getfield 81, 3) := by decide +kernel
theorem dX6_titleAt_25 : decode cX6_titleAt 25 = .ok (.ifCond .le 5, 3) := by decide +kernel
theorem dX6_titleAt_28 : decode cX6_titleAt 28 = .ok (.iconst 0, 1) := by decide +kernel
theorem dX6_titleAt_29 : decode cX6_titleAt 29 = .ok (.ireturn, 1) := by decide +kernel
theorem dX6_titleAt_30 : decode cX6_titleAt 30 = .ok (.aload_n 0, 1) := by decide +kernel
theorem dX6_titleAt_31 : decode cX6_titleAt 31 = .ok (.iconst 0, 1) := by decide +kernel
theorem dX6_titleAt_32 : decode cX6_titleAt 32 = .ok (.putfield 171, 3) := by decide +kernel
theorem dX6_titleAt_35 : decode cX6_titleAt 35 = .ok (.aload_n 0, 1) := by decide +kernel
theorem dX6_titleAt_36 : decode cX6_titleAt 36 = .ok (.bipush 65, 2) := by decide +kernel
theorem dX6_titleAt_38 : decode cX6_titleAt 38 = .ok (.aload_n 0, 1) := by decide +kernel
theorem dX6_titleAt_39 : decode cX6_titleAt 39 = .ok (.getfield 50, 3) := by decide +kernel
theorem dX6_titleAt_42 : decode cX6_titleAt 42 = .ok (.iload_n 1, 1) := by decide +kernel
theorem dX6_titleAt_43 : decode cX6_titleAt 43 = .ok (.iaload, 1) := by decide +kernel
theorem dX6_titleAt_44 : decode cX6_titleAt 44 = .ok (.iadd, 1) := by decide +kernel
theorem dX6_titleAt_45 : decode cX6_titleAt 45 = .ok (.invokevirtual 174, 3) := by decide +kernel
theorem dX6_titleAt_48 : decode cX6_titleAt 48 = .ok (.aload_n 0, 1) := by decide +kernel
theorem dX6_titleAt_49 : decode cX6_titleAt 49 = .ok (.iload_n 1, 1) := by decide +kernel
theorem dX6_titleAt_50 : decode cX6_titleAt 50 = .ok (.invokevirtual 177, 3) := by decide +kernel
theorem dX6_titleAt_53 : decode cX6_titleAt 53 = .ok (.aload_n 0, 1) := by decide +kernel
theorem dX6_titleAt_54 : decode cX6_titleAt 54 = .ok (.bipush 64, 2) := by decide +kernel
theorem dX6_titleAt_56 : decode cX6_titleAt 56 = .ok (.invokevirtual 174, 3) := by decide +kernel
theorem dX6_titleAt_59 : decode cX6_titleAt 59 = .ok (.aload_n 0, 1) := by decide +kernel
theorem dX6_titleAt_60 : decode cX6_titleAt 60 = .ok (.aload_n 0, 1) := by decide +kernel
theorem dX6_titleAt_61 : decode cX6_titleAt 61 = .ok (.getfield 53, 3) := by decide +kernel
theorem dX6_titleAt_64 : decode cX6_titleAt 64 = .ok (.iload_n 1, 1) := by decide +kernel
theorem dX6_titleAt_65 : decode cX6_titleAt 65 = .ok (.iaload, 1) := by decide +kernel
theorem dX6_titleAt_66 : decode cX6_titleAt 66 = .ok (.invokevirtual 177, 3) := by decide +kernel
theorem dX6_titleAt_69 : decode cX6_titleAt 69 = .ok (.aload_n 0, 1) := by decide +kernel
theorem dX6_titleAt_70 : decode cX6_titleAt 70 = .ok (.getfield 56, 3) := by decide +kernel
theorem dX6_titleAt_73 : decode cX6_titleAt 73 = .ok (.iload_n 1, 1) := by decide +kernel
theorem dX6_titleAt_74 : decode cX6_titleAt 74 = .ok (.baload, 1) := by decide +kernel
theorem dX6_titleAt_75 : decode cX6_titleAt 75 = .ok (.ifCond .eq 19, 3) := by decide +kernel
theorem dX6_titleAt_78 : decode cX6_titleAt 78 = .ok (.aload_n 0, 1) := by decide +kernel
theorem dX6_titleAt_79 : decode cX6_titleAt 79 = .ok (.bipush 36, 2) := by decide +kernel
theorem dX6_titleAt_81 : decode cX6_titleAt 81 = .ok (.invokevirtual 174, 3) := by decide +kernel
theorem dX6_titleAt_84 : decode cX6_titleAt 84 = .ok (.aload_n 0, 1) := by decide +kernel
theorem dX6_titleAt_85 : decode cX6_titleAt 85 = .ok (.aload_n 0, 1) := by decide +kernel
theorem dX6_titleAt_86 : decode cX6_titleAt 86 = .ok (.getfield 59, 3) := by decide +kernel
theorem dX6_titleAt_89 : decode cX6_titleAt 89 = .ok (.iload_n 1, 1) := by decide +kernel
theorem dX6_titleAt_90 : decode cX6_titleAt 90 = .ok (.iaload, 1) := by decide +kernel
theorem dX6_titleAt_91 : decode cX6_titleAt 91 = .ok (.invokevirtual 177, 3) := by decide +kernel
theorem dX6_titleAt_94 : decode cX6_titleAt 94 = .ok (.iload_n 2, 1) := by decide +kernel
theorem dX6_titleAt_95 : decode cX6_titleAt 95 = .ok (.aload_n 0, 1) := by decide +kernel
theorem dX6_titleAt_96 : decode cX6_titleAt 96 = .ok (.getfield 171, 3) := by decide +kernel
theorem dX6_titleAt_99 : decode cX6_titleAt 99 = .ok (.if_icmp .ge 12, 3) := by decide +kernel
theorem dX6_titleAt_102 : decode cX6_titleAt 102 = .ok (.aload_n 0, 1) := by decide +kernel
theorem dX6_titleAt_103 : decode cX6_titleAt 103 = .ok (.getfield 74, 3) := by decide +kernel
theorem dX6_titleAt_106 : decode cX6_titleAt 106 = .ok (.iload_n 2, 1) := by decide +kernel
theorem dX6_titleAt_107 : decode cX6_titleAt 107 = .ok (.iaload, 1) := by decide +kernel
theorem dX6_titleAt_108 : decode cX6_titleAt 108 = .ok (.goto 4, 3) := by decide +kernel
theorem dX6_titleAt_111 : decode cX6_titleAt 111 = .ok (.iconst (-1), 1) := by decide +kernel
theorem dX6_titleAt_112 : decode cX6_titleAt 112 = .ok (.ireturn, 1) := by decide +kernel
theorem dX6_money_0 : decode cX6_money 0 = .ok (.aload_n 0, 1) := by decide +kernel
theorem dX6_money_1 : decode cX6_money 1 = .ok (.iload_n 1, 1) := by decide +kernel
theorem dX6_money_2 : decode cX6_money 2 = .ok (.iconst (-1), 1) := by decide +kernel
theorem dX6_money_3 : decode cX6_money 3 = .ok (.if_icmp .eq 10, 3) := by decide +kernel
theorem dX6_money_6 : decode cX6_money 6 = .ok (.iload_n 1, 1) := by decide +kernel
theorem dX6_money_7 : decode cX6_money 7 = .ok (.invokestatic 97, 3) := by decide +kernel
theorem dX6_money_10 : decode cX6_money 10 = .ok (.ifCond .eq 7, 3) := by decide +kernel
theorem dX6_money_13 : decode cX6_money 13 = .ok (.iconst 0, 1) := by decide +kernel
theorem dX6_money_14 : decode cX6_money 14 = .ok (.goto 4, 3) := by decide +kernel
theorem dX6_money_17 : decode cX6_money 17 = .ok (.iconst 1, 1) := by decide +kernel
theorem dX6_money_18 : decode cX6_money 18 = .ok (.putfield 81, 3) := by decide +kernel
theorem dX6_money_21 : decode cX6_money 21 = .ok (.aload_n 0, 1) := by decide +kernel
theorem dX6_money_22 : decode cX6_money 22 = .ok (.getfield 81, 3) := by decide +kernel
theorem dX6_money_25 : decode cX6_money 25 = .ok (.ifCond .le 7, 3) := by decide +kernel
theorem dX6_money_28 : decode cX6_money 28 = .ok (.iconst 0, 1) := by decide +kernel
theorem dX6_money_29 : decode cX6_money 29 = .ok (.goto 18, 3) := by decide +kernel
theorem dX6_money_32 : decode cX6_money 32 = .ok (.aload_n 0, 1) := by decide +kernel
theorem dX6_money_33 : decode cX6_money 33 = .ok (.getfield 71, 3) := by decide +kernel
theorem dX6_money_36 : decode cX6_money 36 = .ok (.iload_n 1, 1) := by decide +kernel
theorem dX6_money_37 : decode cX6_money 37 = .ok (.iconst (-1), 1) := by decide +kernel
theorem dX6_money_38 : decode cX6_money 38 = .ok (.if_icmp .ne 7, 3) := by decide +kernel
theorem dX6_money_41 : decode cX6_money 41 = .ok (.iconst 4, 1) := by decide +kernel
theorem dX6_money_42 : decode cX6_money 42 = .ok (.goto 4, 3) := by decide +kernel
theorem dX6_money_45 : decode cX6_money 45 = .ok (.iload_n 1, 1) := by decide +kernel
theorem dX6_money_46 : decode cX6_money 46 = .ok (.iaload, 1) := by decide +kernel
theorem dX6_money_47 : decode cX6_money 47 = .ok (.ireturn, 1) := by decide +kernel
theorem dX6_moneyBySeen_0 : decode cX6_moneyBySeen 0 = .ok (.aload_n 0, 1) := by decide +kernel
theorem dX6_moneyBySeen_1 : decode cX6_moneyBySeen 1 = .ok (.iload_n 1, 1) := by decide +kernel
theorem dX6_moneyBySeen_2 : decode cX6_moneyBySeen 2 = .ok (.invokevirtual 180, 3) := by decide +kernel
theorem dX6_moneyBySeen_5 : decode cX6_moneyBySeen 5 = .ok (.ireturn, 1) := by decide +kernel
theorem dX6_held_0 : decode cX6_held 0 = .ok (.aload_n 0, 1) := by decide +kernel
theorem dX6_held_1 : decode cX6_held 1 = .ok (.iconst 0, 1) := by decide +kernel
theorem dX6_held_2 : decode cX6_held 2 = .ok (.putfield 81, 3) := by decide +kernel
theorem dX6_held_5 : decode cX6_held 5 = .ok (.iconst 0, 1) := by decide +kernel
theorem dX6_held_6 : decode cX6_held 6 = .ok (.istore_n 1, 1) := by decide +kernel
theorem dX6_held_7 : decode cX6_held 7 = .ok (.iconst 0, 1) := by decide +kernel
theorem dX6_held_8 : decode cX6_held 8 = .ok (.istore_n 2, 1) := by decide +kernel
theorem dX6_held_9 : decode cX6_held 9 = .ok (.iload_n 2, 1) := by decide +kernel
theorem dX6_held_10 : decode cX6_held 10 = .ok (.aload_n 0, 1) := by decide +kernel
theorem dX6_held_11 : decode cX6_held 11 = .ok (.getfield 88, 3) := by decide +kernel
theorem dX6_held_14 : decode cX6_held 14 = .ok (.if_icmp .ge 30, 3) := by decide +kernel
theorem dX6_held_17 : decode cX6_held 17 = .ok (.iload_n 1, 1) := by decide +kernel
theorem dX6_held_18 : decode cX6_held 18 = .ok (.aload_n 0, 1) := by decide +kernel
theorem dX6_held_19 : decode cX6_held 19 = .ok (.iload_n 2, 1) := by decide +kernel
theorem dX6_held_20 : decode cX6_held 20 = .ok (.invokevirtual 108, 3) := by decide +kernel
theorem dX6_held_23 : decode cX6_held 23 = .ok (.ifCond .eq 12, 3) := by decide +kernel
theorem dX6_held_26 : decode cX6_held 26 = .ok (.aload_n 0, 1) := by decide +kernel
theorem dX6_held_27 : decode cX6_held 27 = .ok (.getfield 28, 3) := by decide +kernel
theorem dX6_held_30 : decode cX6_held 30 = .ok (.iload_n 2, 1) := by decide +kernel
theorem dX6_held_31 : decode cX6_held 31 = .ok (.iaload, 1) := by decide +kernel
theorem dX6_held_32 : decode cX6_held 32 = .ok (.goto 4, 3) := by decide +kernel
theorem dX6_held_35 : decode cX6_held 35 = .ok (.iconst 0, 1) := by decide +kernel
theorem dX6_held_36 : decode cX6_held 36 = .ok (.iadd, 1) := by decide +kernel
theorem dX6_held_37 : decode cX6_held 37 = .ok (.istore_n 1, 1) := by decide +kernel
theorem dX6_held_38 : decode cX6_held 38 = .ok (.iinc 2 1, 3) := by decide +kernel
theorem dX6_held_41 : decode cX6_held 41 = .ok (.goto (-32), 3) := by decide +kernel
theorem dX6_held_44 : decode cX6_held 44 = .ok (.iconst 0, 1) := by decide +kernel
theorem dX6_held_45 : decode cX6_held 45 = .ok (.istore_n 2, 1) := by decide +kernel
theorem dX6_held_46 : decode cX6_held 46 = .ok (.iload_n 2, 1) := by decide +kernel
theorem dX6_held_47 : decode cX6_held 47 = .ok (.bipush 6, 2) := by decide +kernel
theorem dX6_held_49 : decode cX6_held 49 = .ok (.if_icmp .ge 41, 3) := by decide +kernel
theorem dX6_held_52 : decode cX6_held 52 = .ok (.iload_n 1, 1) := by decide +kernel
theorem dX6_held_53 : decode cX6_held 53 = .ok (.aload_n 0, 1) := by decide +kernel
theorem dX6_held_54 : decode cX6_held 54 = .ok (.iload_n 2, 1) := by decide +kernel
theorem dX6_held_55 : decode cX6_held 55 = .ok (.invokevirtual 118, 3) := by decide +kernel
theorem dX6_held_58 : decode cX6_held 58 = .ok (.ifCond .eq 23, 3) := by decide +kernel
theorem dX6_held_61 : decode cX6_held 61 = .ok (.sipush 200, 3) := by decide +kernel
theorem dX6_held_64 : decode cX6_held 64 = .ok (.aload_n 0, 1) := by decide +kernel
theorem dX6_held_65 : decode cX6_held 65 = .ok (.getfield 13, 3) := by decide +kernel
theorem dX6_held_68 : decode cX6_held 68 = .ok (.iload_n 2, 1) := by decide +kernel
theorem dX6_held_69 : decode cX6_held 69 = .ok (.iaload, 1) := by decide +kernel
theorem dX6_held_70 : decode cX6_held 70 = .ok (.aload_n 0, 1) := by decide +kernel
theorem dX6_held_71 : decode cX6_held 71 = .ok (.getfield 94, 3) := by decide +kernel
theorem dX6_held_74 : decode cX6_held 74 = .ok (.isub, 1) := by decide +kernel
theorem dX6_held_75 : decode cX6_held 75 = .ok (.iconst 1, 1) := by decide +kernel
theorem dX6_held_76 : decode cX6_held 76 = .ok (.iadd, 1) := by decide +kernel
theorem dX6_held_77 : decode cX6_held 77 = .ok (.imul, 1) := by decide +kernel
theorem dX6_held_78 : decode cX6_held 78 = .ok (.goto 4, 3) := by decide +kernel
theorem dX6_held_81 : decode cX6_held 81 = .ok (.iconst 0, 1) := by decide +kernel
theorem dX6_held_82 : decode cX6_held 82 = .ok (.iadd, 1) := by decide +kernel
theorem dX6_held_83 : decode cX6_held 83 = .ok (.istore_n 1, 1) := by decide +kernel
theorem dX6_held_84 : decode cX6_held 84 = .ok (.iinc 2 1, 3) := by decide +kernel
theorem dX6_held_87 : decode cX6_held 87 = .ok (.goto (-41), 3) := by decide +kernel
theorem dX6_held_90 : decode cX6_held 90 = .ok (.iload_n 1, 1) := by decide +kernel
theorem dX6_held_91 : decode cX6_held 91 = .ok (.ireturn, 1) := by decide +kernel
theorem dX6_takings_0 : decode cX6_takings 0 = .ok (.aload_n 0, 1) := by decide +kernel
theorem dX6_takings_1 : decode cX6_takings 1 = .ok (.iconst 0, 1) := by decide +kernel
theorem dX6_takings_2 : decode cX6_takings 2 = .ok (.putfield 81, 3) := by decide +kernel
theorem dX6_takings_5 : decode cX6_takings 5 = .ok (.aload_n 0, 1) := by decide +kernel
theorem dX6_takings_6 : decode cX6_takings 6 = .ok (.getfield 101, 3) := by decide +kernel
theorem dX6_takings_9 : decode cX6_takings 9 = .ok (.ireturn, 1) := by decide +kernel
