theorem dL_isNow_0 : decode cL_isNow 0 = .ok (.aload_n 1, 1) := by decide +kernel
theorem dL_isNow_1 : decode cL_isNow 1 = .ok (.iload_n 3, 1) := by decide +kernel
theorem dL_isNow_2 : decode cL_isNow 2 = .ok (.iaload, 1) := by decide +kernel
theorem dL_isNow_3 : decode cL_isNow 3 = .ok (.sipush 128, 3) := by decide +kernel
theorem dL_isNow_6 : decode cL_isNow 6 = .ok (.idiv, 1) := by decide +kernel
theorem dL_isNow_7 : decode cL_isNow 7 = .ok (.aload_n 0, 1) := by decide +kernel
theorem dL_isNow_8 : decode cL_isNow 8 = .ok (.iconst 2, 1) := by decide +kernel
theorem dL_isNow_9 : decode cL_isNow 9 = .ok (.iaload, 1) := by decide +kernel
theorem dL_isNow_10 : decode cL_isNow 10 = .ok (.if_icmp .ne 13, 3) := by decide +kernel
theorem dL_isNow_13 : decode cL_isNow 13 = .ok (.aload_n 2, 1) := by decide +kernel
theorem dL_isNow_14 : decode cL_isNow 14 = .ok (.iload_n 3, 1) := by decide +kernel
theorem dL_isNow_15 : decode cL_isNow 15 = .ok (.iaload, 1) := by decide +kernel
theorem dL_isNow_16 : decode cL_isNow 16 = .ok (.ifCond .lt 7, 3) := by decide +kernel
theorem dL_isNow_19 : decode cL_isNow 19 = .ok (.iconst 1, 1) := by decide +kernel
theorem dL_isNow_20 : decode cL_isNow 20 = .ok (.goto 4, 3) := by decide +kernel
theorem dL_isNow_23 : decode cL_isNow 23 = .ok (.iconst 0, 1) := by decide +kernel
theorem dL_isNow_24 : decode cL_isNow 24 = .ok (.ireturn, 1) := by decide +kernel
theorem dL_inside_0 : decode cL_inside 0 = .ok (.iconst 0, 1) := by decide +kernel
theorem dL_inside_1 : decode cL_inside 1 = .ok (.istore_n 3, 1) := by decide +kernel
theorem dL_inside_2 : decode cL_inside 2 = .ok (.iconst 0, 1) := by decide +kernel
theorem dL_inside_3 : decode cL_inside 3 = .ok (.istore 4, 2) := by decide +kernel
theorem dL_inside_5 : decode cL_inside 5 = .ok (.iload 4, 2) := by decide +kernel
theorem dL_inside_7 : decode cL_inside 7 = .ok (.aload_n 0, 1) := by decide +kernel
theorem dL_inside_8 : decode cL_inside 8 = .ok (.iconst 0, 1) := by decide +kernel
theorem dL_inside_9 : decode cL_inside 9 = .ok (.iaload, 1) := by decide +kernel
theorem dL_inside_10 : decode cL_inside 10 = .ok (.if_icmp .ge 27, 3) := by decide +kernel
theorem dL_inside_13 : decode cL_inside 13 = .ok (.iload_n 3, 1) := by decide +kernel
theorem dL_inside_14 : decode cL_inside 14 = .ok (.aload_n 1, 1) := by decide +kernel
theorem dL_inside_15 : decode cL_inside 15 = .ok (.iload 4, 2) := by decide +kernel
theorem dL_inside_17 : decode cL_inside 17 = .ok (.iaload, 1) := by decide +kernel
theorem dL_inside_18 : decode cL_inside 18 = .ok (.iload_n 2, 1) := by decide +kernel
theorem dL_inside_19 : decode cL_inside 19 = .ok (.iconst 1, 1) := by decide +kernel
theorem dL_inside_20 : decode cL_inside 20 = .ok (.iadd, 1) := by decide +kernel
theorem dL_inside_21 : decode cL_inside 21 = .ok (.if_icmp .ne 7, 3) := by decide +kernel
theorem dL_inside_24 : decode cL_inside 24 = .ok (.iconst 1, 1) := by decide +kernel
theorem dL_inside_25 : decode cL_inside 25 = .ok (.goto 4, 3) := by decide +kernel
theorem dL_inside_28 : decode cL_inside 28 = .ok (.iconst 0, 1) := by decide +kernel
theorem dL_inside_29 : decode cL_inside 29 = .ok (.iadd, 1) := by decide +kernel
theorem dL_inside_30 : decode cL_inside 30 = .ok (.istore_n 3, 1) := by decide +kernel
theorem dL_inside_31 : decode cL_inside 31 = .ok (.iinc 4 1, 3) := by decide +kernel
theorem dL_inside_34 : decode cL_inside 34 = .ok (.goto (-29), 3) := by decide +kernel
theorem dL_inside_37 : decode cL_inside 37 = .ok (.iload_n 3, 1) := by decide +kernel
theorem dL_inside_38 : decode cL_inside 38 = .ok (.ireturn, 1) := by decide +kernel
theorem dL_queued_0 : decode cL_queued 0 = .ok (.iconst (-1), 1) := by decide +kernel
theorem dL_queued_1 : decode cL_queued 1 = .ok (.istore 6, 2) := by decide +kernel
theorem dL_queued_3 : decode cL_queued 3 = .ok (.ldc 7, 2) := by decide +kernel
theorem dL_queued_5 : decode cL_queued 5 = .ok (.istore 7, 2) := by decide +kernel
theorem dL_queued_7 : decode cL_queued 7 = .ok (.iconst 0, 1) := by decide +kernel
theorem dL_queued_8 : decode cL_queued 8 = .ok (.istore 8, 2) := by decide +kernel
theorem dL_queued_10 : decode cL_queued 10 = .ok (.iload 8, 2) := by decide +kernel
theorem dL_queued_12 : decode cL_queued 12 = .ok (.aload_n 0, 1) := by decide +kernel
theorem dL_queued_13 : decode cL_queued 13 = .ok (.iconst 0, 1) := by decide +kernel
theorem dL_queued_14 : decode cL_queued 14 = .ok (.iaload, 1) := by decide +kernel
theorem dL_queued_15 : decode cL_queued 15 = .ok (.if_icmp .ge 93, 3) := by decide +kernel
theorem dL_queued_18 : decode cL_queued 18 = .ok (.aload_n 1, 1) := by decide +kernel
theorem dL_queued_19 : decode cL_queued 19 = .ok (.iload 8, 2) := by decide +kernel
theorem dL_queued_21 : decode cL_queued 21 = .ok (.iaload, 1) := by decide +kernel
theorem dL_queued_22 : decode cL_queued 22 = .ok (.iconst 4, 1) := by decide +kernel
theorem dL_queued_23 : decode cL_queued 23 = .ok (.irem, 1) := by decide +kernel
theorem dL_queued_24 : decode cL_queued 24 = .ok (.iconst 2, 1) := by decide +kernel
theorem dL_queued_25 : decode cL_queued 25 = .ok (.if_icmp .ne 7, 3) := by decide +kernel
theorem dL_queued_28 : decode cL_queued 28 = .ok (.iconst 0, 1) := by decide +kernel
theorem dL_queued_29 : decode cL_queued 29 = .ok (.goto 5, 3) := by decide +kernel
theorem dL_queued_32 : decode cL_queued 32 = .ok (.ldc 8, 2) := by decide +kernel
theorem dL_queued_34 : decode cL_queued 34 = .ok (.aload_n 3, 1) := by decide +kernel
theorem dL_queued_35 : decode cL_queued 35 = .ok (.iload 8, 2) := by decide +kernel
theorem dL_queued_37 : decode cL_queued 37 = .ok (.iaload, 1) := by decide +kernel
theorem dL_queued_38 : decode cL_queued 38 = .ok (.iadd, 1) := by decide +kernel
theorem dL_queued_39 : decode cL_queued 39 = .ok (.istore 9, 2) := by decide +kernel
theorem dL_queued_41 : decode cL_queued 41 = .ok (.aload_n 2, 1) := by decide +kernel
theorem dL_queued_42 : decode cL_queued 42 = .ok (.iload 8, 2) := by decide +kernel
theorem dL_queued_44 : decode cL_queued 44 = .ok (.iaload, 1) := by decide +kernel
theorem dL_queued_45 : decode cL_queued 45 = .ok (.iload 4, 2) := by decide +kernel
theorem dL_queued_47 : decode cL_queued 47 = .ok (.bipush 102, 2) := by decide +kernel
theorem dL_queued_49 : decode cL_queued 49 = .ok (.iadd, 1) := by decide +kernel
theorem dL_queued_50 : decode cL_queued 50 = .ok (.if_icmp .ne 21, 3) := by decide +kernel
theorem dL_queued_53 : decode cL_queued 53 = .ok (.iload 9, 2) := by decide +kernel
theorem dL_queued_55 : decode cL_queued 55 = .ok (.iload 5, 2) := by decide +kernel
theorem dL_queued_57 : decode cL_queued 57 = .ok (.if_icmp .le 14, 3) := by decide +kernel
theorem dL_queued_60 : decode cL_queued 60 = .ok (.iload 9, 2) := by decide +kernel
theorem dL_queued_62 : decode cL_queued 62 = .ok (.iload 7, 2) := by decide +kernel
theorem dL_queued_64 : decode cL_queued 64 = .ok (.if_icmp .ge 7, 3) := by decide +kernel
theorem dL_queued_67 : decode cL_queued 67 = .ok (.iconst 1, 1) := by decide +kernel
theorem dL_queued_68 : decode cL_queued 68 = .ok (.goto 4, 3) := by decide +kernel
theorem dL_queued_71 : decode cL_queued 71 = .ok (.iconst 0, 1) := by decide +kernel
theorem dL_queued_72 : decode cL_queued 72 = .ok (.istore 10, 2) := by decide +kernel
theorem dL_queued_74 : decode cL_queued 74 = .ok (.iload 10, 2) := by decide +kernel
theorem dL_queued_76 : decode cL_queued 76 = .ok (.ifCond .eq 8, 3) := by decide +kernel
theorem dL_queued_79 : decode cL_queued 79 = .ok (.iload 8, 2) := by decide +kernel
theorem dL_queued_81 : decode cL_queued 81 = .ok (.goto 5, 3) := by decide +kernel
theorem dL_queued_84 : decode cL_queued 84 = .ok (.iload 6, 2) := by decide +kernel
theorem dL_queued_86 : decode cL_queued 86 = .ok (.istore 6, 2) := by decide +kernel
theorem dL_queued_88 : decode cL_queued 88 = .ok (.iload 10, 2) := by decide +kernel
theorem dL_queued_90 : decode cL_queued 90 = .ok (.ifCond .eq 8, 3) := by decide +kernel
theorem dL_queued_93 : decode cL_queued 93 = .ok (.iload 9, 2) := by decide +kernel
theorem dL_queued_95 : decode cL_queued 95 = .ok (.goto 5, 3) := by decide +kernel
theorem dL_queued_98 : decode cL_queued 98 = .ok (.iload 7, 2) := by decide +kernel
theorem dL_queued_100 : decode cL_queued 100 = .ok (.istore 7, 2) := by decide +kernel
theorem dL_queued_102 : decode cL_queued 102 = .ok (.iinc 8 1, 3) := by decide +kernel
theorem dL_queued_105 : decode cL_queued 105 = .ok (.goto (-95), 3) := by decide +kernel
theorem dL_queued_108 : decode cL_queued 108 = .ok (.iload 6, 2) := by decide +kernel
theorem dL_queued_110 : decode cL_queued 110 = .ok (.ireturn, 1) := by decide +kernel
theorem dL_rank_0 : decode cL_rank 0 = .ok (.iload_n 2, 1) := by decide +kernel
theorem dL_rank_1 : decode cL_rank 1 = .ok (.ifCond .ge 8, 3) := by decide +kernel
theorem dL_rank_4 : decode cL_rank 4 = .ok (.ldc 9, 2) := by decide +kernel
theorem dL_rank_6 : decode cL_rank 6 = .ok (.goto 22, 3) := by decide +kernel
theorem dL_rank_9 : decode cL_rank 9 = .ok (.aload_n 0, 1) := by decide +kernel
theorem dL_rank_10 : decode cL_rank 10 = .ok (.iload_n 2, 1) := by decide +kernel
theorem dL_rank_11 : decode cL_rank 11 = .ok (.iaload, 1) := by decide +kernel
theorem dL_rank_12 : decode cL_rank 12 = .ok (.iconst 4, 1) := by decide +kernel
theorem dL_rank_13 : decode cL_rank 13 = .ok (.irem, 1) := by decide +kernel
theorem dL_rank_14 : decode cL_rank 14 = .ok (.iconst 2, 1) := by decide +kernel
theorem dL_rank_15 : decode cL_rank 15 = .ok (.if_icmp .ne 7, 3) := by decide +kernel
theorem dL_rank_18 : decode cL_rank 18 = .ok (.iconst 0, 1) := by decide +kernel
theorem dL_rank_19 : decode cL_rank 19 = .ok (.goto 5, 3) := by decide +kernel
theorem dL_rank_22 : decode cL_rank 22 = .ok (.ldc 8, 2) := by decide +kernel
theorem dL_rank_24 : decode cL_rank 24 = .ok (.aload_n 1, 1) := by decide +kernel
theorem dL_rank_25 : decode cL_rank 25 = .ok (.iload_n 2, 1) := by decide +kernel
theorem dL_rank_26 : decode cL_rank 26 = .ok (.iaload, 1) := by decide +kernel
theorem dL_rank_27 : decode cL_rank 27 = .ok (.iadd, 1) := by decide +kernel
theorem dL_rank_28 : decode cL_rank 28 = .ok (.ireturn, 1) := by decide +kernel
theorem dL_sees_0 : decode cL_sees 0 = .ok (.aload_n 2, 1) := by decide +kernel
theorem dL_sees_1 : decode cL_sees 1 = .ok (.iload 7, 2) := by decide +kernel
theorem dL_sees_3 : decode cL_sees 3 = .ok (.iload 8, 2) := by decide +kernel
theorem dL_sees_5 : decode cL_sees 5 = .ok (.iconst 1, 1) := by decide +kernel
theorem dL_sees_6 : decode cL_sees 6 = .ok (.iadd, 1) := by decide +kernel
theorem dL_sees_7 : decode cL_sees 7 = .ok (.iastore, 1) := by decide +kernel
theorem dL_sees_8 : decode cL_sees 8 = .ok (.aload_n 1, 1) := by decide +kernel
theorem dL_sees_9 : decode cL_sees 9 = .ok (.iload 7, 2) := by decide +kernel
theorem dL_sees_11 : decode cL_sees 11 = .ok (.iaload, 1) := by decide +kernel
theorem dL_sees_12 : decode cL_sees 12 = .ok (.iload 8, 2) := by decide +kernel
theorem dL_sees_14 : decode cL_sees 14 = .ok (.ishr, 1) := by decide +kernel
theorem dL_sees_15 : decode cL_sees 15 = .ok (.iconst 1, 1) := by decide +kernel
theorem dL_sees_16 : decode cL_sees 16 = .ok (.iand, 1) := by decide +kernel
theorem dL_sees_17 : decode cL_sees 17 = .ok (.ifCond .ne 7, 3) := by decide +kernel
theorem dL_sees_20 : decode cL_sees 20 = .ok (.iconst 1, 1) := by decide +kernel
theorem dL_sees_21 : decode cL_sees 21 = .ok (.goto 4, 3) := by decide +kernel
theorem dL_sees_24 : decode cL_sees 24 = .ok (.iconst 0, 1) := by decide +kernel
theorem dL_sees_25 : decode cL_sees 25 = .ok (.istore 9, 2) := by decide +kernel
theorem dL_sees_27 : decode cL_sees 27 = .ok (.aload_n 1, 1) := by decide +kernel
theorem dL_sees_28 : decode cL_sees 28 = .ok (.iload 7, 2) := by decide +kernel
theorem dL_sees_30 : decode cL_sees 30 = .ok (.dup2, 1) := by decide +kernel
theorem dL_sees_31 : decode cL_sees 31 = .ok (.iaload, 1) := by decide +kernel
theorem dL_sees_32 : decode cL_sees 32 = .ok (.iconst 1, 1) := by decide +kernel
theorem dL_sees_33 : decode cL_sees 33 = .ok (.iload 8, 2) := by decide +kernel
theorem dL_sees_35 : decode cL_sees 35 = .ok (.ishl, 1) := by decide +kernel
theorem dL_sees_36 : decode cL_sees 36 = .ok (.ior, 1) := by decide +kernel
theorem dL_sees_37 : decode cL_sees 37 = .ok (.iastore, 1) := by decide +kernel
theorem dL_sees_38 : decode cL_sees 38 = .ok (.iconst 0, 1) := by decide +kernel
theorem dL_sees_39 : decode cL_sees 39 = .ok (.istore 10, 2) := by decide +kernel
theorem dL_sees_41 : decode cL_sees 41 = .ok (.iload 10, 2) := by decide +kernel
theorem dL_sees_43 : decode cL_sees 43 = .ok (.aload_n 0, 1) := by decide +kernel
theorem dL_sees_44 : decode cL_sees 44 = .ok (.iconst 1, 1) := by decide +kernel
theorem dL_sees_45 : decode cL_sees 45 = .ok (.iaload, 1) := by decide +kernel
theorem dL_sees_46 : decode cL_sees 46 = .ok (.if_icmp .ge 121, 3) := by decide +kernel
theorem dL_sees_49 : decode cL_sees 49 = .ok (.iload 9, 2) := by decide +kernel
theorem dL_sees_51 : decode cL_sees 51 = .ok (.ifCond .eq 116, 3) := by decide +kernel
theorem dL_sees_54 : decode cL_sees 54 = .ok (.aload_n 3, 1) := by decide +kernel
theorem dL_sees_55 : decode cL_sees 55 = .ok (.iload 10, 2) := by decide +kernel
theorem dL_sees_57 : decode cL_sees 57 = .ok (.iaload, 1) := by decide +kernel
theorem dL_sees_58 : decode cL_sees 58 = .ok (.iconst 4, 1) := by decide +kernel
theorem dL_sees_59 : decode cL_sees 59 = .ok (.idiv, 1) := by decide +kernel
theorem dL_sees_60 : decode cL_sees 60 = .ok (.bipush 16, 2) := by decide +kernel
theorem dL_sees_62 : decode cL_sees 62 = .ok (.irem, 1) := by decide +kernel
theorem dL_sees_63 : decode cL_sees 63 = .ok (.iload 8, 2) := by decide +kernel
theorem dL_sees_65 : decode cL_sees 65 = .ok (.if_icmp .ne 7, 3) := by decide +kernel
theorem dL_sees_68 : decode cL_sees 68 = .ok (.iconst 1, 1) := by decide +kernel
theorem dL_sees_69 : decode cL_sees 69 = .ok (.goto 4, 3) := by decide +kernel
theorem dL_sees_72 : decode cL_sees 72 = .ok (.iconst 0, 1) := by decide +kernel
theorem dL_sees_73 : decode cL_sees 73 = .ok (.istore 11, 2) := by decide +kernel
theorem dL_sees_75 : decode cL_sees 75 = .ok (.iload 11, 2) := by decide +kernel
theorem dL_sees_77 : decode cL_sees 77 = .ok (.ifCond .eq 27, 3) := by decide +kernel
theorem dL_sees_80 : decode cL_sees 80 = .ok (.aload_n 3, 1) := by decide +kernel
theorem dL_sees_81 : decode cL_sees 81 = .ok (.iload 10, 2) := by decide +kernel
theorem dL_sees_83 : decode cL_sees 83 = .ok (.iaload, 1) := by decide +kernel
theorem dL_sees_84 : decode cL_sees 84 = .ok (.bipush 64, 2) := by decide +kernel
theorem dL_sees_86 : decode cL_sees 86 = .ok (.idiv, 1) := by decide +kernel
theorem dL_sees_87 : decode cL_sees 87 = .ok (.iconst 2, 1) := by decide +kernel
theorem dL_sees_88 : decode cL_sees 88 = .ok (.irem, 1) := by decide +kernel
theorem dL_sees_89 : decode cL_sees 89 = .ok (.iconst 1, 1) := by decide +kernel
theorem dL_sees_90 : decode cL_sees 90 = .ok (.if_icmp .ne 14, 3) := by decide +kernel
theorem dL_sees_93 : decode cL_sees 93 = .ok (.aload_n 3, 1) := by decide +kernel
theorem dL_sees_94 : decode cL_sees 94 = .ok (.iload 10, 2) := by decide +kernel
theorem dL_sees_96 : decode cL_sees 96 = .ok (.iaload, 1) := by decide +kernel
theorem dL_sees_97 : decode cL_sees 97 = .ok (.sipush 128, 3) := by decide +kernel
theorem dL_sees_100 : decode cL_sees 100 = .ok (.idiv, 1) := by decide +kernel
theorem dL_sees_101 : decode cL_sees 101 = .ok (.goto 4, 3) := by decide +kernel
theorem dL_sees_104 : decode cL_sees 104 = .ok (.iconst 0, 1) := by decide +kernel
theorem dL_sees_105 : decode cL_sees 105 = .ok (.istore 12, 2) := by decide +kernel
theorem dL_sees_107 : decode cL_sees 107 = .ok (.aload 5, 2) := by decide +kernel
theorem dL_sees_109 : decode cL_sees 109 = .ok (.iload 10, 2) := by decide +kernel
theorem dL_sees_111 : decode cL_sees 111 = .ok (.dup2, 1) := by decide +kernel
theorem dL_sees_112 : decode cL_sees 112 = .ok (.iaload, 1) := by decide +kernel
theorem dL_sees_113 : decode cL_sees 113 = .ok (.iload 11, 2) := by decide +kernel
theorem dL_sees_115 : decode cL_sees 115 = .ok (.ifCond .eq 7, 3) := by decide +kernel
theorem dL_sees_118 : decode cL_sees 118 = .ok (.iconst 1, 1) := by decide +kernel
theorem dL_sees_119 : decode cL_sees 119 = .ok (.goto 4, 3) := by decide +kernel
theorem dL_sees_122 : decode cL_sees 122 = .ok (.iconst 0, 1) := by decide +kernel
theorem dL_sees_123 : decode cL_sees 123 = .ok (.iadd, 1) := by decide +kernel
theorem dL_sees_124 : decode cL_sees 124 = .ok (.iastore, 1) := by decide +kernel
theorem dL_sees_125 : decode cL_sees 125 = .ok (.aload 6, 2) := by decide +kernel
theorem dL_sees_127 : decode cL_sees 127 = .ok (.iload 8, 2) := by decide +kernel
theorem dL_sees_129 : decode cL_sees 129 = .ok (.iconst 3, 1) := by decide +kernel
theorem dL_sees_130 : decode cL_sees 130 = .ok (.idiv, 1) := by decide +kernel
theorem dL_sees_131 : decode cL_sees 131 = .ok (.dup2, 1) := by decide +kernel
theorem dL_sees_132 : decode cL_sees 132 = .ok (.iaload, 1) := by decide +kernel
theorem dL_sees_133 : decode cL_sees 133 = .ok (.iload 12, 2) := by decide +kernel
theorem dL_sees_135 : decode cL_sees 135 = .ok (.isub, 1) := by decide +kernel
theorem dL_sees_136 : decode cL_sees 136 = .ok (.iastore, 1) := by decide +kernel
theorem dL_sees_137 : decode cL_sees 137 = .ok (.aload 6, 2) := by decide +kernel
theorem dL_sees_139 : decode cL_sees 139 = .ok (.aload_n 3, 1) := by decide +kernel
theorem dL_sees_140 : decode cL_sees 140 = .ok (.iload 10, 2) := by decide +kernel
theorem dL_sees_142 : decode cL_sees 142 = .ok (.iaload, 1) := by decide +kernel
theorem dL_sees_143 : decode cL_sees 143 = .ok (.iconst 4, 1) := by decide +kernel
theorem dL_sees_144 : decode cL_sees 144 = .ok (.irem, 1) := by decide +kernel
theorem dL_sees_145 : decode cL_sees 145 = .ok (.dup2, 1) := by decide +kernel
theorem dL_sees_146 : decode cL_sees 146 = .ok (.iaload, 1) := by decide +kernel
theorem dL_sees_147 : decode cL_sees 147 = .ok (.iload 12, 2) := by decide +kernel
theorem dL_sees_149 : decode cL_sees 149 = .ok (.iadd, 1) := by decide +kernel
theorem dL_sees_150 : decode cL_sees 150 = .ok (.iastore, 1) := by decide +kernel
theorem dL_sees_151 : decode cL_sees 151 = .ok (.aload 4, 2) := by decide +kernel
theorem dL_sees_153 : decode cL_sees 153 = .ok (.iload 10, 2) := by decide +kernel
theorem dL_sees_155 : decode cL_sees 155 = .ok (.dup2, 1) := by decide +kernel
theorem dL_sees_156 : decode cL_sees 156 = .ok (.iaload, 1) := by decide +kernel
theorem dL_sees_157 : decode cL_sees 157 = .ok (.iload 12, 2) := by decide +kernel
theorem dL_sees_159 : decode cL_sees 159 = .ok (.iadd, 1) := by decide +kernel
theorem dL_sees_160 : decode cL_sees 160 = .ok (.iastore, 1) := by decide +kernel
theorem dL_sees_161 : decode cL_sees 161 = .ok (.iinc 10 1, 3) := by decide +kernel
theorem dL_sees_164 : decode cL_sees 164 = .ok (.goto (-123), 3) := by decide +kernel
theorem dL_sees_167 : decode cL_sees 167 = .ok (.return_, 1) := by decide +kernel
theorem dL_letsIn_0 : decode cL_letsIn 0 = .ok (.aload_n 0, 1) := by decide +kernel
theorem dL_letsIn_1 : decode cL_letsIn 1 = .ok (.aload_n 1, 1) := by decide +kernel
theorem dL_letsIn_2 : decode cL_letsIn 2 = .ok (.aload_n 3, 1) := by decide +kernel
theorem dL_letsIn_3 : decode cL_letsIn 3 = .ok (.aload 4, 2) := by decide +kernel
theorem dL_letsIn_5 : decode cL_letsIn 5 = .ok (.iload 10, 2) := by decide +kernel
theorem dL_letsIn_7 : decode cL_letsIn 7 = .ok (.iconst (-1), 1) := by decide +kernel
theorem dL_letsIn_8 : decode cL_letsIn 8 = .ok (.invokestatic 10, 3) := by decide +kernel
theorem dL_letsIn_11 : decode cL_letsIn 11 = .ok (.istore 11, 2) := by decide +kernel
theorem dL_letsIn_13 : decode cL_letsIn 13 = .ok (.iload 11, 2) := by decide +kernel
theorem dL_letsIn_15 : decode cL_letsIn 15 = .ok (.ifCond .lt 52, 3) := by decide +kernel
theorem dL_letsIn_18 : decode cL_letsIn 18 = .ok (.aload_n 0, 1) := by decide +kernel
theorem dL_letsIn_19 : decode cL_letsIn 19 = .ok (.aload_n 3, 1) := by decide +kernel
theorem dL_letsIn_20 : decode cL_letsIn 20 = .ok (.iload 10, 2) := by decide +kernel
theorem dL_letsIn_22 : decode cL_letsIn 22 = .ok (.invokestatic 16, 3) := by decide +kernel
theorem dL_letsIn_25 : decode cL_letsIn 25 = .ok (.aload 5, 2) := by decide +kernel
theorem dL_letsIn_27 : decode cL_letsIn 27 = .ok (.iload 10, 2) := by decide +kernel
theorem dL_letsIn_29 : decode cL_letsIn 29 = .ok (.iaload, 1) := by decide +kernel
theorem dL_letsIn_30 : decode cL_letsIn 30 = .ok (.if_icmp .ge 37, 3) := by decide +kernel
theorem dL_letsIn_33 : decode cL_letsIn 33 = .ok (.aload_n 0, 1) := by decide +kernel
theorem dL_letsIn_34 : decode cL_letsIn 34 = .ok (.aload_n 2, 1) := by decide +kernel
theorem dL_letsIn_35 : decode cL_letsIn 35 = .ok (.aload_n 3, 1) := by decide +kernel
theorem dL_letsIn_36 : decode cL_letsIn 36 = .ok (.aload 6, 2) := by decide +kernel
theorem dL_letsIn_38 : decode cL_letsIn 38 = .ok (.aload 7, 2) := by decide +kernel
theorem dL_letsIn_40 : decode cL_letsIn 40 = .ok (.aload 8, 2) := by decide +kernel
theorem dL_letsIn_42 : decode cL_letsIn 42 = .ok (.aload 9, 2) := by decide +kernel
theorem dL_letsIn_44 : decode cL_letsIn 44 = .ok (.iload 11, 2) := by decide +kernel
theorem dL_letsIn_46 : decode cL_letsIn 46 = .ok (.iload 10, 2) := by decide +kernel
theorem dL_letsIn_48 : decode cL_letsIn 48 = .ok (.invokestatic 20, 3) := by decide +kernel
theorem dL_letsIn_51 : decode cL_letsIn 51 = .ok (.aload_n 0, 1) := by decide +kernel
theorem dL_letsIn_52 : decode cL_letsIn 52 = .ok (.aload_n 1, 1) := by decide +kernel
theorem dL_letsIn_53 : decode cL_letsIn 53 = .ok (.aload_n 3, 1) := by decide +kernel
theorem dL_letsIn_54 : decode cL_letsIn 54 = .ok (.aload 4, 2) := by decide +kernel
theorem dL_letsIn_56 : decode cL_letsIn 56 = .ok (.iload 10, 2) := by decide +kernel
theorem dL_letsIn_58 : decode cL_letsIn 58 = .ok (.iconst (-1), 1) := by decide +kernel
theorem dL_letsIn_59 : decode cL_letsIn 59 = .ok (.invokestatic 10, 3) := by decide +kernel
theorem dL_letsIn_62 : decode cL_letsIn 62 = .ok (.istore 11, 2) := by decide +kernel
theorem dL_letsIn_64 : decode cL_letsIn 64 = .ok (.goto (-51), 3) := by decide +kernel
theorem dL_letsIn_67 : decode cL_letsIn 67 = .ok (.return_, 1) := by decide +kernel
theorem dL_bits_0 : decode cL_bits 0 = .ok (.iconst 0, 1) := by decide +kernel
theorem dL_bits_1 : decode cL_bits 1 = .ok (.istore_n 1, 1) := by decide +kernel
theorem dL_bits_2 : decode cL_bits 2 = .ok (.iload_n 0, 1) := by decide +kernel
theorem dL_bits_3 : decode cL_bits 3 = .ok (.istore_n 2, 1) := by decide +kernel
theorem dL_bits_4 : decode cL_bits 4 = .ok (.iload_n 2, 1) := by decide +kernel
theorem dL_bits_5 : decode cL_bits 5 = .ok (.ifCond .le 16, 3) := by decide +kernel
theorem dL_bits_8 : decode cL_bits 8 = .ok (.iload_n 1, 1) := by decide +kernel
theorem dL_bits_9 : decode cL_bits 9 = .ok (.iload_n 2, 1) := by decide +kernel
theorem dL_bits_10 : decode cL_bits 10 = .ok (.iconst 1, 1) := by decide +kernel
theorem dL_bits_11 : decode cL_bits 11 = .ok (.iand, 1) := by decide +kernel
theorem dL_bits_12 : decode cL_bits 12 = .ok (.iadd, 1) := by decide +kernel
theorem dL_bits_13 : decode cL_bits 13 = .ok (.istore_n 1, 1) := by decide +kernel
theorem dL_bits_14 : decode cL_bits 14 = .ok (.iload_n 2, 1) := by decide +kernel
theorem dL_bits_15 : decode cL_bits 15 = .ok (.iconst 1, 1) := by decide +kernel
theorem dL_bits_16 : decode cL_bits 16 = .ok (.ishr, 1) := by decide +kernel
theorem dL_bits_17 : decode cL_bits 17 = .ok (.istore_n 2, 1) := by decide +kernel
theorem dL_bits_18 : decode cL_bits 18 = .ok (.goto (-14), 3) := by decide +kernel
theorem dL_bits_21 : decode cL_bits 21 = .ok (.iload_n 1, 1) := by decide +kernel
theorem dL_bits_22 : decode cL_bits 22 = .ok (.ireturn, 1) := by decide +kernel
theorem dL_shares_0 : decode cL_shares 0 = .ok (.iload_n 1, 1) := by decide +kernel
theorem dL_shares_1 : decode cL_shares 1 = .ok (.istore_n 3, 1) := by decide +kernel
theorem dL_shares_2 : decode cL_shares 2 = .ok (.iconst 0, 1) := by decide +kernel
theorem dL_shares_3 : decode cL_shares 3 = .ok (.istore 4, 2) := by decide +kernel
theorem dL_shares_5 : decode cL_shares 5 = .ok (.iload 4, 2) := by decide +kernel
theorem dL_shares_7 : decode cL_shares 7 = .ok (.bipush 12, 2) := by decide +kernel
theorem dL_shares_9 : decode cL_shares 9 = .ok (.if_icmp .ge 47, 3) := by decide +kernel
theorem dL_shares_12 : decode cL_shares 12 = .ok (.iload_n 2, 1) := by decide +kernel
theorem dL_shares_13 : decode cL_shares 13 = .ok (.iload 4, 2) := by decide +kernel
theorem dL_shares_15 : decode cL_shares 15 = .ok (.ishr, 1) := by decide +kernel
theorem dL_shares_16 : decode cL_shares 16 = .ok (.iconst 1, 1) := by decide +kernel
theorem dL_shares_17 : decode cL_shares 17 = .ok (.iand, 1) := by decide +kernel
theorem dL_shares_18 : decode cL_shares 18 = .ok (.iconst 1, 1) := by decide +kernel
theorem dL_shares_19 : decode cL_shares 19 = .ok (.if_icmp .ne 12, 3) := by decide +kernel
theorem dL_shares_22 : decode cL_shares 22 = .ok (.iload_n 1, 1) := by decide +kernel
theorem dL_shares_23 : decode cL_shares 23 = .ok (.iload_n 2, 1) := by decide +kernel
theorem dL_shares_24 : decode cL_shares 24 = .ok (.invokestatic 24, 3) := by decide +kernel
theorem dL_shares_27 : decode cL_shares 27 = .ok (.idiv, 1) := by decide +kernel
theorem dL_shares_28 : decode cL_shares 28 = .ok (.goto 4, 3) := by decide +kernel
theorem dL_shares_31 : decode cL_shares 31 = .ok (.iconst 0, 1) := by decide +kernel
theorem dL_shares_32 : decode cL_shares 32 = .ok (.istore 5, 2) := by decide +kernel
theorem dL_shares_34 : decode cL_shares 34 = .ok (.aload_n 0, 1) := by decide +kernel
theorem dL_shares_35 : decode cL_shares 35 = .ok (.iload 4, 2) := by decide +kernel
theorem dL_shares_37 : decode cL_shares 37 = .ok (.iconst 3, 1) := by decide +kernel
theorem dL_shares_38 : decode cL_shares 38 = .ok (.idiv, 1) := by decide +kernel
theorem dL_shares_39 : decode cL_shares 39 = .ok (.dup2, 1) := by decide +kernel
theorem dL_shares_40 : decode cL_shares 40 = .ok (.iaload, 1) := by decide +kernel
theorem dL_shares_41 : decode cL_shares 41 = .ok (.iload 5, 2) := by decide +kernel
theorem dL_shares_43 : decode cL_shares 43 = .ok (.iadd, 1) := by decide +kernel
theorem dL_shares_44 : decode cL_shares 44 = .ok (.iastore, 1) := by decide +kernel
theorem dL_shares_45 : decode cL_shares 45 = .ok (.iload_n 3, 1) := by decide +kernel
theorem dL_shares_46 : decode cL_shares 46 = .ok (.iload 5, 2) := by decide +kernel
theorem dL_shares_48 : decode cL_shares 48 = .ok (.isub, 1) := by decide +kernel
theorem dL_shares_49 : decode cL_shares 49 = .ok (.istore_n 3, 1) := by decide +kernel
theorem dL_shares_50 : decode cL_shares 50 = .ok (.iinc 4 1, 3) := by decide +kernel
theorem dL_shares_53 : decode cL_shares 53 = .ok (.goto (-48), 3) := by decide +kernel
theorem dL_shares_56 : decode cL_shares 56 = .ok (.aload_n 0, 1) := by decide +kernel
theorem dL_shares_57 : decode cL_shares 57 = .ok (.iconst 4, 1) := by decide +kernel
theorem dL_shares_58 : decode cL_shares 58 = .ok (.dup2, 1) := by decide +kernel
theorem dL_shares_59 : decode cL_shares 59 = .ok (.iaload, 1) := by decide +kernel
theorem dL_shares_60 : decode cL_shares 60 = .ok (.iload_n 3, 1) := by decide +kernel
theorem dL_shares_61 : decode cL_shares 61 = .ok (.iadd, 1) := by decide +kernel
theorem dL_shares_62 : decode cL_shares 62 = .ok (.iastore, 1) := by decide +kernel
theorem dL_shares_63 : decode cL_shares 63 = .ok (.return_, 1) := by decide +kernel
theorem dL_ends_0 : decode cL_ends 0 = .ok (.iconst 0, 1) := by decide +kernel
theorem dL_ends_1 : decode cL_ends 1 = .ok (.istore 7, 2) := by decide +kernel
theorem dL_ends_3 : decode cL_ends 3 = .ok (.iload 7, 2) := by decide +kernel
theorem dL_ends_5 : decode cL_ends 5 = .ok (.aload_n 0, 1) := by decide +kernel
theorem dL_ends_6 : decode cL_ends 6 = .ok (.iconst 0, 1) := by decide +kernel
theorem dL_ends_7 : decode cL_ends 7 = .ok (.iaload, 1) := by decide +kernel
theorem dL_ends_8 : decode cL_ends 8 = .ok (.if_icmp .ge 40, 3) := by decide +kernel
theorem dL_ends_11 : decode cL_ends 11 = .ok (.aload 5, 2) := by decide +kernel
theorem dL_ends_13 : decode cL_ends 13 = .ok (.iload 7, 2) := by decide +kernel
theorem dL_ends_15 : decode cL_ends 15 = .ok (.iconst 0, 1) := by decide +kernel
theorem dL_ends_16 : decode cL_ends 16 = .ok (.iastore, 1) := by decide +kernel
theorem dL_ends_17 : decode cL_ends 17 = .ok (.aload_n 0, 1) := by decide +kernel
theorem dL_ends_18 : decode cL_ends 18 = .ok (.aload_n 2, 1) := by decide +kernel
theorem dL_ends_19 : decode cL_ends 19 = .ok (.aload_n 3, 1) := by decide +kernel
theorem dL_ends_20 : decode cL_ends 20 = .ok (.iload 7, 2) := by decide +kernel
theorem dL_ends_22 : decode cL_ends 22 = .ok (.invokestatic 28, 3) := by decide +kernel
theorem dL_ends_25 : decode cL_ends 25 = .ok (.ifCond .eq 17, 3) := by decide +kernel
theorem dL_ends_28 : decode cL_ends 28 = .ok (.aload 6, 2) := by decide +kernel
theorem dL_ends_30 : decode cL_ends 30 = .ok (.aload_n 3, 1) := by decide +kernel
theorem dL_ends_31 : decode cL_ends 31 = .ok (.iload 7, 2) := by decide +kernel
theorem dL_ends_33 : decode cL_ends 33 = .ok (.iaload, 1) := by decide +kernel
theorem dL_ends_34 : decode cL_ends 34 = .ok (.aload 4, 2) := by decide +kernel
theorem dL_ends_36 : decode cL_ends 36 = .ok (.iload 7, 2) := by decide +kernel
theorem dL_ends_38 : decode cL_ends 38 = .ok (.iaload, 1) := by decide +kernel
theorem dL_ends_39 : decode cL_ends 39 = .ok (.invokestatic 32, 3) := by decide +kernel
theorem dL_ends_42 : decode cL_ends 42 = .ok (.iinc 7 1, 3) := by decide +kernel
theorem dL_ends_45 : decode cL_ends 45 = .ok (.goto (-42), 3) := by decide +kernel
theorem dL_ends_48 : decode cL_ends 48 = .ok (.iconst 0, 1) := by decide +kernel
theorem dL_ends_49 : decode cL_ends 49 = .ok (.istore 7, 2) := by decide +kernel
theorem dL_ends_51 : decode cL_ends 51 = .ok (.iload 7, 2) := by decide +kernel
theorem dL_ends_53 : decode cL_ends 53 = .ok (.bipush 6, 2) := by decide +kernel
theorem dL_ends_55 : decode cL_ends 55 = .ok (.if_icmp .ge 99, 3) := by decide +kernel
theorem dL_ends_58 : decode cL_ends 58 = .ok (.iconst 0, 1) := by decide +kernel
theorem dL_ends_59 : decode cL_ends 59 = .ok (.istore 8, 2) := by decide +kernel
theorem dL_ends_61 : decode cL_ends 61 = .ok (.iconst 0, 1) := by decide +kernel
theorem dL_ends_62 : decode cL_ends 62 = .ok (.istore 9, 2) := by decide +kernel
theorem dL_ends_64 : decode cL_ends 64 = .ok (.iload 9, 2) := by decide +kernel
theorem dL_ends_66 : decode cL_ends 66 = .ok (.aload_n 0, 1) := by decide +kernel
theorem dL_ends_67 : decode cL_ends 67 = .ok (.iconst 0, 1) := by decide +kernel
theorem dL_ends_68 : decode cL_ends 68 = .ok (.iaload, 1) := by decide +kernel
theorem dL_ends_69 : decode cL_ends 69 = .ok (.if_icmp .ge 59, 3) := by decide +kernel
theorem dL_ends_72 : decode cL_ends 72 = .ok (.iload 8, 2) := by decide +kernel
theorem dL_ends_74 : decode cL_ends 74 = .ok (.aload_n 0, 1) := by decide +kernel
theorem dL_ends_75 : decode cL_ends 75 = .ok (.aload_n 2, 1) := by decide +kernel
theorem dL_ends_76 : decode cL_ends 76 = .ok (.aload_n 3, 1) := by decide +kernel
theorem dL_ends_77 : decode cL_ends 77 = .ok (.iload 9, 2) := by decide +kernel
theorem dL_ends_79 : decode cL_ends 79 = .ok (.invokestatic 28, 3) := by decide +kernel
theorem dL_ends_82 : decode cL_ends 82 = .ok (.ifCond .eq 36, 3) := by decide +kernel
theorem dL_ends_85 : decode cL_ends 85 = .ok (.aload_n 2, 1) := by decide +kernel
theorem dL_ends_86 : decode cL_ends 86 = .ok (.iload 9, 2) := by decide +kernel
theorem dL_ends_88 : decode cL_ends 88 = .ok (.iaload, 1) := by decide +kernel
theorem dL_ends_89 : decode cL_ends 89 = .ok (.iconst 4, 1) := by decide +kernel
theorem dL_ends_90 : decode cL_ends 90 = .ok (.irem, 1) := by decide +kernel
theorem dL_ends_91 : decode cL_ends 91 = .ok (.iconst 2, 1) := by decide +kernel
theorem dL_ends_92 : decode cL_ends 92 = .ok (.if_icmp .ne 26, 3) := by decide +kernel
theorem dL_ends_95 : decode cL_ends 95 = .ok (.aload_n 2, 1) := by decide +kernel
theorem dL_ends_96 : decode cL_ends 96 = .ok (.iload 9, 2) := by decide +kernel
theorem dL_ends_98 : decode cL_ends 98 = .ok (.iaload, 1) := by decide +kernel
theorem dL_ends_99 : decode cL_ends 99 = .ok (.bipush 16, 2) := by decide +kernel
theorem dL_ends_101 : decode cL_ends 101 = .ok (.idiv, 1) := by decide +kernel
theorem dL_ends_102 : decode cL_ends 102 = .ok (.bipush 8, 2) := by decide +kernel
theorem dL_ends_104 : decode cL_ends 104 = .ok (.irem, 1) := by decide +kernel
theorem dL_ends_105 : decode cL_ends 105 = .ok (.iload 7, 2) := by decide +kernel
theorem dL_ends_107 : decode cL_ends 107 = .ok (.if_icmp .ne 11, 3) := by decide +kernel
theorem dL_ends_110 : decode cL_ends 110 = .ok (.aload 4, 2) := by decide +kernel
theorem dL_ends_112 : decode cL_ends 112 = .ok (.iload 9, 2) := by decide +kernel
theorem dL_ends_114 : decode cL_ends 114 = .ok (.iaload, 1) := by decide +kernel
theorem dL_ends_115 : decode cL_ends 115 = .ok (.goto 4, 3) := by decide +kernel
theorem dL_ends_118 : decode cL_ends 118 = .ok (.iconst 0, 1) := by decide +kernel
theorem dL_ends_119 : decode cL_ends 119 = .ok (.ior, 1) := by decide +kernel
theorem dL_ends_120 : decode cL_ends 120 = .ok (.istore 8, 2) := by decide +kernel
theorem dL_ends_122 : decode cL_ends 122 = .ok (.iinc 9 1, 3) := by decide +kernel
theorem dL_ends_125 : decode cL_ends 125 = .ok (.goto (-61), 3) := by decide +kernel
theorem dL_ends_128 : decode cL_ends 128 = .ok (.aload_n 1, 1) := by decide +kernel
theorem dL_ends_129 : decode cL_ends 129 = .ok (.iload 7, 2) := by decide +kernel
theorem dL_ends_131 : decode cL_ends 131 = .ok (.iaload, 1) := by decide +kernel
theorem dL_ends_132 : decode cL_ends 132 = .ok (.aload_n 0, 1) := by decide +kernel
theorem dL_ends_133 : decode cL_ends 133 = .ok (.iconst 2, 1) := by decide +kernel
theorem dL_ends_134 : decode cL_ends 134 = .ok (.iaload, 1) := by decide +kernel
theorem dL_ends_135 : decode cL_ends 135 = .ok (.if_icmp .lt 13, 3) := by decide +kernel
theorem dL_ends_138 : decode cL_ends 138 = .ok (.aload 6, 2) := by decide +kernel
theorem dL_ends_140 : decode cL_ends 140 = .ok (.sipush 200, 3) := by decide +kernel
theorem dL_ends_143 : decode cL_ends 143 = .ok (.iload 8, 2) := by decide +kernel
theorem dL_ends_145 : decode cL_ends 145 = .ok (.invokestatic 32, 3) := by decide +kernel
theorem dL_ends_148 : decode cL_ends 148 = .ok (.iinc 7 1, 3) := by decide +kernel
theorem dL_ends_151 : decode cL_ends 151 = .ok (.goto (-100), 3) := by decide +kernel
theorem dL_ends_154 : decode cL_ends 154 = .ok (.aload_n 0, 1) := by decide +kernel
theorem dL_ends_155 : decode cL_ends 155 = .ok (.iconst 2, 1) := by decide +kernel
theorem dL_ends_156 : decode cL_ends 156 = .ok (.dup2, 1) := by decide +kernel
theorem dL_ends_157 : decode cL_ends 157 = .ok (.iaload, 1) := by decide +kernel
theorem dL_ends_158 : decode cL_ends 158 = .ok (.iconst 1, 1) := by decide +kernel
theorem dL_ends_159 : decode cL_ends 159 = .ok (.iadd, 1) := by decide +kernel
theorem dL_ends_160 : decode cL_ends 160 = .ok (.iastore, 1) := by decide +kernel
theorem dL_ends_161 : decode cL_ends 161 = .ok (.return_, 1) := by decide +kernel
theorem dL_has_0 : decode cL_has 0 = .ok (.iconst 0, 1) := by decide +kernel
theorem dL_has_1 : decode cL_has 1 = .ok (.istore 5, 2) := by decide +kernel
theorem dL_has_3 : decode cL_has 3 = .ok (.iconst 0, 1) := by decide +kernel
theorem dL_has_4 : decode cL_has 4 = .ok (.istore 6, 2) := by decide +kernel
theorem dL_has_6 : decode cL_has 6 = .ok (.iload 6, 2) := by decide +kernel
theorem dL_has_8 : decode cL_has 8 = .ok (.aload_n 0, 1) := by decide +kernel
theorem dL_has_9 : decode cL_has 9 = .ok (.iconst 0, 1) := by decide +kernel
theorem dL_has_10 : decode cL_has 10 = .ok (.iaload, 1) := by decide +kernel
theorem dL_has_11 : decode cL_has 11 = .ok (.if_icmp .ge 55, 3) := by decide +kernel
theorem dL_has_14 : decode cL_has 14 = .ok (.iload 5, 2) := by decide +kernel
theorem dL_has_16 : decode cL_has 16 = .ok (.aload_n 0, 1) := by decide +kernel
theorem dL_has_17 : decode cL_has 17 = .ok (.aload_n 1, 1) := by decide +kernel
theorem dL_has_18 : decode cL_has 18 = .ok (.aload_n 2, 1) := by decide +kernel
theorem dL_has_19 : decode cL_has 19 = .ok (.iload 6, 2) := by decide +kernel
theorem dL_has_21 : decode cL_has 21 = .ok (.invokestatic 28, 3) := by decide +kernel
theorem dL_has_24 : decode cL_has 24 = .ok (.ifCond .eq 32, 3) := by decide +kernel
theorem dL_has_27 : decode cL_has 27 = .ok (.aload_n 1, 1) := by decide +kernel
theorem dL_has_28 : decode cL_has 28 = .ok (.iload 6, 2) := by decide +kernel
theorem dL_has_30 : decode cL_has 30 = .ok (.iaload, 1) := by decide +kernel
theorem dL_has_31 : decode cL_has 31 = .ok (.iconst 4, 1) := by decide +kernel
theorem dL_has_32 : decode cL_has 32 = .ok (.irem, 1) := by decide +kernel
theorem dL_has_33 : decode cL_has 33 = .ok (.iload 4, 2) := by decide +kernel
theorem dL_has_35 : decode cL_has 35 = .ok (.if_icmp .ne 21, 3) := by decide +kernel
theorem dL_has_38 : decode cL_has 38 = .ok (.aload_n 1, 1) := by decide +kernel
theorem dL_has_39 : decode cL_has 39 = .ok (.iload 6, 2) := by decide +kernel
theorem dL_has_41 : decode cL_has 41 = .ok (.iaload, 1) := by decide +kernel
theorem dL_has_42 : decode cL_has 42 = .ok (.bipush 16, 2) := by decide +kernel
theorem dL_has_44 : decode cL_has 44 = .ok (.idiv, 1) := by decide +kernel
theorem dL_has_45 : decode cL_has 45 = .ok (.bipush 8, 2) := by decide +kernel
theorem dL_has_47 : decode cL_has 47 = .ok (.irem, 1) := by decide +kernel
theorem dL_has_48 : decode cL_has 48 = .ok (.iload_n 3, 1) := by decide +kernel
theorem dL_has_49 : decode cL_has 49 = .ok (.if_icmp .ne 7, 3) := by decide +kernel
theorem dL_has_52 : decode cL_has 52 = .ok (.iconst 1, 1) := by decide +kernel
theorem dL_has_53 : decode cL_has 53 = .ok (.goto 4, 3) := by decide +kernel
theorem dL_has_56 : decode cL_has 56 = .ok (.iconst 0, 1) := by decide +kernel
theorem dL_has_57 : decode cL_has 57 = .ok (.iadd, 1) := by decide +kernel
theorem dL_has_58 : decode cL_has 58 = .ok (.istore 5, 2) := by decide +kernel
theorem dL_has_60 : decode cL_has 60 = .ok (.iinc 6 1, 3) := by decide +kernel
theorem dL_has_63 : decode cL_has 63 = .ok (.goto (-57), 3) := by decide +kernel
theorem dL_has_66 : decode cL_has 66 = .ok (.iload 5, 2) := by decide +kernel
theorem dL_has_68 : decode cL_has 68 = .ok (.ireturn, 1) := by decide +kernel
theorem dL_canBack_0 : decode cL_canBack 0 = .ok (.aload_n 1, 1) := by decide +kernel
theorem dL_canBack_1 : decode cL_canBack 1 = .ok (.iload 5, 2) := by decide +kernel
theorem dL_canBack_3 : decode cL_canBack 3 = .ok (.iaload, 1) := by decide +kernel
theorem dL_canBack_4 : decode cL_canBack 4 = .ok (.iconst 4, 1) := by decide +kernel
theorem dL_canBack_5 : decode cL_canBack 5 = .ok (.irem, 1) := by decide +kernel
theorem dL_canBack_6 : decode cL_canBack 6 = .ok (.ifCond .ne 19, 3) := by decide +kernel
theorem dL_canBack_9 : decode cL_canBack 9 = .ok (.bipush 7, 2) := by decide +kernel
theorem dL_canBack_11 : decode cL_canBack 11 = .ok (.iconst 3, 1) := by decide +kernel
theorem dL_canBack_12 : decode cL_canBack 12 = .ok (.aload_n 1, 1) := by decide +kernel
theorem dL_canBack_13 : decode cL_canBack 13 = .ok (.iload 5, 2) := by decide +kernel
theorem dL_canBack_15 : decode cL_canBack 15 = .ok (.iaload, 1) := by decide +kernel
theorem dL_canBack_16 : decode cL_canBack 16 = .ok (.iconst 4, 1) := by decide +kernel
theorem dL_canBack_17 : decode cL_canBack 17 = .ok (.idiv, 1) := by decide +kernel
theorem dL_canBack_18 : decode cL_canBack 18 = .ok (.iconst 4, 1) := by decide +kernel
theorem dL_canBack_19 : decode cL_canBack 19 = .ok (.irem, 1) := by decide +kernel
theorem dL_canBack_20 : decode cL_canBack 20 = .ok (.imul, 1) := by decide +kernel
theorem dL_canBack_21 : decode cL_canBack 21 = .ok (.ishl, 1) := by decide +kernel
theorem dL_canBack_22 : decode cL_canBack 22 = .ok (.goto 6, 3) := by decide +kernel
theorem dL_canBack_25 : decode cL_canBack 25 = .ok (.sipush 4095, 3) := by decide +kernel
theorem dL_canBack_28 : decode cL_canBack 28 = .ok (.istore 6, 2) := by decide +kernel
theorem dL_canBack_30 : decode cL_canBack 30 = .ok (.aload_n 0, 1) := by decide +kernel
theorem dL_canBack_31 : decode cL_canBack 31 = .ok (.aload_n 1, 1) := by decide +kernel
theorem dL_canBack_32 : decode cL_canBack 32 = .ok (.aload_n 2, 1) := by decide +kernel
theorem dL_canBack_33 : decode cL_canBack 33 = .ok (.iload 5, 2) := by decide +kernel
theorem dL_canBack_35 : decode cL_canBack 35 = .ok (.invokestatic 28, 3) := by decide +kernel
theorem dL_canBack_38 : decode cL_canBack 38 = .ok (.ifCond .eq 34, 3) := by decide +kernel
theorem dL_canBack_41 : decode cL_canBack 41 = .ok (.aload_n 3, 1) := by decide +kernel
theorem dL_canBack_42 : decode cL_canBack 42 = .ok (.iload 5, 2) := by decide +kernel
theorem dL_canBack_44 : decode cL_canBack 44 = .ok (.iaload, 1) := by decide +kernel
theorem dL_canBack_45 : decode cL_canBack 45 = .ok (.ifCond .ne 27, 3) := by decide +kernel
theorem dL_canBack_48 : decode cL_canBack 48 = .ok (.aload 4, 2) := by decide +kernel
theorem dL_canBack_50 : decode cL_canBack 50 = .ok (.iload 5, 2) := by decide +kernel
theorem dL_canBack_52 : decode cL_canBack 52 = .ok (.iaload, 1) := by decide +kernel
theorem dL_canBack_53 : decode cL_canBack 53 = .ok (.ifCond .ne 19, 3) := by decide +kernel
theorem dL_canBack_56 : decode cL_canBack 56 = .ok (.aload_n 0, 1) := by decide +kernel
theorem dL_canBack_57 : decode cL_canBack 57 = .ok (.bipush 6, 2) := by decide +kernel
theorem dL_canBack_59 : decode cL_canBack 59 = .ok (.iaload, 1) := by decide +kernel
theorem dL_canBack_60 : decode cL_canBack 60 = .ok (.iload 6, 2) := by decide +kernel
theorem dL_canBack_62 : decode cL_canBack 62 = .ok (.iand, 1) := by decide +kernel
theorem dL_canBack_63 : decode cL_canBack 63 = .ok (.iload 6, 2) := by decide +kernel
theorem dL_canBack_65 : decode cL_canBack 65 = .ok (.if_icmp .ne 7, 3) := by decide +kernel
theorem dL_canBack_68 : decode cL_canBack 68 = .ok (.iconst 1, 1) := by decide +kernel
theorem dL_canBack_69 : decode cL_canBack 69 = .ok (.goto 4, 3) := by decide +kernel
theorem dL_canBack_72 : decode cL_canBack 72 = .ok (.iconst 0, 1) := by decide +kernel
theorem dL_canBack_73 : decode cL_canBack 73 = .ok (.ireturn, 1) := by decide +kernel
theorem dL_does_0 : decode cL_does 0 = .ok (.iload_n 1, 1) := by decide +kernel
theorem dL_does_1 : decode cL_does 1 = .ok (.ifCond .ne 11, 3) := by decide +kernel
theorem dL_does_4 : decode cL_does 4 = .ok (.aload_n 0, 1) := by decide +kernel
theorem dL_does_5 : decode cL_does 5 = .ok (.iload_n 2, 1) := by decide +kernel
theorem dL_does_6 : decode cL_does 6 = .ok (.invokevirtual 36, 3) := by decide +kernel
theorem dL_does_9 : decode cL_does 9 = .ok (.goto 139, 3) := by decide +kernel
theorem dL_does_12 : decode cL_does 12 = .ok (.iload_n 1, 1) := by decide +kernel
theorem dL_does_13 : decode cL_does 13 = .ok (.iconst 1, 1) := by decide +kernel
theorem dL_does_14 : decode cL_does 14 = .ok (.if_icmp .ne 21, 3) := by decide +kernel
theorem dL_does_17 : decode cL_does 17 = .ok (.aload_n 0, 1) := by decide +kernel
theorem dL_does_18 : decode cL_does 18 = .ok (.iload_n 2, 1) := by decide +kernel
theorem dL_does_19 : decode cL_does 19 = .ok (.iload_n 3, 1) := by decide +kernel
theorem dL_does_20 : decode cL_does 20 = .ok (.iconst 1, 1) := by decide +kernel
theorem dL_does_21 : decode cL_does 21 = .ok (.if_icmp .ne 7, 3) := by decide +kernel
theorem dL_does_24 : decode cL_does 24 = .ok (.iconst 1, 1) := by decide +kernel
theorem dL_does_25 : decode cL_does 25 = .ok (.goto 4, 3) := by decide +kernel
theorem dL_does_28 : decode cL_does 28 = .ok (.iconst 0, 1) := by decide +kernel
theorem dL_does_29 : decode cL_does 29 = .ok (.invokevirtual 41, 3) := by decide +kernel
theorem dL_does_32 : decode cL_does 32 = .ok (.goto 116, 3) := by decide +kernel
theorem dL_does_35 : decode cL_does 35 = .ok (.iload_n 1, 1) := by decide +kernel
theorem dL_does_36 : decode cL_does 36 = .ok (.iconst 2, 1) := by decide +kernel
theorem dL_does_37 : decode cL_does 37 = .ok (.if_icmp .ne 11, 3) := by decide +kernel
theorem dL_does_40 : decode cL_does 40 = .ok (.aload_n 0, 1) := by decide +kernel
theorem dL_does_41 : decode cL_does 41 = .ok (.iload_n 2, 1) := by decide +kernel
theorem dL_does_42 : decode cL_does 42 = .ok (.invokevirtual 45, 3) := by decide +kernel
theorem dL_does_45 : decode cL_does 45 = .ok (.goto 103, 3) := by decide +kernel
theorem dL_does_48 : decode cL_does 48 = .ok (.iload_n 1, 1) := by decide +kernel
theorem dL_does_49 : decode cL_does 49 = .ok (.iconst 3, 1) := by decide +kernel
theorem dL_does_50 : decode cL_does 50 = .ok (.if_icmp .ne 11, 3) := by decide +kernel
theorem dL_does_53 : decode cL_does 53 = .ok (.aload_n 0, 1) := by decide +kernel
theorem dL_does_54 : decode cL_does 54 = .ok (.iload_n 2, 1) := by decide +kernel
theorem dL_does_55 : decode cL_does 55 = .ok (.invokevirtual 48, 3) := by decide +kernel
theorem dL_does_58 : decode cL_does 58 = .ok (.goto 90, 3) := by decide +kernel
theorem dL_does_61 : decode cL_does 61 = .ok (.iload_n 1, 1) := by decide +kernel
theorem dL_does_62 : decode cL_does 62 = .ok (.iconst 4, 1) := by decide +kernel
theorem dL_does_63 : decode cL_does 63 = .ok (.if_icmp .ne 20, 3) := by decide +kernel
theorem dL_does_66 : decode cL_does 66 = .ok (.aload_n 0, 1) := by decide +kernel
theorem dL_does_67 : decode cL_does 67 = .ok (.iload_n 2, 1) := by decide +kernel
theorem dL_does_68 : decode cL_does 68 = .ok (.iload_n 3, 1) := by decide +kernel
theorem dL_does_69 : decode cL_does 69 = .ok (.invokevirtual 51, 3) := by decide +kernel
theorem dL_does_72 : decode cL_does 72 = .ok (.ifCond .eq 7, 3) := by decide +kernel
theorem dL_does_75 : decode cL_does 75 = .ok (.iconst 1, 1) := by decide +kernel
theorem dL_does_76 : decode cL_does 76 = .ok (.goto 72, 3) := by decide +kernel
theorem dL_does_79 : decode cL_does 79 = .ok (.iconst 0, 1) := by decide +kernel
theorem dL_does_80 : decode cL_does 80 = .ok (.goto 68, 3) := by decide +kernel
theorem dL_does_83 : decode cL_does 83 = .ok (.iload_n 1, 1) := by decide +kernel
theorem dL_does_84 : decode cL_does 84 = .ok (.iconst 5, 1) := by decide +kernel
theorem dL_does_85 : decode cL_does 85 = .ok (.if_icmp .ne 11, 3) := by decide +kernel
theorem dL_does_88 : decode cL_does 88 = .ok (.aload_n 0, 1) := by decide +kernel
theorem dL_does_89 : decode cL_does 89 = .ok (.iload_n 2, 1) := by decide +kernel
theorem dL_does_90 : decode cL_does 90 = .ok (.invokevirtual 55, 3) := by decide +kernel
theorem dL_does_93 : decode cL_does 93 = .ok (.goto 55, 3) := by decide +kernel
theorem dL_does_96 : decode cL_does 96 = .ok (.iload_n 1, 1) := by decide +kernel
theorem dL_does_97 : decode cL_does 97 = .ok (.bipush 6, 2) := by decide +kernel
theorem dL_does_99 : decode cL_does 99 = .ok (.if_icmp .ne 12, 3) := by decide +kernel
theorem dL_does_102 : decode cL_does 102 = .ok (.aload_n 0, 1) := by decide +kernel
theorem dL_does_103 : decode cL_does 103 = .ok (.iload_n 2, 1) := by decide +kernel
theorem dL_does_104 : decode cL_does 104 = .ok (.iload_n 3, 1) := by decide +kernel
theorem dL_does_105 : decode cL_does 105 = .ok (.invokevirtual 58, 3) := by decide +kernel
theorem dL_does_108 : decode cL_does 108 = .ok (.goto 40, 3) := by decide +kernel
theorem dL_does_111 : decode cL_does 111 = .ok (.iload_n 1, 1) := by decide +kernel
theorem dL_does_112 : decode cL_does 112 = .ok (.bipush 7, 2) := by decide +kernel
theorem dL_does_114 : decode cL_does 114 = .ok (.if_icmp .ne 14, 3) := by decide +kernel
theorem dL_does_117 : decode cL_does 117 = .ok (.aload_n 0, 1) := by decide +kernel
theorem dL_does_118 : decode cL_does 118 = .ok (.iload_n 2, 1) := by decide +kernel
theorem dL_does_119 : decode cL_does 119 = .ok (.iload_n 3, 1) := by decide +kernel
theorem dL_does_120 : decode cL_does 120 = .ok (.iload 4, 2) := by decide +kernel
theorem dL_does_122 : decode cL_does 122 = .ok (.invokevirtual 62, 3) := by decide +kernel
theorem dL_does_125 : decode cL_does 125 = .ok (.goto 23, 3) := by decide +kernel
theorem dL_does_128 : decode cL_does 128 = .ok (.iload_n 1, 1) := by decide +kernel
theorem dL_does_129 : decode cL_does 129 = .ok (.bipush 8, 2) := by decide +kernel
theorem dL_does_131 : decode cL_does 131 = .ok (.if_icmp .ne 12, 3) := by decide +kernel
theorem dL_does_134 : decode cL_does 134 = .ok (.aload_n 0, 1) := by decide +kernel
theorem dL_does_135 : decode cL_does 135 = .ok (.iload_n 2, 1) := by decide +kernel
theorem dL_does_136 : decode cL_does 136 = .ok (.iload_n 3, 1) := by decide +kernel
theorem dL_does_137 : decode cL_does 137 = .ok (.invokevirtual 66, 3) := by decide +kernel
theorem dL_does_140 : decode cL_does 140 = .ok (.goto 8, 3) := by decide +kernel
theorem dL_does_143 : decode cL_does 143 = .ok (.aload_n 0, 1) := by decide +kernel
theorem dL_does_144 : decode cL_does 144 = .ok (.iload_n 2, 1) := by decide +kernel
theorem dL_does_145 : decode cL_does 145 = .ok (.invokevirtual 69, 3) := by decide +kernel
theorem dL_does_148 : decode cL_does 148 = .ok (.ireturn, 1) := by decide +kernel
theorem dL_does_149 : decode cL_does 149 = .ok (.astore 5, 2) := by decide +kernel
theorem dL_does_151 : decode cL_does 151 = .ok (.bipush (-11), 2) := by decide +kernel
theorem dL_does_153 : decode cL_does 153 = .ok (.ireturn, 1) := by decide +kernel
theorem dL_does_154 : decode cL_does 154 = .ok (.astore 5, 2) := by decide +kernel
theorem dL_does_156 : decode cL_does 156 = .ok (.bipush (-12), 2) := by decide +kernel
theorem dL_does_158 : decode cL_does 158 = .ok (.ireturn, 1) := by decide +kernel
theorem dL_does_159 : decode cL_does 159 = .ok (.astore 5, 2) := by decide +kernel
theorem dL_does_161 : decode cL_does 161 = .ok (.bipush (-13), 2) := by decide +kernel
theorem dL_does_163 : decode cL_does 163 = .ok (.ireturn, 1) := by decide +kernel
theorem dL_isTitle_0 : decode cL_isTitle 0 = .ok (.bipush 12, 2) := by decide +kernel
theorem dL_isTitle_2 : decode cL_isTitle 2 = .ok (.newarray .int, 2) := by decide +kernel
theorem dL_isTitle_4 : decode cL_isTitle 4 = .ok (.astore_n 3, 1) := by decide +kernel
theorem dL_isTitle_5 : decode cL_isTitle 5 = .ok (.iconst 2, 1) := by decide +kernel
theorem dL_isTitle_6 : decode cL_isTitle 6 = .ok (.istore 4, 2) := by decide +kernel
theorem dL_isTitle_8 : decode cL_isTitle 8 = .ok (.aload_n 3, 1) := by decide +kernel
theorem dL_isTitle_9 : decode cL_isTitle 9 = .ok (.iconst 0, 1) := by decide +kernel
theorem dL_isTitle_10 : decode cL_isTitle 10 = .ok (.bipush 65, 2) := by decide +kernel
theorem dL_isTitle_12 : decode cL_isTitle 12 = .ok (.aload_n 1, 1) := by decide +kernel
theorem dL_isTitle_13 : decode cL_isTitle 13 = .ok (.iload_n 2, 1) := by decide +kernel
theorem dL_isTitle_14 : decode cL_isTitle 14 = .ok (.iaload, 1) := by decide +kernel
theorem dL_isTitle_15 : decode cL_isTitle 15 = .ok (.iconst 4, 1) := by decide +kernel
theorem dL_isTitle_16 : decode cL_isTitle 16 = .ok (.irem, 1) := by decide +kernel
theorem dL_isTitle_17 : decode cL_isTitle 17 = .ok (.iadd, 1) := by decide +kernel
theorem dL_isTitle_18 : decode cL_isTitle 18 = .ok (.iastore, 1) := by decide +kernel
theorem dL_isTitle_19 : decode cL_isTitle 19 = .ok (.aload_n 3, 1) := by decide +kernel
theorem dL_isTitle_20 : decode cL_isTitle 20 = .ok (.iconst 1, 1) := by decide +kernel
theorem dL_isTitle_21 : decode cL_isTitle 21 = .ok (.bipush 48, 2) := by decide +kernel
theorem dL_isTitle_23 : decode cL_isTitle 23 = .ok (.iload_n 2, 1) := by decide +kernel
theorem dL_isTitle_24 : decode cL_isTitle 24 = .ok (.bipush 10, 2) := by decide +kernel
theorem dL_isTitle_26 : decode cL_isTitle 26 = .ok (.irem, 1) := by decide +kernel
theorem dL_isTitle_27 : decode cL_isTitle 27 = .ok (.iadd, 1) := by decide +kernel
theorem dL_isTitle_28 : decode cL_isTitle 28 = .ok (.iastore, 1) := by decide +kernel
theorem dL_isTitle_29 : decode cL_isTitle 29 = .ok (.iconst 0, 1) := by decide +kernel
theorem dL_isTitle_30 : decode cL_isTitle 30 = .ok (.istore 5, 2) := by decide +kernel
theorem dL_isTitle_32 : decode cL_isTitle 32 = .ok (.iload 5, 2) := by decide +kernel
theorem dL_isTitle_34 : decode cL_isTitle 34 = .ok (.iconst 2, 1) := by decide +kernel
theorem dL_isTitle_35 : decode cL_isTitle 35 = .ok (.if_icmp .ge 145, 3) := by decide +kernel
theorem dL_isTitle_38 : decode cL_isTitle 38 = .ok (.iload 5, 2) := by decide +kernel
theorem dL_isTitle_40 : decode cL_isTitle 40 = .ok (.ifCond .eq 15, 3) := by decide +kernel
theorem dL_isTitle_43 : decode cL_isTitle 43 = .ok (.aload_n 1, 1) := by decide +kernel
theorem dL_isTitle_44 : decode cL_isTitle 44 = .ok (.iload_n 2, 1) := by decide +kernel
theorem dL_isTitle_45 : decode cL_isTitle 45 = .ok (.iaload, 1) := by decide +kernel
theorem dL_isTitle_46 : decode cL_isTitle 46 = .ok (.bipush 64, 2) := by decide +kernel
theorem dL_isTitle_48 : decode cL_isTitle 48 = .ok (.idiv, 1) := by decide +kernel
theorem dL_isTitle_49 : decode cL_isTitle 49 = .ok (.iconst 2, 1) := by decide +kernel
theorem dL_isTitle_50 : decode cL_isTitle 50 = .ok (.irem, 1) := by decide +kernel
theorem dL_isTitle_51 : decode cL_isTitle 51 = .ok (.iconst 1, 1) := by decide +kernel
theorem dL_isTitle_52 : decode cL_isTitle 52 = .ok (.if_icmp .ne 7, 3) := by decide +kernel
theorem dL_isTitle_55 : decode cL_isTitle 55 = .ok (.iconst 1, 1) := by decide +kernel
theorem dL_isTitle_56 : decode cL_isTitle 56 = .ok (.goto 4, 3) := by decide +kernel
theorem dL_isTitle_59 : decode cL_isTitle 59 = .ok (.iconst 0, 1) := by decide +kernel
theorem dL_isTitle_60 : decode cL_isTitle 60 = .ok (.istore 6, 2) := by decide +kernel
theorem dL_isTitle_62 : decode cL_isTitle 62 = .ok (.iload 5, 2) := by decide +kernel
theorem dL_isTitle_64 : decode cL_isTitle 64 = .ok (.ifCond .ne 14, 3) := by decide +kernel
theorem dL_isTitle_67 : decode cL_isTitle 67 = .ok (.aload_n 1, 1) := by decide +kernel
theorem dL_isTitle_68 : decode cL_isTitle 68 = .ok (.iload_n 2, 1) := by decide +kernel
theorem dL_isTitle_69 : decode cL_isTitle 69 = .ok (.iaload, 1) := by decide +kernel
theorem dL_isTitle_70 : decode cL_isTitle 70 = .ok (.iconst 4, 1) := by decide +kernel
theorem dL_isTitle_71 : decode cL_isTitle 71 = .ok (.idiv, 1) := by decide +kernel
theorem dL_isTitle_72 : decode cL_isTitle 72 = .ok (.bipush 16, 2) := by decide +kernel
theorem dL_isTitle_74 : decode cL_isTitle 74 = .ok (.irem, 1) := by decide +kernel
theorem dL_isTitle_75 : decode cL_isTitle 75 = .ok (.goto 10, 3) := by decide +kernel
theorem dL_isTitle_78 : decode cL_isTitle 78 = .ok (.aload_n 1, 1) := by decide +kernel
theorem dL_isTitle_79 : decode cL_isTitle 79 = .ok (.iload_n 2, 1) := by decide +kernel
theorem dL_isTitle_80 : decode cL_isTitle 80 = .ok (.iaload, 1) := by decide +kernel
theorem dL_isTitle_81 : decode cL_isTitle 81 = .ok (.sipush 128, 3) := by decide +kernel
theorem dL_isTitle_84 : decode cL_isTitle 84 = .ok (.idiv, 1) := by decide +kernel
theorem dL_isTitle_85 : decode cL_isTitle 85 = .ok (.istore 7, 2) := by decide +kernel
theorem dL_isTitle_87 : decode cL_isTitle 87 = .ok (.aload_n 3, 1) := by decide +kernel
theorem dL_isTitle_88 : decode cL_isTitle 88 = .ok (.iload 4, 2) := by decide +kernel
theorem dL_isTitle_90 : decode cL_isTitle 90 = .ok (.iload 5, 2) := by decide +kernel
theorem dL_isTitle_92 : decode cL_isTitle 92 = .ok (.ifCond .ne 8, 3) := by decide +kernel
theorem dL_isTitle_95 : decode cL_isTitle 95 = .ok (.bipush 64, 2) := by decide +kernel
theorem dL_isTitle_97 : decode cL_isTitle 97 = .ok (.goto 5, 3) := by decide +kernel
theorem dL_isTitle_100 : decode cL_isTitle 100 = .ok (.bipush 36, 2) := by decide +kernel
theorem dL_isTitle_102 : decode cL_isTitle 102 = .ok (.iastore, 1) := by decide +kernel
theorem dL_isTitle_103 : decode cL_isTitle 103 = .ok (.iload 4, 2) := by decide +kernel
theorem dL_isTitle_105 : decode cL_isTitle 105 = .ok (.iload 6, 2) := by decide +kernel
theorem dL_isTitle_107 : decode cL_isTitle 107 = .ok (.ifCond .eq 7, 3) := by decide +kernel
theorem dL_isTitle_110 : decode cL_isTitle 110 = .ok (.iconst 1, 1) := by decide +kernel
theorem dL_isTitle_111 : decode cL_isTitle 111 = .ok (.goto 4, 3) := by decide +kernel
theorem dL_isTitle_114 : decode cL_isTitle 114 = .ok (.iconst 0, 1) := by decide +kernel
theorem dL_isTitle_115 : decode cL_isTitle 115 = .ok (.iadd, 1) := by decide +kernel
theorem dL_isTitle_116 : decode cL_isTitle 116 = .ok (.istore 4, 2) := by decide +kernel
theorem dL_isTitle_118 : decode cL_isTitle 118 = .ok (.sipush 1000, 3) := by decide +kernel
theorem dL_isTitle_121 : decode cL_isTitle 121 = .ok (.istore 8, 2) := by decide +kernel
theorem dL_isTitle_123 : decode cL_isTitle 123 = .ok (.iload 8, 2) := by decide +kernel
theorem dL_isTitle_125 : decode cL_isTitle 125 = .ok (.ifCond .le 49, 3) := by decide +kernel
theorem dL_isTitle_128 : decode cL_isTitle 128 = .ok (.iload 6, 2) := by decide +kernel
theorem dL_isTitle_130 : decode cL_isTitle 130 = .ok (.ifCond .eq 44, 3) := by decide +kernel
theorem dL_isTitle_133 : decode cL_isTitle 133 = .ok (.iload 7, 2) := by decide +kernel
theorem dL_isTitle_135 : decode cL_isTitle 135 = .ok (.iload 8, 2) := by decide +kernel
theorem dL_isTitle_137 : decode cL_isTitle 137 = .ok (.if_icmp .ge 9, 3) := by decide +kernel
theorem dL_isTitle_140 : decode cL_isTitle 140 = .ok (.iload 8, 2) := by decide +kernel
theorem dL_isTitle_142 : decode cL_isTitle 142 = .ok (.iconst 1, 1) := by decide +kernel
theorem dL_isTitle_143 : decode cL_isTitle 143 = .ok (.if_icmp .ne 21, 3) := by decide +kernel
theorem dL_isTitle_146 : decode cL_isTitle 146 = .ok (.aload_n 3, 1) := by decide +kernel
theorem dL_isTitle_147 : decode cL_isTitle 147 = .ok (.iload 4, 2) := by decide +kernel
theorem dL_isTitle_149 : decode cL_isTitle 149 = .ok (.bipush 48, 2) := by decide +kernel
theorem dL_isTitle_151 : decode cL_isTitle 151 = .ok (.iload 7, 2) := by decide +kernel
theorem dL_isTitle_153 : decode cL_isTitle 153 = .ok (.iload 8, 2) := by decide +kernel
theorem dL_isTitle_155 : decode cL_isTitle 155 = .ok (.idiv, 1) := by decide +kernel
theorem dL_isTitle_156 : decode cL_isTitle 156 = .ok (.bipush 10, 2) := by decide +kernel
theorem dL_isTitle_158 : decode cL_isTitle 158 = .ok (.irem, 1) := by decide +kernel
theorem dL_isTitle_159 : decode cL_isTitle 159 = .ok (.iadd, 1) := by decide +kernel
theorem dL_isTitle_160 : decode cL_isTitle 160 = .ok (.iastore, 1) := by decide +kernel
theorem dL_isTitle_161 : decode cL_isTitle 161 = .ok (.iinc 4 1, 3) := by decide +kernel
theorem dL_isTitle_164 : decode cL_isTitle 164 = .ok (.iload 8, 2) := by decide +kernel
theorem dL_isTitle_166 : decode cL_isTitle 166 = .ok (.bipush 10, 2) := by decide +kernel
theorem dL_isTitle_168 : decode cL_isTitle 168 = .ok (.idiv, 1) := by decide +kernel
theorem dL_isTitle_169 : decode cL_isTitle 169 = .ok (.istore 8, 2) := by decide +kernel
theorem dL_isTitle_171 : decode cL_isTitle 171 = .ok (.goto (-48), 3) := by decide +kernel
theorem dL_isTitle_174 : decode cL_isTitle 174 = .ok (.iinc 5 1, 3) := by decide +kernel
theorem dL_isTitle_177 : decode cL_isTitle 177 = .ok (.goto (-145), 3) := by decide +kernel
theorem dL_isTitle_180 : decode cL_isTitle 180 = .ok (.aload_n 0, 1) := by decide +kernel
theorem dL_isTitle_181 : decode cL_isTitle 181 = .ok (.iload_n 2, 1) := by decide +kernel
theorem dL_isTitle_182 : decode cL_isTitle 182 = .ok (.iload 4, 2) := by decide +kernel
theorem dL_isTitle_184 : decode cL_isTitle 184 = .ok (.invokevirtual 78, 3) := by decide +kernel
theorem dL_isTitle_187 : decode cL_isTitle 187 = .ok (.iconst (-1), 1) := by decide +kernel
theorem dL_isTitle_188 : decode cL_isTitle 188 = .ok (.if_icmp .ne 7, 3) := by decide +kernel
theorem dL_isTitle_191 : decode cL_isTitle 191 = .ok (.iconst 1, 1) := by decide +kernel
theorem dL_isTitle_192 : decode cL_isTitle 192 = .ok (.goto 4, 3) := by decide +kernel
theorem dL_isTitle_195 : decode cL_isTitle 195 = .ok (.iconst 0, 1) := by decide +kernel
theorem dL_isTitle_196 : decode cL_isTitle 196 = .ok (.istore 5, 2) := by decide +kernel
theorem dL_isTitle_198 : decode cL_isTitle 198 = .ok (.iconst 0, 1) := by decide +kernel
theorem dL_isTitle_199 : decode cL_isTitle 199 = .ok (.istore 6, 2) := by decide +kernel
theorem dL_isTitle_201 : decode cL_isTitle 201 = .ok (.iload 6, 2) := by decide +kernel
theorem dL_isTitle_203 : decode cL_isTitle 203 = .ok (.iload 4, 2) := by decide +kernel
theorem dL_isTitle_205 : decode cL_isTitle 205 = .ok (.if_icmp .ge 35, 3) := by decide +kernel
theorem dL_isTitle_208 : decode cL_isTitle 208 = .ok (.iload 5, 2) := by decide +kernel
theorem dL_isTitle_210 : decode cL_isTitle 210 = .ok (.ifCond .eq 30, 3) := by decide +kernel
theorem dL_isTitle_213 : decode cL_isTitle 213 = .ok (.aload_n 0, 1) := by decide +kernel
theorem dL_isTitle_214 : decode cL_isTitle 214 = .ok (.iload_n 2, 1) := by decide +kernel
theorem dL_isTitle_215 : decode cL_isTitle 215 = .ok (.iload 6, 2) := by decide +kernel
theorem dL_isTitle_217 : decode cL_isTitle 217 = .ok (.invokevirtual 78, 3) := by decide +kernel
theorem dL_isTitle_220 : decode cL_isTitle 220 = .ok (.aload_n 3, 1) := by decide +kernel
theorem dL_isTitle_221 : decode cL_isTitle 221 = .ok (.iload 6, 2) := by decide +kernel
theorem dL_isTitle_223 : decode cL_isTitle 223 = .ok (.iaload, 1) := by decide +kernel
theorem dL_isTitle_224 : decode cL_isTitle 224 = .ok (.if_icmp .ne 7, 3) := by decide +kernel
theorem dL_isTitle_227 : decode cL_isTitle 227 = .ok (.iconst 1, 1) := by decide +kernel
theorem dL_isTitle_228 : decode cL_isTitle 228 = .ok (.goto 4, 3) := by decide +kernel
theorem dL_isTitle_231 : decode cL_isTitle 231 = .ok (.iconst 0, 1) := by decide +kernel
theorem dL_isTitle_232 : decode cL_isTitle 232 = .ok (.istore 5, 2) := by decide +kernel
theorem dL_isTitle_234 : decode cL_isTitle 234 = .ok (.iinc 6 1, 3) := by decide +kernel
theorem dL_isTitle_237 : decode cL_isTitle 237 = .ok (.goto (-36), 3) := by decide +kernel
theorem dL_isTitle_240 : decode cL_isTitle 240 = .ok (.iload 5, 2) := by decide +kernel
theorem dL_isTitle_242 : decode cL_isTitle 242 = .ok (.ireturn, 1) := by decide +kernel
theorem dL_areMuseums_0 : decode cL_areMuseums 0 = .ok (.aload_n 0, 1) := by decide +kernel
theorem dL_areMuseums_1 : decode cL_areMuseums 1 = .ok (.invokevirtual 81, 3) := by decide +kernel
theorem dL_areMuseums_4 : decode cL_areMuseums 4 = .ok (.aload_n 1, 1) := by decide +kernel
theorem dL_areMuseums_5 : decode cL_areMuseums 5 = .ok (.iconst 2, 1) := by decide +kernel
theorem dL_areMuseums_6 : decode cL_areMuseums 6 = .ok (.iaload, 1) := by decide +kernel
theorem dL_areMuseums_7 : decode cL_areMuseums 7 = .ok (.if_icmp .ne 27, 3) := by decide +kernel
theorem dL_areMuseums_10 : decode cL_areMuseums 10 = .ok (.aload_n 0, 1) := by decide +kernel
theorem dL_areMuseums_11 : decode cL_areMuseums 11 = .ok (.invokevirtual 85, 3) := by decide +kernel
theorem dL_areMuseums_14 : decode cL_areMuseums 14 = .ok (.aload_n 1, 1) := by decide +kernel
theorem dL_areMuseums_15 : decode cL_areMuseums 15 = .ok (.iconst 0, 1) := by decide +kernel
theorem dL_areMuseums_16 : decode cL_areMuseums 16 = .ok (.iaload, 1) := by decide +kernel
theorem dL_areMuseums_17 : decode cL_areMuseums 17 = .ok (.if_icmp .ne 17, 3) := by decide +kernel
theorem dL_areMuseums_20 : decode cL_areMuseums 20 = .ok (.aload_n 0, 1) := by decide +kernel
theorem dL_areMuseums_21 : decode cL_areMuseums 21 = .ok (.invokevirtual 88, 3) := by decide +kernel
theorem dL_areMuseums_24 : decode cL_areMuseums 24 = .ok (.aload_n 1, 1) := by decide +kernel
theorem dL_areMuseums_25 : decode cL_areMuseums 25 = .ok (.iconst 5, 1) := by decide +kernel
theorem dL_areMuseums_26 : decode cL_areMuseums 26 = .ok (.iaload, 1) := by decide +kernel
theorem dL_areMuseums_27 : decode cL_areMuseums 27 = .ok (.if_icmp .ne 7, 3) := by decide +kernel
theorem dL_areMuseums_30 : decode cL_areMuseums 30 = .ok (.iconst 1, 1) := by decide +kernel
theorem dL_areMuseums_31 : decode cL_areMuseums 31 = .ok (.goto 4, 3) := by decide +kernel
theorem dL_areMuseums_34 : decode cL_areMuseums 34 = .ok (.iconst 0, 1) := by decide +kernel
theorem dL_areMuseums_35 : decode cL_areMuseums 35 = .ok (.istore 12, 2) := by decide +kernel
theorem dL_areMuseums_37 : decode cL_areMuseums 37 = .ok (.iconst 0, 1) := by decide +kernel
theorem dL_areMuseums_38 : decode cL_areMuseums 38 = .ok (.istore 13, 2) := by decide +kernel
theorem dL_areMuseums_40 : decode cL_areMuseums 40 = .ok (.iconst 0, 1) := by decide +kernel
theorem dL_areMuseums_41 : decode cL_areMuseums 41 = .ok (.istore 14, 2) := by decide +kernel
theorem dL_areMuseums_43 : decode cL_areMuseums 43 = .ok (.iload 14, 2) := by decide +kernel
theorem dL_areMuseums_45 : decode cL_areMuseums 45 = .ok (.aload_n 1, 1) := by decide +kernel
theorem dL_areMuseums_46 : decode cL_areMuseums 46 = .ok (.iconst 0, 1) := by decide +kernel
theorem dL_areMuseums_47 : decode cL_areMuseums 47 = .ok (.iaload, 1) := by decide +kernel
theorem dL_areMuseums_48 : decode cL_areMuseums 48 = .ok (.if_icmp .ge 109, 3) := by decide +kernel
theorem dL_areMuseums_51 : decode cL_areMuseums 51 = .ok (.iload 12, 2) := by decide +kernel
theorem dL_areMuseums_53 : decode cL_areMuseums 53 = .ok (.ifCond .eq 104, 3) := by decide +kernel
theorem dL_areMuseums_56 : decode cL_areMuseums 56 = .ok (.iload 13, 2) := by decide +kernel
theorem dL_areMuseums_58 : decode cL_areMuseums 58 = .ok (.aload_n 1, 1) := by decide +kernel
theorem dL_areMuseums_59 : decode cL_areMuseums 59 = .ok (.aload_n 3, 1) := by decide +kernel
theorem dL_areMuseums_60 : decode cL_areMuseums 60 = .ok (.aload 4, 2) := by decide +kernel
theorem dL_areMuseums_62 : decode cL_areMuseums 62 = .ok (.iload 14, 2) := by decide +kernel
theorem dL_areMuseums_64 : decode cL_areMuseums 64 = .ok (.invokestatic 28, 3) := by decide +kernel
theorem dL_areMuseums_67 : decode cL_areMuseums 67 = .ok (.ifCond .eq 11, 3) := by decide +kernel
theorem dL_areMuseums_70 : decode cL_areMuseums 70 = .ok (.aload 4, 2) := by decide +kernel
theorem dL_areMuseums_72 : decode cL_areMuseums 72 = .ok (.iload 14, 2) := by decide +kernel
theorem dL_areMuseums_74 : decode cL_areMuseums 74 = .ok (.iaload, 1) := by decide +kernel
theorem dL_areMuseums_75 : decode cL_areMuseums 75 = .ok (.goto 4, 3) := by decide +kernel
theorem dL_areMuseums_78 : decode cL_areMuseums 78 = .ok (.iconst 0, 1) := by decide +kernel
theorem dL_areMuseums_79 : decode cL_areMuseums 79 = .ok (.iadd, 1) := by decide +kernel
theorem dL_areMuseums_80 : decode cL_areMuseums 80 = .ok (.istore 13, 2) := by decide +kernel
theorem dL_areMuseums_82 : decode cL_areMuseums 82 = .ok (.aload_n 0, 1) := by decide +kernel
theorem dL_areMuseums_83 : decode cL_areMuseums 83 = .ok (.iload 14, 2) := by decide +kernel
theorem dL_areMuseums_85 : decode cL_areMuseums 85 = .ok (.invokevirtual 91, 3) := by decide +kernel
theorem dL_areMuseums_88 : decode cL_areMuseums 88 = .ok (.aload 5, 2) := by decide +kernel
theorem dL_areMuseums_90 : decode cL_areMuseums 90 = .ok (.iload 14, 2) := by decide +kernel
theorem dL_areMuseums_92 : decode cL_areMuseums 92 = .ok (.iaload, 1) := by decide +kernel
theorem dL_areMuseums_93 : decode cL_areMuseums 93 = .ok (.if_icmp .ne 55, 3) := by decide +kernel
theorem dL_areMuseums_96 : decode cL_areMuseums 96 = .ok (.aload_n 0, 1) := by decide +kernel
theorem dL_areMuseums_97 : decode cL_areMuseums 97 = .ok (.iload 14, 2) := by decide +kernel
theorem dL_areMuseums_99 : decode cL_areMuseums 99 = .ok (.invokevirtual 94, 3) := by decide +kernel
theorem dL_areMuseums_102 : decode cL_areMuseums 102 = .ok (.aload 6, 2) := by decide +kernel
theorem dL_areMuseums_104 : decode cL_areMuseums 104 = .ok (.iload 14, 2) := by decide +kernel
theorem dL_areMuseums_106 : decode cL_areMuseums 106 = .ok (.iaload, 1) := by decide +kernel
theorem dL_areMuseums_107 : decode cL_areMuseums 107 = .ok (.ifCond .ne 7, 3) := by decide +kernel
theorem dL_areMuseums_110 : decode cL_areMuseums 110 = .ok (.iconst (-1), 1) := by decide +kernel
theorem dL_areMuseums_111 : decode cL_areMuseums 111 = .ok (.goto 30, 3) := by decide +kernel
theorem dL_areMuseums_114 : decode cL_areMuseums 114 = .ok (.aload 6, 2) := by decide +kernel
theorem dL_areMuseums_116 : decode cL_areMuseums 116 = .ok (.iload 14, 2) := by decide +kernel
theorem dL_areMuseums_118 : decode cL_areMuseums 118 = .ok (.iaload, 1) := by decide +kernel
theorem dL_areMuseums_119 : decode cL_areMuseums 119 = .ok (.bipush 100, 2) := by decide +kernel
theorem dL_areMuseums_121 : decode cL_areMuseums 121 = .ok (.if_icmp .le 13, 3) := by decide +kernel
theorem dL_areMuseums_124 : decode cL_areMuseums 124 = .ok (.aload 6, 2) := by decide +kernel
theorem dL_areMuseums_126 : decode cL_areMuseums 126 = .ok (.iload 14, 2) := by decide +kernel
theorem dL_areMuseums_128 : decode cL_areMuseums 128 = .ok (.iaload, 1) := by decide +kernel
theorem dL_areMuseums_129 : decode cL_areMuseums 129 = .ok (.iconst 2, 1) := by decide +kernel
theorem dL_areMuseums_130 : decode cL_areMuseums 130 = .ok (.isub, 1) := by decide +kernel
theorem dL_areMuseums_131 : decode cL_areMuseums 131 = .ok (.goto 10, 3) := by decide +kernel
theorem dL_areMuseums_134 : decode cL_areMuseums 134 = .ok (.aload 6, 2) := by decide +kernel
theorem dL_areMuseums_136 : decode cL_areMuseums 136 = .ok (.iload 14, 2) := by decide +kernel
theorem dL_areMuseums_138 : decode cL_areMuseums 138 = .ok (.iaload, 1) := by decide +kernel
theorem dL_areMuseums_139 : decode cL_areMuseums 139 = .ok (.iconst 1, 1) := by decide +kernel
theorem dL_areMuseums_140 : decode cL_areMuseums 140 = .ok (.isub, 1) := by decide +kernel
theorem dL_areMuseums_141 : decode cL_areMuseums 141 = .ok (.if_icmp .ne 7, 3) := by decide +kernel
theorem dL_areMuseums_144 : decode cL_areMuseums 144 = .ok (.iconst 1, 1) := by decide +kernel
theorem dL_areMuseums_145 : decode cL_areMuseums 145 = .ok (.goto 4, 3) := by decide +kernel
theorem dL_areMuseums_148 : decode cL_areMuseums 148 = .ok (.iconst 0, 1) := by decide +kernel
theorem dL_areMuseums_149 : decode cL_areMuseums 149 = .ok (.istore 12, 2) := by decide +kernel
theorem dL_areMuseums_151 : decode cL_areMuseums 151 = .ok (.iinc 14 1, 3) := by decide +kernel
theorem dL_areMuseums_154 : decode cL_areMuseums 154 = .ok (.goto (-111), 3) := by decide +kernel
theorem dL_areMuseums_157 : decode cL_areMuseums 157 = .ok (.iconst 0, 1) := by decide +kernel
theorem dL_areMuseums_158 : decode cL_areMuseums 158 = .ok (.istore 14, 2) := by decide +kernel
theorem dL_areMuseums_160 : decode cL_areMuseums 160 = .ok (.iload 14, 2) := by decide +kernel
theorem dL_areMuseums_162 : decode cL_areMuseums 162 = .ok (.bipush 6, 2) := by decide +kernel
theorem dL_areMuseums_164 : decode cL_areMuseums 164 = .ok (.if_icmp .ge 42, 3) := by decide +kernel
theorem dL_areMuseums_167 : decode cL_areMuseums 167 = .ok (.iload 13, 2) := by decide +kernel
theorem dL_areMuseums_169 : decode cL_areMuseums 169 = .ok (.aload_n 2, 1) := by decide +kernel
theorem dL_areMuseums_170 : decode cL_areMuseums 170 = .ok (.iload 14, 2) := by decide +kernel
theorem dL_areMuseums_172 : decode cL_areMuseums 172 = .ok (.iaload, 1) := by decide +kernel
theorem dL_areMuseums_173 : decode cL_areMuseums 173 = .ok (.aload_n 1, 1) := by decide +kernel
theorem dL_areMuseums_174 : decode cL_areMuseums 174 = .ok (.iconst 2, 1) := by decide +kernel
theorem dL_areMuseums_175 : decode cL_areMuseums 175 = .ok (.iaload, 1) := by decide +kernel
theorem dL_areMuseums_176 : decode cL_areMuseums 176 = .ok (.if_icmp .lt 20, 3) := by decide +kernel
theorem dL_areMuseums_179 : decode cL_areMuseums 179 = .ok (.sipush 200, 3) := by decide +kernel
theorem dL_areMuseums_182 : decode cL_areMuseums 182 = .ok (.aload_n 2, 1) := by decide +kernel
theorem dL_areMuseums_183 : decode cL_areMuseums 183 = .ok (.iload 14, 2) := by decide +kernel
theorem dL_areMuseums_185 : decode cL_areMuseums 185 = .ok (.iaload, 1) := by decide +kernel
theorem dL_areMuseums_186 : decode cL_areMuseums 186 = .ok (.aload_n 1, 1) := by decide +kernel
theorem dL_areMuseums_187 : decode cL_areMuseums 187 = .ok (.iconst 2, 1) := by decide +kernel
theorem dL_areMuseums_188 : decode cL_areMuseums 188 = .ok (.iaload, 1) := by decide +kernel
theorem dL_areMuseums_189 : decode cL_areMuseums 189 = .ok (.isub, 1) := by decide +kernel
theorem dL_areMuseums_190 : decode cL_areMuseums 190 = .ok (.iconst 1, 1) := by decide +kernel
theorem dL_areMuseums_191 : decode cL_areMuseums 191 = .ok (.iadd, 1) := by decide +kernel
theorem dL_areMuseums_192 : decode cL_areMuseums 192 = .ok (.imul, 1) := by decide +kernel
theorem dL_areMuseums_193 : decode cL_areMuseums 193 = .ok (.goto 4, 3) := by decide +kernel
theorem dL_areMuseums_196 : decode cL_areMuseums 196 = .ok (.iconst 0, 1) := by decide +kernel
theorem dL_areMuseums_197 : decode cL_areMuseums 197 = .ok (.iadd, 1) := by decide +kernel
theorem dL_areMuseums_198 : decode cL_areMuseums 198 = .ok (.istore 13, 2) := by decide +kernel
theorem dL_areMuseums_200 : decode cL_areMuseums 200 = .ok (.iinc 14 1, 3) := by decide +kernel
theorem dL_areMuseums_203 : decode cL_areMuseums 203 = .ok (.goto (-43), 3) := by decide +kernel
theorem dL_areMuseums_206 : decode cL_areMuseums 206 = .ok (.iconst 0, 1) := by decide +kernel
theorem dL_areMuseums_207 : decode cL_areMuseums 207 = .ok (.istore 14, 2) := by decide +kernel
theorem dL_areMuseums_209 : decode cL_areMuseums 209 = .ok (.iload 14, 2) := by decide +kernel
theorem dL_areMuseums_211 : decode cL_areMuseums 211 = .ok (.bipush 12, 2) := by decide +kernel
theorem dL_areMuseums_213 : decode cL_areMuseums 213 = .ok (.if_icmp .ge 97, 3) := by decide +kernel
theorem dL_areMuseums_216 : decode cL_areMuseums 216 = .ok (.iload 12, 2) := by decide +kernel
theorem dL_areMuseums_218 : decode cL_areMuseums 218 = .ok (.ifCond .eq 92, 3) := by decide +kernel
theorem dL_areMuseums_221 : decode cL_areMuseums 221 = .ok (.aload_n 1, 1) := by decide +kernel
theorem dL_areMuseums_222 : decode cL_areMuseums 222 = .ok (.aload_n 3, 1) := by decide +kernel
theorem dL_areMuseums_223 : decode cL_areMuseums 223 = .ok (.aload 6, 2) := by decide +kernel
theorem dL_areMuseums_225 : decode cL_areMuseums 225 = .ok (.aload 7, 2) := by decide +kernel
theorem dL_areMuseums_227 : decode cL_areMuseums 227 = .ok (.iload 14, 2) := by decide +kernel
theorem dL_areMuseums_229 : decode cL_areMuseums 229 = .ok (.iconst (-1), 1) := by decide +kernel
theorem dL_areMuseums_230 : decode cL_areMuseums 230 = .ok (.invokestatic 10, 3) := by decide +kernel
theorem dL_areMuseums_233 : decode cL_areMuseums 233 = .ok (.istore 15, 2) := by decide +kernel
theorem dL_areMuseums_235 : decode cL_areMuseums 235 = .ok (.aload_n 1, 1) := by decide +kernel
theorem dL_areMuseums_236 : decode cL_areMuseums 236 = .ok (.aload_n 3, 1) := by decide +kernel
theorem dL_areMuseums_237 : decode cL_areMuseums 237 = .ok (.aload 6, 2) := by decide +kernel
theorem dL_areMuseums_239 : decode cL_areMuseums 239 = .ok (.aload 7, 2) := by decide +kernel
theorem dL_areMuseums_241 : decode cL_areMuseums 241 = .ok (.iload 14, 2) := by decide +kernel
theorem dL_areMuseums_243 : decode cL_areMuseums 243 = .ok (.aload_n 3, 1) := by decide +kernel
theorem dL_areMuseums_244 : decode cL_areMuseums 244 = .ok (.aload 7, 2) := by decide +kernel
theorem dL_areMuseums_246 : decode cL_areMuseums 246 = .ok (.iload 15, 2) := by decide +kernel
theorem dL_areMuseums_248 : decode cL_areMuseums 248 = .ok (.invokestatic 97, 3) := by decide +kernel
theorem dL_areMuseums_251 : decode cL_areMuseums 251 = .ok (.invokestatic 10, 3) := by decide +kernel
theorem dL_areMuseums_254 : decode cL_areMuseums 254 = .ok (.istore 16, 2) := by decide +kernel
theorem dL_areMuseums_256 : decode cL_areMuseums 256 = .ok (.aload_n 0, 1) := by decide +kernel
theorem dL_areMuseums_257 : decode cL_areMuseums 257 = .ok (.iload 14, 2) := by decide +kernel
theorem dL_areMuseums_259 : decode cL_areMuseums 259 = .ok (.invokevirtual 100, 3) := by decide +kernel
theorem dL_areMuseums_262 : decode cL_areMuseums 262 = .ok (.aload_n 1, 1) := by decide +kernel
theorem dL_areMuseums_263 : decode cL_areMuseums 263 = .ok (.aload 6, 2) := by decide +kernel
theorem dL_areMuseums_265 : decode cL_areMuseums 265 = .ok (.iload 14, 2) := by decide +kernel
theorem dL_areMuseums_267 : decode cL_areMuseums 267 = .ok (.invokestatic 16, 3) := by decide +kernel
theorem dL_areMuseums_270 : decode cL_areMuseums 270 = .ok (.if_icmp .ne 31, 3) := by decide +kernel
theorem dL_areMuseums_273 : decode cL_areMuseums 273 = .ok (.aload_n 0, 1) := by decide +kernel
theorem dL_areMuseums_274 : decode cL_areMuseums 274 = .ok (.iload 14, 2) := by decide +kernel
theorem dL_areMuseums_276 : decode cL_areMuseums 276 = .ok (.iconst 0, 1) := by decide +kernel
theorem dL_areMuseums_277 : decode cL_areMuseums 277 = .ok (.invokevirtual 102, 3) := by decide +kernel
theorem dL_areMuseums_280 : decode cL_areMuseums 280 = .ok (.iload 15, 2) := by decide +kernel
theorem dL_areMuseums_282 : decode cL_areMuseums 282 = .ok (.if_icmp .ne 19, 3) := by decide +kernel
theorem dL_areMuseums_285 : decode cL_areMuseums 285 = .ok (.aload_n 0, 1) := by decide +kernel
theorem dL_areMuseums_286 : decode cL_areMuseums 286 = .ok (.iload 14, 2) := by decide +kernel
theorem dL_areMuseums_288 : decode cL_areMuseums 288 = .ok (.iconst 1, 1) := by decide +kernel
theorem dL_areMuseums_289 : decode cL_areMuseums 289 = .ok (.invokevirtual 102, 3) := by decide +kernel
theorem dL_areMuseums_292 : decode cL_areMuseums 292 = .ok (.iload 16, 2) := by decide +kernel
theorem dL_areMuseums_294 : decode cL_areMuseums 294 = .ok (.if_icmp .ne 7, 3) := by decide +kernel
theorem dL_areMuseums_297 : decode cL_areMuseums 297 = .ok (.iconst 1, 1) := by decide +kernel
theorem dL_areMuseums_298 : decode cL_areMuseums 298 = .ok (.goto 4, 3) := by decide +kernel
theorem dL_areMuseums_301 : decode cL_areMuseums 301 = .ok (.iconst 0, 1) := by decide +kernel
theorem dL_areMuseums_302 : decode cL_areMuseums 302 = .ok (.istore 12, 2) := by decide +kernel
theorem dL_areMuseums_304 : decode cL_areMuseums 304 = .ok (.iinc 14 1, 3) := by decide +kernel
theorem dL_areMuseums_307 : decode cL_areMuseums 307 = .ok (.goto (-98), 3) := by decide +kernel
theorem dL_areMuseums_310 : decode cL_areMuseums 310 = .ok (.iconst 0, 1) := by decide +kernel
theorem dL_areMuseums_311 : decode cL_areMuseums 311 = .ok (.istore 14, 2) := by decide +kernel
theorem dL_areMuseums_313 : decode cL_areMuseums 313 = .ok (.iload 14, 2) := by decide +kernel
theorem dL_areMuseums_315 : decode cL_areMuseums 315 = .ok (.iconst 5, 1) := by decide +kernel
theorem dL_areMuseums_316 : decode cL_areMuseums 316 = .ok (.if_icmp .ge 63, 3) := by decide +kernel
theorem dL_areMuseums_319 : decode cL_areMuseums 319 = .ok (.iload 12, 2) := by decide +kernel
theorem dL_areMuseums_321 : decode cL_areMuseums 321 = .ok (.ifCond .eq 58, 3) := by decide +kernel
theorem dL_areMuseums_324 : decode cL_areMuseums 324 = .ok (.iload 14, 2) := by decide +kernel
theorem dL_areMuseums_326 : decode cL_areMuseums 326 = .ok (.iconst 4, 1) := by decide +kernel
theorem dL_areMuseums_327 : decode cL_areMuseums 327 = .ok (.if_icmp .ne 7, 3) := by decide +kernel
theorem dL_areMuseums_330 : decode cL_areMuseums 330 = .ok (.iconst (-1), 1) := by decide +kernel
theorem dL_areMuseums_331 : decode cL_areMuseums 331 = .ok (.goto 5, 3) := by decide +kernel
theorem dL_areMuseums_334 : decode cL_areMuseums 334 = .ok (.iload 14, 2) := by decide +kernel
theorem dL_areMuseums_336 : decode cL_areMuseums 336 = .ok (.istore 15, 2) := by decide +kernel
theorem dL_areMuseums_338 : decode cL_areMuseums 338 = .ok (.aload_n 0, 1) := by decide +kernel
theorem dL_areMuseums_339 : decode cL_areMuseums 339 = .ok (.iload 15, 2) := by decide +kernel
theorem dL_areMuseums_341 : decode cL_areMuseums 341 = .ok (.invokevirtual 104, 3) := by decide +kernel
theorem dL_areMuseums_344 : decode cL_areMuseums 344 = .ok (.aload 10, 2) := by decide +kernel
theorem dL_areMuseums_346 : decode cL_areMuseums 346 = .ok (.iload 14, 2) := by decide +kernel
theorem dL_areMuseums_348 : decode cL_areMuseums 348 = .ok (.iaload, 1) := by decide +kernel
theorem dL_areMuseums_349 : decode cL_areMuseums 349 = .ok (.if_icmp .ne 21, 3) := by decide +kernel
theorem dL_areMuseums_352 : decode cL_areMuseums 352 = .ok (.aload_n 0, 1) := by decide +kernel
theorem dL_areMuseums_353 : decode cL_areMuseums 353 = .ok (.iload 15, 2) := by decide +kernel
theorem dL_areMuseums_355 : decode cL_areMuseums 355 = .ok (.invokevirtual 107, 3) := by decide +kernel
theorem dL_areMuseums_358 : decode cL_areMuseums 358 = .ok (.aload 10, 2) := by decide +kernel
theorem dL_areMuseums_360 : decode cL_areMuseums 360 = .ok (.iload 14, 2) := by decide +kernel
theorem dL_areMuseums_362 : decode cL_areMuseums 362 = .ok (.iaload, 1) := by decide +kernel
theorem dL_areMuseums_363 : decode cL_areMuseums 363 = .ok (.if_icmp .ne 7, 3) := by decide +kernel
theorem dL_areMuseums_366 : decode cL_areMuseums 366 = .ok (.iconst 1, 1) := by decide +kernel
theorem dL_areMuseums_367 : decode cL_areMuseums 367 = .ok (.goto 4, 3) := by decide +kernel
theorem dL_areMuseums_370 : decode cL_areMuseums 370 = .ok (.iconst 0, 1) := by decide +kernel
theorem dL_areMuseums_371 : decode cL_areMuseums 371 = .ok (.istore 12, 2) := by decide +kernel
theorem dL_areMuseums_373 : decode cL_areMuseums 373 = .ok (.iinc 14 1, 3) := by decide +kernel
theorem dL_areMuseums_376 : decode cL_areMuseums 376 = .ok (.goto (-63), 3) := by decide +kernel
theorem dL_areMuseums_379 : decode cL_areMuseums 379 = .ok (.iconst 0, 1) := by decide +kernel
theorem dL_areMuseums_380 : decode cL_areMuseums 380 = .ok (.istore 14, 2) := by decide +kernel
theorem dL_areMuseums_382 : decode cL_areMuseums 382 = .ok (.iload 14, 2) := by decide +kernel
theorem dL_areMuseums_384 : decode cL_areMuseums 384 = .ok (.aload_n 1, 1) := by decide +kernel
theorem dL_areMuseums_385 : decode cL_areMuseums 385 = .ok (.iconst 1, 1) := by decide +kernel
theorem dL_areMuseums_386 : decode cL_areMuseums 386 = .ok (.iaload, 1) := by decide +kernel
theorem dL_areMuseums_387 : decode cL_areMuseums 387 = .ok (.if_icmp .ge 57, 3) := by decide +kernel
theorem dL_areMuseums_390 : decode cL_areMuseums 390 = .ok (.iload 12, 2) := by decide +kernel
theorem dL_areMuseums_392 : decode cL_areMuseums 392 = .ok (.ifCond .eq 52, 3) := by decide +kernel
theorem dL_areMuseums_395 : decode cL_areMuseums 395 = .ok (.aload_n 0, 1) := by decide +kernel
theorem dL_areMuseums_396 : decode cL_areMuseums 396 = .ok (.iload 14, 2) := by decide +kernel
theorem dL_areMuseums_398 : decode cL_areMuseums 398 = .ok (.invokevirtual 110, 3) := by decide +kernel
theorem dL_areMuseums_401 : decode cL_areMuseums 401 = .ok (.aload 9, 2) := by decide +kernel
theorem dL_areMuseums_403 : decode cL_areMuseums 403 = .ok (.iload 14, 2) := by decide +kernel
theorem dL_areMuseums_405 : decode cL_areMuseums 405 = .ok (.iaload, 1) := by decide +kernel
theorem dL_areMuseums_406 : decode cL_areMuseums 406 = .ok (.if_icmp .ne 29, 3) := by decide +kernel
theorem dL_areMuseums_409 : decode cL_areMuseums 409 = .ok (.iload 14, 2) := by decide +kernel
theorem dL_areMuseums_411 : decode cL_areMuseums 411 = .ok (.iconst 3, 1) := by decide +kernel
theorem dL_areMuseums_412 : decode cL_areMuseums 412 = .ok (.irem, 1) := by decide +kernel
theorem dL_areMuseums_413 : decode cL_areMuseums 413 = .ok (.iload 11, 2) := by decide +kernel
theorem dL_areMuseums_415 : decode cL_areMuseums 415 = .ok (.iconst 3, 1) := by decide +kernel
theorem dL_areMuseums_416 : decode cL_areMuseums 416 = .ok (.irem, 1) := by decide +kernel
theorem dL_areMuseums_417 : decode cL_areMuseums 417 = .ok (.if_icmp .ne 14, 3) := by decide +kernel
theorem dL_areMuseums_420 : decode cL_areMuseums 420 = .ok (.aload_n 0, 1) := by decide +kernel
theorem dL_areMuseums_421 : decode cL_areMuseums 421 = .ok (.aload 8, 2) := by decide +kernel
theorem dL_areMuseums_423 : decode cL_areMuseums 423 = .ok (.iload 14, 2) := by decide +kernel
theorem dL_areMuseums_425 : decode cL_areMuseums 425 = .ok (.invokestatic 113, 3) := by decide +kernel
theorem dL_areMuseums_428 : decode cL_areMuseums 428 = .ok (.ifCond .eq 7, 3) := by decide +kernel
theorem dL_areMuseums_431 : decode cL_areMuseums 431 = .ok (.iconst 1, 1) := by decide +kernel
theorem dL_areMuseums_432 : decode cL_areMuseums 432 = .ok (.goto 4, 3) := by decide +kernel
theorem dL_areMuseums_435 : decode cL_areMuseums 435 = .ok (.iconst 0, 1) := by decide +kernel
theorem dL_areMuseums_436 : decode cL_areMuseums 436 = .ok (.istore 12, 2) := by decide +kernel
theorem dL_areMuseums_438 : decode cL_areMuseums 438 = .ok (.iinc 14 1, 3) := by decide +kernel
theorem dL_areMuseums_441 : decode cL_areMuseums 441 = .ok (.goto (-59), 3) := by decide +kernel
theorem dL_areMuseums_444 : decode cL_areMuseums 444 = .ok (.iload 12, 2) := by decide +kernel
theorem dL_areMuseums_446 : decode cL_areMuseums 446 = .ok (.ifCond .eq 16, 3) := by decide +kernel
theorem dL_areMuseums_449 : decode cL_areMuseums 449 = .ok (.aload_n 0, 1) := by decide +kernel
theorem dL_areMuseums_450 : decode cL_areMuseums 450 = .ok (.invokevirtual 117, 3) := by decide +kernel
theorem dL_areMuseums_453 : decode cL_areMuseums 453 = .ok (.iload 13, 2) := by decide +kernel
theorem dL_areMuseums_455 : decode cL_areMuseums 455 = .ok (.if_icmp .ne 7, 3) := by decide +kernel
theorem dL_areMuseums_458 : decode cL_areMuseums 458 = .ok (.iconst 1, 1) := by decide +kernel
theorem dL_areMuseums_459 : decode cL_areMuseums 459 = .ok (.goto 4, 3) := by decide +kernel
theorem dL_areMuseums_462 : decode cL_areMuseums 462 = .ok (.iconst 0, 1) := by decide +kernel
theorem dL_areMuseums_463 : decode cL_areMuseums 463 = .ok (.ireturn, 1) := by decide +kernel
