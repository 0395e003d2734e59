theorem dL_from_0 : decode cL_from 0 = .ok (.aload_n 0, 1) := by decide +kernel
theorem dL_from_1 : decode cL_from 1 = .ok (.arraylength, 1) := by decide +kernel
theorem dL_from_2 : decode cL_from 2 = .ok (.ifCond .ne 13, 3) := by decide +kernel
theorem dL_from_5 : decode cL_from 5 = .ok (.bipush 89, 2) := by decide +kernel
theorem dL_from_7 : decode cL_from 7 = .ok (.iload_n 1, 1) := by decide +kernel
theorem dL_from_8 : decode cL_from 8 = .ok (.imul, 1) := by decide +kernel
theorem dL_from_9 : decode cL_from 9 = .ok (.bipush 67, 2) := by decide +kernel
theorem dL_from_11 : decode cL_from 11 = .ok (.iadd, 1) := by decide +kernel
theorem dL_from_12 : decode cL_from 12 = .ok (.goto 14, 3) := by decide +kernel
theorem dL_from_15 : decode cL_from 15 = .ok (.aload_n 0, 1) := by decide +kernel
theorem dL_from_16 : decode cL_from 16 = .ok (.iload_n 1, 1) := by decide +kernel
theorem dL_from_17 : decode cL_from 17 = .ok (.aload_n 0, 1) := by decide +kernel
theorem dL_from_18 : decode cL_from 18 = .ok (.arraylength, 1) := by decide +kernel
theorem dL_from_19 : decode cL_from 19 = .ok (.irem, 1) := by decide +kernel
theorem dL_from_20 : decode cL_from 20 = .ok (.iaload, 1) := by decide +kernel
theorem dL_from_21 : decode cL_from 21 = .ok (.ldc 7, 2) := by decide +kernel
theorem dL_from_23 : decode cL_from 23 = .ok (.iload_n 1, 1) := by decide +kernel
theorem dL_from_24 : decode cL_from 24 = .ok (.imul, 1) := by decide +kernel
theorem dL_from_25 : decode cL_from 25 = .ok (.ixor, 1) := by decide +kernel
theorem dL_from_26 : decode cL_from 26 = .ok (.istore_n 3, 1) := by decide +kernel
theorem dL_from_27 : decode cL_from 27 = .ok (.iload_n 3, 1) := by decide +kernel
theorem dL_from_28 : decode cL_from 28 = .ok (.ldc 8, 2) := by decide +kernel
theorem dL_from_30 : decode cL_from 30 = .ok (.iand, 1) := by decide +kernel
theorem dL_from_31 : decode cL_from 31 = .ok (.iload_n 2, 1) := by decide +kernel
theorem dL_from_32 : decode cL_from 32 = .ok (.irem, 1) := by decide +kernel
theorem dL_from_33 : decode cL_from 33 = .ok (.ireturn, 1) := by decide +kernel
theorem dL_isSettled_0 : decode cL_isSettled 0 = .ok (.iconst 0, 1) := by decide +kernel
theorem dL_isSettled_1 : decode cL_isSettled 1 = .ok (.istore_n 1, 1) := by decide +kernel
theorem dL_isSettled_2 : decode cL_isSettled 2 = .ok (.iconst 0, 1) := by decide +kernel
theorem dL_isSettled_3 : decode cL_isSettled 3 = .ok (.istore_n 2, 1) := by decide +kernel
theorem dL_isSettled_4 : decode cL_isSettled 4 = .ok (.iload_n 2, 1) := by decide +kernel
theorem dL_isSettled_5 : decode cL_isSettled 5 = .ok (.bipush 16, 2) := by decide +kernel
theorem dL_isSettled_7 : decode cL_isSettled 7 = .ok (.if_icmp .ge 32, 3) := by decide +kernel
theorem dL_isSettled_10 : decode cL_isSettled 10 = .ok (.aload_n 0, 1) := by decide +kernel
theorem dL_isSettled_11 : decode cL_isSettled 11 = .ok (.iload_n 2, 1) := by decide +kernel
theorem dL_isSettled_12 : decode cL_isSettled 12 = .ok (.iconst 4, 1) := by decide +kernel
theorem dL_isSettled_13 : decode cL_isSettled 13 = .ok (.idiv, 1) := by decide +kernel
theorem dL_isSettled_14 : decode cL_isSettled 14 = .ok (.iaload, 1) := by decide +kernel
theorem dL_isSettled_15 : decode cL_isSettled 15 = .ok (.aload_n 0, 1) := by decide +kernel
theorem dL_isSettled_16 : decode cL_isSettled 16 = .ok (.iload_n 2, 1) := by decide +kernel
theorem dL_isSettled_17 : decode cL_isSettled 17 = .ok (.iconst 4, 1) := by decide +kernel
theorem dL_isSettled_18 : decode cL_isSettled 18 = .ok (.irem, 1) := by decide +kernel
theorem dL_isSettled_19 : decode cL_isSettled 19 = .ok (.iaload, 1) := by decide +kernel
theorem dL_isSettled_20 : decode cL_isSettled 20 = .ok (.isub, 1) := by decide +kernel
theorem dL_isSettled_21 : decode cL_isSettled 21 = .ok (.istore_n 3, 1) := by decide +kernel
theorem dL_isSettled_22 : decode cL_isSettled 22 = .ok (.iload_n 3, 1) := by decide +kernel
theorem dL_isSettled_23 : decode cL_isSettled 23 = .ok (.iload_n 1, 1) := by decide +kernel
theorem dL_isSettled_24 : decode cL_isSettled 24 = .ok (.if_icmp .le 7, 3) := by decide +kernel
theorem dL_isSettled_27 : decode cL_isSettled 27 = .ok (.iload_n 3, 1) := by decide +kernel
theorem dL_isSettled_28 : decode cL_isSettled 28 = .ok (.goto 4, 3) := by decide +kernel
theorem dL_isSettled_31 : decode cL_isSettled 31 = .ok (.iload_n 1, 1) := by decide +kernel
theorem dL_isSettled_32 : decode cL_isSettled 32 = .ok (.istore_n 1, 1) := by decide +kernel
theorem dL_isSettled_33 : decode cL_isSettled 33 = .ok (.iinc 2 1, 3) := by decide +kernel
theorem dL_isSettled_36 : decode cL_isSettled 36 = .ok (.goto (-32), 3) := by decide +kernel
theorem dL_isSettled_39 : decode cL_isSettled 39 = .ok (.aload_n 0, 1) := by decide +kernel
theorem dL_isSettled_40 : decode cL_isSettled 40 = .ok (.iconst 4, 1) := by decide +kernel
theorem dL_isSettled_41 : decode cL_isSettled 41 = .ok (.iaload, 1) := by decide +kernel
theorem dL_isSettled_42 : decode cL_isSettled 42 = .ok (.iconst 3, 1) := by decide +kernel
theorem dL_isSettled_43 : decode cL_isSettled 43 = .ok (.if_icmp .le 15, 3) := by decide +kernel
theorem dL_isSettled_46 : decode cL_isSettled 46 = .ok (.iload_n 1, 1) := by decide +kernel
theorem dL_isSettled_47 : decode cL_isSettled 47 = .ok (.aload_n 0, 1) := by decide +kernel
theorem dL_isSettled_48 : decode cL_isSettled 48 = .ok (.bipush 7, 2) := by decide +kernel
theorem dL_isSettled_50 : decode cL_isSettled 50 = .ok (.iaload, 1) := by decide +kernel
theorem dL_isSettled_51 : decode cL_isSettled 51 = .ok (.if_icmp .gt 7, 3) := by decide +kernel
theorem dL_isSettled_54 : decode cL_isSettled 54 = .ok (.iconst 1, 1) := by decide +kernel
theorem dL_isSettled_55 : decode cL_isSettled 55 = .ok (.goto 4, 3) := by decide +kernel
theorem dL_isSettled_58 : decode cL_isSettled 58 = .ok (.iconst 0, 1) := by decide +kernel
theorem dL_isSettled_59 : decode cL_isSettled 59 = .ok (.ireturn, 1) := by decide +kernel
theorem dL_net_0 : decode cL_net 0 = .ok (.aload_n 0, 1) := by decide +kernel
theorem dL_net_1 : decode cL_net 1 = .ok (.iconst 0, 1) := by decide +kernel
theorem dL_net_2 : decode cL_net 2 = .ok (.iaload, 1) := by decide +kernel
theorem dL_net_3 : decode cL_net 3 = .ok (.aload_n 0, 1) := by decide +kernel
theorem dL_net_4 : decode cL_net 4 = .ok (.iconst 5, 1) := by decide +kernel
theorem dL_net_5 : decode cL_net 5 = .ok (.iaload, 1) := by decide +kernel
theorem dL_net_6 : decode cL_net 6 = .ok (.isub, 1) := by decide +kernel
theorem dL_net_7 : decode cL_net 7 = .ok (.aload_n 0, 1) := by decide +kernel
theorem dL_net_8 : decode cL_net 8 = .ok (.bipush 6, 2) := by decide +kernel
theorem dL_net_10 : decode cL_net 10 = .ok (.iaload, 1) := by decide +kernel
theorem dL_net_11 : decode cL_net 11 = .ok (.isub, 1) := by decide +kernel
theorem dL_net_12 : decode cL_net 12 = .ok (.ireturn, 1) := by decide +kernel
theorem dL_turn_0 : decode cL_turn 0 = .ok (.aload_n 0, 1) := by decide +kernel
theorem dL_turn_1 : decode cL_turn 1 = .ok (.bipush 8, 2) := by decide +kernel
theorem dL_turn_3 : decode cL_turn 3 = .ok (.iload_n 1, 1) := by decide +kernel
theorem dL_turn_4 : decode cL_turn 4 = .ok (.iastore, 1) := by decide +kernel
theorem dL_turn_5 : decode cL_turn 5 = .ok (.aload_n 0, 1) := by decide +kernel
theorem dL_turn_6 : decode cL_turn 6 = .ok (.bipush 12, 2) := by decide +kernel
theorem dL_turn_8 : decode cL_turn 8 = .ok (.aload_n 0, 1) := by decide +kernel
theorem dL_turn_9 : decode cL_turn 9 = .ok (.iconst 4, 1) := by decide +kernel
theorem dL_turn_10 : decode cL_turn 10 = .ok (.iaload, 1) := by decide +kernel
theorem dL_turn_11 : decode cL_turn 11 = .ok (.iastore, 1) := by decide +kernel
theorem dL_turn_12 : decode cL_turn 12 = .ok (.return_, 1) := by decide +kernel
theorem dL_stop_0 : decode cL_stop 0 = .ok (.aload_n 0, 1) := by decide +kernel
theorem dL_stop_1 : decode cL_stop 1 = .ok (.bipush 10, 2) := by decide +kernel
theorem dL_stop_3 : decode cL_stop 3 = .ok (.aload_n 0, 1) := by decide +kernel
theorem dL_stop_4 : decode cL_stop 4 = .ok (.bipush 8, 2) := by decide +kernel
theorem dL_stop_6 : decode cL_stop 6 = .ok (.iaload, 1) := by decide +kernel
theorem dL_stop_7 : decode cL_stop 7 = .ok (.iastore, 1) := by decide +kernel
theorem dL_stop_8 : decode cL_stop 8 = .ok (.aload_n 0, 1) := by decide +kernel
theorem dL_stop_9 : decode cL_stop 9 = .ok (.bipush 9, 2) := by decide +kernel
theorem dL_stop_11 : decode cL_stop 11 = .ok (.iload_n 1, 1) := by decide +kernel
theorem dL_stop_12 : decode cL_stop 12 = .ok (.iastore, 1) := by decide +kernel
theorem dL_stop_13 : decode cL_stop 13 = .ok (.aload_n 0, 1) := by decide +kernel
theorem dL_stop_14 : decode cL_stop 14 = .ok (.bipush 6, 2) := by decide +kernel
theorem dL_stop_16 : decode cL_stop 16 = .ok (.invokestatic 9, 3) := by decide +kernel
theorem dL_stop_19 : decode cL_stop 19 = .ok (.return_, 1) := by decide +kernel
theorem dL_book_0 : decode cL_book 0 = .ok (.aload_n 0, 1) := by decide +kernel
theorem dL_book_1 : decode cL_book 1 = .ok (.invokestatic 15, 3) := by decide +kernel
theorem dL_book_4 : decode cL_book 4 = .ok (.ifCond .le 10, 3) := by decide +kernel
theorem dL_book_7 : decode cL_book 7 = .ok (.aload_n 0, 1) := by decide +kernel
theorem dL_book_8 : decode cL_book 8 = .ok (.invokestatic 15, 3) := by decide +kernel
theorem dL_book_11 : decode cL_book 11 = .ok (.goto 4, 3) := by decide +kernel
theorem dL_book_14 : decode cL_book 14 = .ok (.iconst 0, 1) := by decide +kernel
theorem dL_book_15 : decode cL_book 15 = .ok (.istore 7, 2) := by decide +kernel
theorem dL_book_17 : decode cL_book 17 = .ok (.aload_n 2, 1) := by decide +kernel
theorem dL_book_18 : decode cL_book 18 = .ok (.iconst 3, 1) := by decide +kernel
theorem dL_book_19 : decode cL_book 19 = .ok (.aload_n 0, 1) := by decide +kernel
theorem dL_book_20 : decode cL_book 20 = .ok (.bipush 11, 2) := by decide +kernel
theorem dL_book_22 : decode cL_book 22 = .ok (.iaload, 1) := by decide +kernel
theorem dL_book_23 : decode cL_book 23 = .ok (.imul, 1) := by decide +kernel
theorem dL_book_24 : decode cL_book 24 = .ok (.iaload, 1) := by decide +kernel
theorem dL_book_25 : decode cL_book 25 = .ok (.istore 8, 2) := by decide +kernel
theorem dL_book_27 : decode cL_book 27 = .ok (.iconst 0, 1) := by decide +kernel
theorem dL_book_28 : decode cL_book 28 = .ok (.istore 9, 2) := by decide +kernel
theorem dL_book_30 : decode cL_book 30 = .ok (.aload_n 1, 1) := by decide +kernel
theorem dL_book_31 : decode cL_book 31 = .ok (.iconst 4, 1) := by decide +kernel
theorem dL_book_32 : decode cL_book 32 = .ok (.iload 8, 2) := by decide +kernel
theorem dL_book_34 : decode cL_book 34 = .ok (.imul, 1) := by decide +kernel
theorem dL_book_35 : decode cL_book 35 = .ok (.iconst 2, 1) := by decide +kernel
theorem dL_book_36 : decode cL_book 36 = .ok (.iadd, 1) := by decide +kernel
theorem dL_book_37 : decode cL_book 37 = .ok (.dup2, 1) := by decide +kernel
theorem dL_book_38 : decode cL_book 38 = .ok (.iaload, 1) := by decide +kernel
theorem dL_book_39 : decode cL_book 39 = .ok (.iload 7, 2) := by decide +kernel
theorem dL_book_41 : decode cL_book 41 = .ok (.iadd, 1) := by decide +kernel
theorem dL_book_42 : decode cL_book 42 = .ok (.iastore, 1) := by decide +kernel
theorem dL_book_43 : decode cL_book 43 = .ok (.iconst 0, 1) := by decide +kernel
theorem dL_book_44 : decode cL_book 44 = .ok (.istore 10, 2) := by decide +kernel
theorem dL_book_46 : decode cL_book 46 = .ok (.iload 10, 2) := by decide +kernel
theorem dL_book_48 : decode cL_book 48 = .ok (.iload 6, 2) := by decide +kernel
theorem dL_book_50 : decode cL_book 50 = .ok (.if_icmp .ge 129, 3) := by decide +kernel
theorem dL_book_53 : decode cL_book 53 = .ok (.aload_n 3, 1) := by decide +kernel
theorem dL_book_54 : decode cL_book 54 = .ok (.iconst 3, 1) := by decide +kernel
theorem dL_book_55 : decode cL_book 55 = .ok (.iload 10, 2) := by decide +kernel
theorem dL_book_57 : decode cL_book 57 = .ok (.imul, 1) := by decide +kernel
theorem dL_book_58 : decode cL_book 58 = .ok (.iaload, 1) := by decide +kernel
theorem dL_book_59 : decode cL_book 59 = .ok (.iload 8, 2) := by decide +kernel
theorem dL_book_61 : decode cL_book 61 = .ok (.if_icmp .ne 112, 3) := by decide +kernel
theorem dL_book_64 : decode cL_book 64 = .ok (.iload 7, 2) := by decide +kernel
theorem dL_book_66 : decode cL_book 66 = .ok (.iload 9, 2) := by decide +kernel
theorem dL_book_68 : decode cL_book 68 = .ok (.isub, 1) := by decide +kernel
theorem dL_book_69 : decode cL_book 69 = .ok (.aload_n 3, 1) := by decide +kernel
theorem dL_book_70 : decode cL_book 70 = .ok (.iconst 3, 1) := by decide +kernel
theorem dL_book_71 : decode cL_book 71 = .ok (.iload 10, 2) := by decide +kernel
theorem dL_book_73 : decode cL_book 73 = .ok (.imul, 1) := by decide +kernel
theorem dL_book_74 : decode cL_book 74 = .ok (.iconst 2, 1) := by decide +kernel
theorem dL_book_75 : decode cL_book 75 = .ok (.iadd, 1) := by decide +kernel
theorem dL_book_76 : decode cL_book 76 = .ok (.iaload, 1) := by decide +kernel
theorem dL_book_77 : decode cL_book 77 = .ok (.if_icmp .le 14, 3) := by decide +kernel
theorem dL_book_80 : decode cL_book 80 = .ok (.aload_n 3, 1) := by decide +kernel
theorem dL_book_81 : decode cL_book 81 = .ok (.iconst 3, 1) := by decide +kernel
theorem dL_book_82 : decode cL_book 82 = .ok (.iload 10, 2) := by decide +kernel
theorem dL_book_84 : decode cL_book 84 = .ok (.imul, 1) := by decide +kernel
theorem dL_book_85 : decode cL_book 85 = .ok (.iconst 2, 1) := by decide +kernel
theorem dL_book_86 : decode cL_book 86 = .ok (.iadd, 1) := by decide +kernel
theorem dL_book_87 : decode cL_book 87 = .ok (.iaload, 1) := by decide +kernel
theorem dL_book_88 : decode cL_book 88 = .ok (.goto 8, 3) := by decide +kernel
theorem dL_book_91 : decode cL_book 91 = .ok (.iload 7, 2) := by decide +kernel
theorem dL_book_93 : decode cL_book 93 = .ok (.iload 9, 2) := by decide +kernel
theorem dL_book_95 : decode cL_book 95 = .ok (.isub, 1) := by decide +kernel
theorem dL_book_96 : decode cL_book 96 = .ok (.istore 11, 2) := by decide +kernel
theorem dL_book_98 : decode cL_book 98 = .ok (.aload_n 3, 1) := by decide +kernel
theorem dL_book_99 : decode cL_book 99 = .ok (.iconst 3, 1) := by decide +kernel
theorem dL_book_100 : decode cL_book 100 = .ok (.iload 10, 2) := by decide +kernel
theorem dL_book_102 : decode cL_book 102 = .ok (.imul, 1) := by decide +kernel
theorem dL_book_103 : decode cL_book 103 = .ok (.iconst 2, 1) := by decide +kernel
theorem dL_book_104 : decode cL_book 104 = .ok (.iadd, 1) := by decide +kernel
theorem dL_book_105 : decode cL_book 105 = .ok (.dup2, 1) := by decide +kernel
theorem dL_book_106 : decode cL_book 106 = .ok (.iaload, 1) := by decide +kernel
theorem dL_book_107 : decode cL_book 107 = .ok (.iload 11, 2) := by decide +kernel
theorem dL_book_109 : decode cL_book 109 = .ok (.isub, 1) := by decide +kernel
theorem dL_book_110 : decode cL_book 110 = .ok (.iastore, 1) := by decide +kernel
theorem dL_book_111 : decode cL_book 111 = .ok (.iload 9, 2) := by decide +kernel
theorem dL_book_113 : decode cL_book 113 = .ok (.iload 11, 2) := by decide +kernel
theorem dL_book_115 : decode cL_book 115 = .ok (.iadd, 1) := by decide +kernel
theorem dL_book_116 : decode cL_book 116 = .ok (.istore 9, 2) := by decide +kernel
theorem dL_book_118 : decode cL_book 118 = .ok (.aload 4, 2) := by decide +kernel
theorem dL_book_120 : decode cL_book 120 = .ok (.iload 10, 2) := by decide +kernel
theorem dL_book_122 : decode cL_book 122 = .ok (.iload 11, 2) := by decide +kernel
theorem dL_book_124 : decode cL_book 124 = .ok (.ifCond .le 20, 3) := by decide +kernel
theorem dL_book_127 : decode cL_book 127 = .ok (.aload 4, 2) := by decide +kernel
theorem dL_book_129 : decode cL_book 129 = .ok (.iload 10, 2) := by decide +kernel
theorem dL_book_131 : decode cL_book 131 = .ok (.iaload, 1) := by decide +kernel
theorem dL_book_132 : decode cL_book 132 = .ok (.ifCond .ge 12, 3) := by decide +kernel
theorem dL_book_135 : decode cL_book 135 = .ok (.aload_n 0, 1) := by decide +kernel
theorem dL_book_136 : decode cL_book 136 = .ok (.bipush 19, 2) := by decide +kernel
theorem dL_book_138 : decode cL_book 138 = .ok (.iaload, 1) := by decide +kernel
theorem dL_book_139 : decode cL_book 139 = .ok (.iconst 1, 1) := by decide +kernel
theorem dL_book_140 : decode cL_book 140 = .ok (.isub, 1) := by decide +kernel
theorem dL_book_141 : decode cL_book 141 = .ok (.goto 8, 3) := by decide +kernel
theorem dL_book_144 : decode cL_book 144 = .ok (.aload 4, 2) := by decide +kernel
theorem dL_book_146 : decode cL_book 146 = .ok (.iload 10, 2) := by decide +kernel
theorem dL_book_148 : decode cL_book 148 = .ok (.iaload, 1) := by decide +kernel
theorem dL_book_149 : decode cL_book 149 = .ok (.iastore, 1) := by decide +kernel
theorem dL_book_150 : decode cL_book 150 = .ok (.aload 5, 2) := by decide +kernel
theorem dL_book_152 : decode cL_book 152 = .ok (.bipush 8, 2) := by decide +kernel
theorem dL_book_154 : decode cL_book 154 = .ok (.iload 10, 2) := by decide +kernel
theorem dL_book_156 : decode cL_book 156 = .ok (.imul, 1) := by decide +kernel
theorem dL_book_157 : decode cL_book 157 = .ok (.aload_n 0, 1) := by decide +kernel
theorem dL_book_158 : decode cL_book 158 = .ok (.bipush 19, 2) := by decide +kernel
theorem dL_book_160 : decode cL_book 160 = .ok (.iaload, 1) := by decide +kernel
theorem dL_book_161 : decode cL_book 161 = .ok (.iconst 1, 1) := by decide +kernel
theorem dL_book_162 : decode cL_book 162 = .ok (.isub, 1) := by decide +kernel
theorem dL_book_163 : decode cL_book 163 = .ok (.bipush 8, 2) := by decide +kernel
theorem dL_book_165 : decode cL_book 165 = .ok (.irem, 1) := by decide +kernel
theorem dL_book_166 : decode cL_book 166 = .ok (.iadd, 1) := by decide +kernel
theorem dL_book_167 : decode cL_book 167 = .ok (.dup2, 1) := by decide +kernel
theorem dL_book_168 : decode cL_book 168 = .ok (.iaload, 1) := by decide +kernel
theorem dL_book_169 : decode cL_book 169 = .ok (.iload 11, 2) := by decide +kernel
theorem dL_book_171 : decode cL_book 171 = .ok (.iadd, 1) := by decide +kernel
theorem dL_book_172 : decode cL_book 172 = .ok (.iastore, 1) := by decide +kernel
theorem dL_book_173 : decode cL_book 173 = .ok (.iinc 10 1, 3) := by decide +kernel
theorem dL_book_176 : decode cL_book 176 = .ok (.goto (-130), 3) := by decide +kernel
theorem dL_book_179 : decode cL_book 179 = .ok (.aload_n 1, 1) := by decide +kernel
theorem dL_book_180 : decode cL_book 180 = .ok (.iconst 4, 1) := by decide +kernel
theorem dL_book_181 : decode cL_book 181 = .ok (.iload 8, 2) := by decide +kernel
theorem dL_book_183 : decode cL_book 183 = .ok (.imul, 1) := by decide +kernel
theorem dL_book_184 : decode cL_book 184 = .ok (.iconst 3, 1) := by decide +kernel
theorem dL_book_185 : decode cL_book 185 = .ok (.iadd, 1) := by decide +kernel
theorem dL_book_186 : decode cL_book 186 = .ok (.dup2, 1) := by decide +kernel
theorem dL_book_187 : decode cL_book 187 = .ok (.iaload, 1) := by decide +kernel
theorem dL_book_188 : decode cL_book 188 = .ok (.iload 7, 2) := by decide +kernel
theorem dL_book_190 : decode cL_book 190 = .ok (.iload 9, 2) := by decide +kernel
theorem dL_book_192 : decode cL_book 192 = .ok (.isub, 1) := by decide +kernel
theorem dL_book_193 : decode cL_book 193 = .ok (.iadd, 1) := by decide +kernel
theorem dL_book_194 : decode cL_book 194 = .ok (.iastore, 1) := by decide +kernel
theorem dL_book_195 : decode cL_book 195 = .ok (.iload 7, 2) := by decide +kernel
theorem dL_book_197 : decode cL_book 197 = .ok (.ireturn, 1) := by decide +kernel
theorem dL_next_0 : decode cL_next 0 = .ok (.aload_n 0, 1) := by decide +kernel
theorem dL_next_1 : decode cL_next 1 = .ok (.bipush 11, 2) := by decide +kernel
theorem dL_next_3 : decode cL_next 3 = .ok (.iload_n 1, 1) := by decide +kernel
theorem dL_next_4 : decode cL_next 4 = .ok (.iastore, 1) := by decide +kernel
theorem dL_next_5 : decode cL_next 5 = .ok (.bipush 14, 2) := by decide +kernel
theorem dL_next_7 : decode cL_next 7 = .ok (.istore_n 2, 1) := by decide +kernel
theorem dL_next_8 : decode cL_next 8 = .ok (.iload_n 2, 1) := by decide +kernel
theorem dL_next_9 : decode cL_next 9 = .ok (.bipush 19, 2) := by decide +kernel
theorem dL_next_11 : decode cL_next 11 = .ok (.if_icmp .ge 13, 3) := by decide +kernel
theorem dL_next_14 : decode cL_next 14 = .ok (.aload_n 0, 1) := by decide +kernel
theorem dL_next_15 : decode cL_next 15 = .ok (.iload_n 2, 1) := by decide +kernel
theorem dL_next_16 : decode cL_next 16 = .ok (.iconst 0, 1) := by decide +kernel
theorem dL_next_17 : decode cL_next 17 = .ok (.iastore, 1) := by decide +kernel
theorem dL_next_18 : decode cL_next 18 = .ok (.iinc 2 1, 3) := by decide +kernel
theorem dL_next_21 : decode cL_next 21 = .ok (.goto (-13), 3) := by decide +kernel
theorem dL_next_24 : decode cL_next 24 = .ok (.aload_n 0, 1) := by decide +kernel
theorem dL_next_25 : decode cL_next 25 = .ok (.bipush 13, 2) := by decide +kernel
theorem dL_next_27 : decode cL_next 27 = .ok (.iconst 0, 1) := by decide +kernel
theorem dL_next_28 : decode cL_next 28 = .ok (.iastore, 1) := by decide +kernel
theorem dL_next_29 : decode cL_next 29 = .ok (.aload_n 0, 1) := by decide +kernel
theorem dL_next_30 : decode cL_next 30 = .ok (.bipush 9, 2) := by decide +kernel
theorem dL_next_32 : decode cL_next 32 = .ok (.iconst 0, 1) := by decide +kernel
theorem dL_next_33 : decode cL_next 33 = .ok (.iastore, 1) := by decide +kernel
theorem dL_next_34 : decode cL_next 34 = .ok (.aload_n 0, 1) := by decide +kernel
theorem dL_next_35 : decode cL_next 35 = .ok (.iconst 1, 1) := by decide +kernel
theorem dL_next_36 : decode cL_next 36 = .ok (.invokestatic 9, 3) := by decide +kernel
theorem dL_next_39 : decode cL_next 39 = .ok (.return_, 1) := by decide +kernel
theorem dL_end_0 : decode cL_end 0 = .ok (.aload_n 0, 1) := by decide +kernel
theorem dL_end_1 : decode cL_end 1 = .ok (.aload_n 1, 1) := by decide +kernel
theorem dL_end_2 : decode cL_end 2 = .ok (.aload_n 2, 1) := by decide +kernel
theorem dL_end_3 : decode cL_end 3 = .ok (.aload_n 3, 1) := by decide +kernel
theorem dL_end_4 : decode cL_end 4 = .ok (.aload 4, 2) := by decide +kernel
theorem dL_end_6 : decode cL_end 6 = .ok (.aload 5, 2) := by decide +kernel
theorem dL_end_8 : decode cL_end 8 = .ok (.iload 6, 2) := by decide +kernel
theorem dL_end_10 : decode cL_end 10 = .ok (.invokestatic 19, 3) := by decide +kernel
theorem dL_end_13 : decode cL_end 13 = .ok (.istore 7, 2) := by decide +kernel
theorem dL_end_15 : decode cL_end 15 = .ok (.iload 7, 2) := by decide +kernel
theorem dL_end_17 : decode cL_end 17 = .ok (.ifCond .lt 29, 3) := by decide +kernel
theorem dL_end_20 : decode cL_end 20 = .ok (.aload_n 0, 1) := by decide +kernel
theorem dL_end_21 : decode cL_end 21 = .ok (.bipush 11, 2) := by decide +kernel
theorem dL_end_23 : decode cL_end 23 = .ok (.iaload, 1) := by decide +kernel
theorem dL_end_24 : decode cL_end 24 = .ok (.aload_n 0, 1) := by decide +kernel
theorem dL_end_25 : decode cL_end 25 = .ok (.bipush 21, 2) := by decide +kernel
theorem dL_end_27 : decode cL_end 27 = .ok (.iaload, 1) := by decide +kernel
theorem dL_end_28 : decode cL_end 28 = .ok (.iconst 1, 1) := by decide +kernel
theorem dL_end_29 : decode cL_end 29 = .ok (.isub, 1) := by decide +kernel
theorem dL_end_30 : decode cL_end 30 = .ok (.if_icmp .ge 16, 3) := by decide +kernel
theorem dL_end_33 : decode cL_end 33 = .ok (.aload_n 0, 1) := by decide +kernel
theorem dL_end_34 : decode cL_end 34 = .ok (.aload_n 0, 1) := by decide +kernel
theorem dL_end_35 : decode cL_end 35 = .ok (.bipush 11, 2) := by decide +kernel
theorem dL_end_37 : decode cL_end 37 = .ok (.iaload, 1) := by decide +kernel
theorem dL_end_38 : decode cL_end 38 = .ok (.iconst 1, 1) := by decide +kernel
theorem dL_end_39 : decode cL_end 39 = .ok (.iadd, 1) := by decide +kernel
theorem dL_end_40 : decode cL_end 40 = .ok (.invokestatic 23, 3) := by decide +kernel
theorem dL_end_43 : decode cL_end 43 = .ok (.goto 21, 3) := by decide +kernel
theorem dL_end_46 : decode cL_end 46 = .ok (.aload_n 0, 1) := by decide +kernel
theorem dL_end_47 : decode cL_end 47 = .ok (.bipush 20, 2) := by decide +kernel
theorem dL_end_49 : decode cL_end 49 = .ok (.dup2, 1) := by decide +kernel
theorem dL_end_50 : decode cL_end 50 = .ok (.iaload, 1) := by decide +kernel
theorem dL_end_51 : decode cL_end 51 = .ok (.iconst 1, 1) := by decide +kernel
theorem dL_end_52 : decode cL_end 52 = .ok (.iadd, 1) := by decide +kernel
theorem dL_end_53 : decode cL_end 53 = .ok (.iastore, 1) := by decide +kernel
theorem dL_end_54 : decode cL_end 54 = .ok (.aload_n 0, 1) := by decide +kernel
theorem dL_end_55 : decode cL_end 55 = .ok (.bipush 9, 2) := by decide +kernel
theorem dL_end_57 : decode cL_end 57 = .ok (.iconst 0, 1) := by decide +kernel
theorem dL_end_58 : decode cL_end 58 = .ok (.iastore, 1) := by decide +kernel
theorem dL_end_59 : decode cL_end 59 = .ok (.aload_n 0, 1) := by decide +kernel
theorem dL_end_60 : decode cL_end 60 = .ok (.iconst 0, 1) := by decide +kernel
theorem dL_end_61 : decode cL_end 61 = .ok (.invokestatic 9, 3) := by decide +kernel
theorem dL_end_64 : decode cL_end 64 = .ok (.return_, 1) := by decide +kernel
theorem dL_weigh_0 : decode cL_weigh 0 = .ok (.iconst 3, 1) := by decide +kernel
theorem dL_weigh_1 : decode cL_weigh 1 = .ok (.aload_n 0, 1) := by decide +kernel
theorem dL_weigh_2 : decode cL_weigh 2 = .ok (.bipush 11, 2) := by decide +kernel
theorem dL_weigh_4 : decode cL_weigh 4 = .ok (.iaload, 1) := by decide +kernel
theorem dL_weigh_5 : decode cL_weigh 5 = .ok (.imul, 1) := by decide +kernel
theorem dL_weigh_6 : decode cL_weigh 6 = .ok (.istore 7, 2) := by decide +kernel
theorem dL_weigh_8 : decode cL_weigh 8 = .ok (.aload_n 0, 1) := by decide +kernel
theorem dL_weigh_9 : decode cL_weigh 9 = .ok (.invokestatic 15, 3) := by decide +kernel
theorem dL_weigh_12 : decode cL_weigh 12 = .ok (.aload_n 2, 1) := by decide +kernel
theorem dL_weigh_13 : decode cL_weigh 13 = .ok (.iload 7, 2) := by decide +kernel
theorem dL_weigh_15 : decode cL_weigh 15 = .ok (.iconst 1, 1) := by decide +kernel
theorem dL_weigh_16 : decode cL_weigh 16 = .ok (.iadd, 1) := by decide +kernel
theorem dL_weigh_17 : decode cL_weigh 17 = .ok (.iaload, 1) := by decide +kernel
theorem dL_weigh_18 : decode cL_weigh 18 = .ok (.isub, 1) := by decide +kernel
theorem dL_weigh_19 : decode cL_weigh 19 = .ok (.istore 8, 2) := by decide +kernel
theorem dL_weigh_21 : decode cL_weigh 21 = .ok (.aload_n 0, 1) := by decide +kernel
theorem dL_weigh_22 : decode cL_weigh 22 = .ok (.bipush 17, 2) := by decide +kernel
theorem dL_weigh_24 : decode cL_weigh 24 = .ok (.iaload, 1) := by decide +kernel
theorem dL_weigh_25 : decode cL_weigh 25 = .ok (.ifCond .ne 60, 3) := by decide +kernel
theorem dL_weigh_28 : decode cL_weigh 28 = .ok (.aload_n 1, 1) := by decide +kernel
theorem dL_weigh_29 : decode cL_weigh 29 = .ok (.iconst 4, 1) := by decide +kernel
theorem dL_weigh_30 : decode cL_weigh 30 = .ok (.aload_n 2, 1) := by decide +kernel
theorem dL_weigh_31 : decode cL_weigh 31 = .ok (.iload 7, 2) := by decide +kernel
theorem dL_weigh_33 : decode cL_weigh 33 = .ok (.iaload, 1) := by decide +kernel
theorem dL_weigh_34 : decode cL_weigh 34 = .ok (.imul, 1) := by decide +kernel
theorem dL_weigh_35 : decode cL_weigh 35 = .ok (.iconst 1, 1) := by decide +kernel
theorem dL_weigh_36 : decode cL_weigh 36 = .ok (.iadd, 1) := by decide +kernel
theorem dL_weigh_37 : decode cL_weigh 37 = .ok (.iaload, 1) := by decide +kernel
theorem dL_weigh_38 : decode cL_weigh 38 = .ok (.iload 8, 2) := by decide +kernel
theorem dL_weigh_40 : decode cL_weigh 40 = .ok (.iconst 2, 1) := by decide +kernel
theorem dL_weigh_41 : decode cL_weigh 41 = .ok (.ishr, 1) := by decide +kernel
theorem dL_weigh_42 : decode cL_weigh 42 = .ok (.iadd, 1) := by decide +kernel
theorem dL_weigh_43 : decode cL_weigh 43 = .ok (.istore 9, 2) := by decide +kernel
theorem dL_weigh_45 : decode cL_weigh 45 = .ok (.aload_n 1, 1) := by decide +kernel
theorem dL_weigh_46 : decode cL_weigh 46 = .ok (.iconst 4, 1) := by decide +kernel
theorem dL_weigh_47 : decode cL_weigh 47 = .ok (.aload_n 2, 1) := by decide +kernel
theorem dL_weigh_48 : decode cL_weigh 48 = .ok (.iload 7, 2) := by decide +kernel
theorem dL_weigh_50 : decode cL_weigh 50 = .ok (.iaload, 1) := by decide +kernel
theorem dL_weigh_51 : decode cL_weigh 51 = .ok (.imul, 1) := by decide +kernel
theorem dL_weigh_52 : decode cL_weigh 52 = .ok (.iconst 1, 1) := by decide +kernel
theorem dL_weigh_53 : decode cL_weigh 53 = .ok (.iadd, 1) := by decide +kernel
theorem dL_weigh_54 : decode cL_weigh 54 = .ok (.iload 9, 2) := by decide +kernel
theorem dL_weigh_56 : decode cL_weigh 56 = .ok (.sipush 500, 3) := by decide +kernel
theorem dL_weigh_59 : decode cL_weigh 59 = .ok (.if_icmp .le 9, 3) := by decide +kernel
theorem dL_weigh_62 : decode cL_weigh 62 = .ok (.sipush 500, 3) := by decide +kernel
theorem dL_weigh_65 : decode cL_weigh 65 = .ok (.goto 14, 3) := by decide +kernel
theorem dL_weigh_68 : decode cL_weigh 68 = .ok (.iload 9, 2) := by decide +kernel
theorem dL_weigh_70 : decode cL_weigh 70 = .ok (.ifCond .le 8, 3) := by decide +kernel
theorem dL_weigh_73 : decode cL_weigh 73 = .ok (.iload 9, 2) := by decide +kernel
theorem dL_weigh_75 : decode cL_weigh 75 = .ok (.goto 4, 3) := by decide +kernel
theorem dL_weigh_78 : decode cL_weigh 78 = .ok (.iconst 0, 1) := by decide +kernel
theorem dL_weigh_79 : decode cL_weigh 79 = .ok (.iastore, 1) := by decide +kernel
theorem dL_weigh_80 : decode cL_weigh 80 = .ok (.aload_n 0, 1) := by decide +kernel
theorem dL_weigh_81 : decode cL_weigh 81 = .ok (.bipush 17, 2) := by decide +kernel
theorem dL_weigh_83 : decode cL_weigh 83 = .ok (.iconst 1, 1) := by decide +kernel
theorem dL_weigh_84 : decode cL_weigh 84 = .ok (.iastore, 1) := by decide +kernel
theorem dL_weigh_85 : decode cL_weigh 85 = .ok (.iload 8, 2) := by decide +kernel
theorem dL_weigh_87 : decode cL_weigh 87 = .ok (.aload_n 2, 1) := by decide +kernel
theorem dL_weigh_88 : decode cL_weigh 88 = .ok (.iload 7, 2) := by decide +kernel
theorem dL_weigh_90 : decode cL_weigh 90 = .ok (.iconst 2, 1) := by decide +kernel
theorem dL_weigh_91 : decode cL_weigh 91 = .ok (.iadd, 1) := by decide +kernel
theorem dL_weigh_92 : decode cL_weigh 92 = .ok (.iaload, 1) := by decide +kernel
theorem dL_weigh_93 : decode cL_weigh 93 = .ok (.iadd, 1) := by decide +kernel
theorem dL_weigh_94 : decode cL_weigh 94 = .ok (.ifCond .ge 19, 3) := by decide +kernel
theorem dL_weigh_97 : decode cL_weigh 97 = .ok (.aload_n 0, 1) := by decide +kernel
theorem dL_weigh_98 : decode cL_weigh 98 = .ok (.bipush 15, 2) := by decide +kernel
theorem dL_weigh_100 : decode cL_weigh 100 = .ok (.iaload, 1) := by decide +kernel
theorem dL_weigh_101 : decode cL_weigh 101 = .ok (.iconst 5, 1) := by decide +kernel
theorem dL_weigh_102 : decode cL_weigh 102 = .ok (.if_icmp .ne 11, 3) := by decide +kernel
theorem dL_weigh_105 : decode cL_weigh 105 = .ok (.aload_n 0, 1) := by decide +kernel
theorem dL_weigh_106 : decode cL_weigh 106 = .ok (.iconst 1, 1) := by decide +kernel
theorem dL_weigh_107 : decode cL_weigh 107 = .ok (.invokestatic 26, 3) := by decide +kernel
theorem dL_weigh_110 : decode cL_weigh 110 = .ok (.goto 64, 3) := by decide +kernel
theorem dL_weigh_113 : decode cL_weigh 113 = .ok (.iload 8, 2) := by decide +kernel
theorem dL_weigh_115 : decode cL_weigh 115 = .ok (.aload_n 2, 1) := by decide +kernel
theorem dL_weigh_116 : decode cL_weigh 116 = .ok (.iload 7, 2) := by decide +kernel
theorem dL_weigh_118 : decode cL_weigh 118 = .ok (.iconst 2, 1) := by decide +kernel
theorem dL_weigh_119 : decode cL_weigh 119 = .ok (.iadd, 1) := by decide +kernel
theorem dL_weigh_120 : decode cL_weigh 120 = .ok (.iaload, 1) := by decide +kernel
theorem dL_weigh_121 : decode cL_weigh 121 = .ok (.iadd, 1) := by decide +kernel
theorem dL_weigh_122 : decode cL_weigh 122 = .ok (.ifCond .ge 19, 3) := by decide +kernel
theorem dL_weigh_125 : decode cL_weigh 125 = .ok (.aload_n 0, 1) := by decide +kernel
theorem dL_weigh_126 : decode cL_weigh 126 = .ok (.bipush 15, 2) := by decide +kernel
theorem dL_weigh_128 : decode cL_weigh 128 = .ok (.dup2, 1) := by decide +kernel
theorem dL_weigh_129 : decode cL_weigh 129 = .ok (.iaload, 1) := by decide +kernel
theorem dL_weigh_130 : decode cL_weigh 130 = .ok (.iconst 1, 1) := by decide +kernel
theorem dL_weigh_131 : decode cL_weigh 131 = .ok (.iadd, 1) := by decide +kernel
theorem dL_weigh_132 : decode cL_weigh 132 = .ok (.iastore, 1) := by decide +kernel
theorem dL_weigh_133 : decode cL_weigh 133 = .ok (.aload_n 0, 1) := by decide +kernel
theorem dL_weigh_134 : decode cL_weigh 134 = .ok (.iconst 5, 1) := by decide +kernel
theorem dL_weigh_135 : decode cL_weigh 135 = .ok (.invokestatic 9, 3) := by decide +kernel
theorem dL_weigh_138 : decode cL_weigh 138 = .ok (.goto 36, 3) := by decide +kernel
theorem dL_weigh_141 : decode cL_weigh 141 = .ok (.iload 8, 2) := by decide +kernel
theorem dL_weigh_143 : decode cL_weigh 143 = .ok (.aload_n 2, 1) := by decide +kernel
theorem dL_weigh_144 : decode cL_weigh 144 = .ok (.iload 7, 2) := by decide +kernel
theorem dL_weigh_146 : decode cL_weigh 146 = .ok (.iconst 2, 1) := by decide +kernel
theorem dL_weigh_147 : decode cL_weigh 147 = .ok (.iadd, 1) := by decide +kernel
theorem dL_weigh_148 : decode cL_weigh 148 = .ok (.iaload, 1) := by decide +kernel
theorem dL_weigh_149 : decode cL_weigh 149 = .ok (.isub, 1) := by decide +kernel
theorem dL_weigh_150 : decode cL_weigh 150 = .ok (.ifCond .le 11, 3) := by decide +kernel
theorem dL_weigh_153 : decode cL_weigh 153 = .ok (.aload_n 0, 1) := by decide +kernel
theorem dL_weigh_154 : decode cL_weigh 154 = .ok (.iconst 2, 1) := by decide +kernel
theorem dL_weigh_155 : decode cL_weigh 155 = .ok (.invokestatic 26, 3) := by decide +kernel
theorem dL_weigh_158 : decode cL_weigh 158 = .ok (.goto 16, 3) := by decide +kernel
theorem dL_weigh_161 : decode cL_weigh 161 = .ok (.aload_n 0, 1) := by decide +kernel
theorem dL_weigh_162 : decode cL_weigh 162 = .ok (.aload_n 1, 1) := by decide +kernel
theorem dL_weigh_163 : decode cL_weigh 163 = .ok (.aload_n 2, 1) := by decide +kernel
theorem dL_weigh_164 : decode cL_weigh 164 = .ok (.aload_n 3, 1) := by decide +kernel
theorem dL_weigh_165 : decode cL_weigh 165 = .ok (.aload 4, 2) := by decide +kernel
theorem dL_weigh_167 : decode cL_weigh 167 = .ok (.aload 5, 2) := by decide +kernel
theorem dL_weigh_169 : decode cL_weigh 169 = .ok (.iload 6, 2) := by decide +kernel
theorem dL_weigh_171 : decode cL_weigh 171 = .ok (.invokestatic 29, 3) := by decide +kernel
theorem dL_weigh_174 : decode cL_weigh 174 = .ok (.return_, 1) := by decide +kernel
theorem dL_bring_0 : decode cL_bring 0 = .ok (.iconst 3, 1) := by decide +kernel
theorem dL_bring_1 : decode cL_bring 1 = .ok (.istore 8, 2) := by decide +kernel
theorem dL_bring_3 : decode cL_bring 3 = .ok (.iload 8, 2) := by decide +kernel
theorem dL_bring_5 : decode cL_bring 5 = .ok (.ifCond .le 19, 3) := by decide +kernel
theorem dL_bring_8 : decode cL_bring 8 = .ok (.aload_n 0, 1) := by decide +kernel
theorem dL_bring_9 : decode cL_bring 9 = .ok (.iload 8, 2) := by decide +kernel
theorem dL_bring_11 : decode cL_bring 11 = .ok (.aload_n 0, 1) := by decide +kernel
theorem dL_bring_12 : decode cL_bring 12 = .ok (.iload 8, 2) := by decide +kernel
theorem dL_bring_14 : decode cL_bring 14 = .ok (.iconst 1, 1) := by decide +kernel
theorem dL_bring_15 : decode cL_bring 15 = .ok (.isub, 1) := by decide +kernel
theorem dL_bring_16 : decode cL_bring 16 = .ok (.iaload, 1) := by decide +kernel
theorem dL_bring_17 : decode cL_bring 17 = .ok (.iastore, 1) := by decide +kernel
theorem dL_bring_18 : decode cL_bring 18 = .ok (.iinc 8 (-1), 3) := by decide +kernel
theorem dL_bring_21 : decode cL_bring 21 = .ok (.goto (-18), 3) := by decide +kernel
theorem dL_bring_24 : decode cL_bring 24 = .ok (.aload_n 0, 1) := by decide +kernel
theorem dL_bring_25 : decode cL_bring 25 = .ok (.iconst 0, 1) := by decide +kernel
theorem dL_bring_26 : decode cL_bring 26 = .ok (.iload 7, 2) := by decide +kernel
theorem dL_bring_28 : decode cL_bring 28 = .ok (.iastore, 1) := by decide +kernel
theorem dL_bring_29 : decode cL_bring 29 = .ok (.aload_n 0, 1) := by decide +kernel
theorem dL_bring_30 : decode cL_bring 30 = .ok (.iconst 4, 1) := by decide +kernel
theorem dL_bring_31 : decode cL_bring 31 = .ok (.dup2, 1) := by decide +kernel
theorem dL_bring_32 : decode cL_bring 32 = .ok (.iaload, 1) := by decide +kernel
theorem dL_bring_33 : decode cL_bring 33 = .ok (.iconst 1, 1) := by decide +kernel
theorem dL_bring_34 : decode cL_bring 34 = .ok (.iadd, 1) := by decide +kernel
theorem dL_bring_35 : decode cL_bring 35 = .ok (.iastore, 1) := by decide +kernel
theorem dL_bring_36 : decode cL_bring 36 = .ok (.aload_n 0, 1) := by decide +kernel
theorem dL_bring_37 : decode cL_bring 37 = .ok (.bipush 8, 2) := by decide +kernel
theorem dL_bring_39 : decode cL_bring 39 = .ok (.iaload, 1) := by decide +kernel
theorem dL_bring_40 : decode cL_bring 40 = .ok (.istore 8, 2) := by decide +kernel
theorem dL_bring_42 : decode cL_bring 42 = .ok (.iload 7, 2) := by decide +kernel
theorem dL_bring_44 : decode cL_bring 44 = .ok (.aload_n 0, 1) := by decide +kernel
theorem dL_bring_45 : decode cL_bring 45 = .ok (.iconst 5, 1) := by decide +kernel
theorem dL_bring_46 : decode cL_bring 46 = .ok (.iaload, 1) := by decide +kernel
theorem dL_bring_47 : decode cL_bring 47 = .ok (.isub, 1) := by decide +kernel
theorem dL_bring_48 : decode cL_bring 48 = .ok (.istore 9, 2) := by decide +kernel
theorem dL_bring_50 : decode cL_bring 50 = .ok (.aload_n 0, 1) := by decide +kernel
theorem dL_bring_51 : decode cL_bring 51 = .ok (.iconst 4, 1) := by decide +kernel
theorem dL_bring_52 : decode cL_bring 52 = .ok (.iaload, 1) := by decide +kernel
theorem dL_bring_53 : decode cL_bring 53 = .ok (.aload_n 0, 1) := by decide +kernel
theorem dL_bring_54 : decode cL_bring 54 = .ok (.bipush 12, 2) := by decide +kernel
theorem dL_bring_56 : decode cL_bring 56 = .ok (.iaload, 1) := by decide +kernel
theorem dL_bring_57 : decode cL_bring 57 = .ok (.isub, 1) := by decide +kernel
theorem dL_bring_58 : decode cL_bring 58 = .ok (.istore 10, 2) := by decide +kernel
theorem dL_bring_60 : decode cL_bring 60 = .ok (.iload 8, 2) := by decide +kernel
theorem dL_bring_62 : decode cL_bring 62 = .ok (.ifCond .ne 89, 3) := by decide +kernel
theorem dL_bring_65 : decode cL_bring 65 = .ok (.iload 9, 2) := by decide +kernel
theorem dL_bring_67 : decode cL_bring 67 = .ok (.ifCond .le 11, 3) := by decide +kernel
theorem dL_bring_70 : decode cL_bring 70 = .ok (.aload_n 0, 1) := by decide +kernel
theorem dL_bring_71 : decode cL_bring 71 = .ok (.iconst 5, 1) := by decide +kernel
theorem dL_bring_72 : decode cL_bring 72 = .ok (.iaload, 1) := by decide +kernel
theorem dL_bring_73 : decode cL_bring 73 = .ok (.iconst 1, 1) := by decide +kernel
theorem dL_bring_74 : decode cL_bring 74 = .ok (.iadd, 1) := by decide +kernel
theorem dL_bring_75 : decode cL_bring 75 = .ok (.goto 8, 3) := by decide +kernel
theorem dL_bring_78 : decode cL_bring 78 = .ok (.aload_n 0, 1) := by decide +kernel
theorem dL_bring_79 : decode cL_bring 79 = .ok (.iconst 5, 1) := by decide +kernel
theorem dL_bring_80 : decode cL_bring 80 = .ok (.iaload, 1) := by decide +kernel
theorem dL_bring_81 : decode cL_bring 81 = .ok (.iconst 1, 1) := by decide +kernel
theorem dL_bring_82 : decode cL_bring 82 = .ok (.isub, 1) := by decide +kernel
theorem dL_bring_83 : decode cL_bring 83 = .ok (.istore 11, 2) := by decide +kernel
theorem dL_bring_85 : decode cL_bring 85 = .ok (.aload_n 0, 1) := by decide +kernel
theorem dL_bring_86 : decode cL_bring 86 = .ok (.invokestatic 33, 3) := by decide +kernel
theorem dL_bring_89 : decode cL_bring 89 = .ok (.ifCond .eq 42, 3) := by decide +kernel
theorem dL_bring_92 : decode cL_bring 92 = .ok (.iload 9, 2) := by decide +kernel
theorem dL_bring_94 : decode cL_bring 94 = .ok (.ifCond .eq 37, 3) := by decide +kernel
theorem dL_bring_97 : decode cL_bring 97 = .ok (.iload 9, 2) := by decide +kernel
theorem dL_bring_99 : decode cL_bring 99 = .ok (.bipush 11, 2) := by decide +kernel
theorem dL_bring_101 : decode cL_bring 101 = .ok (.if_icmp .ge 30, 3) := by decide +kernel
theorem dL_bring_104 : decode cL_bring 104 = .ok (.iload 9, 2) := by decide +kernel
theorem dL_bring_106 : decode cL_bring 106 = .ok (.bipush (-11), 2) := by decide +kernel
theorem dL_bring_108 : decode cL_bring 108 = .ok (.if_icmp .le 23, 3) := by decide +kernel
theorem dL_bring_111 : decode cL_bring 111 = .ok (.iload 11, 2) := by decide +kernel
theorem dL_bring_113 : decode cL_bring 113 = .ok (.sipush 501, 3) := by decide +kernel
theorem dL_bring_116 : decode cL_bring 116 = .ok (.if_icmp .ge 15, 3) := by decide +kernel
theorem dL_bring_119 : decode cL_bring 119 = .ok (.iload 11, 2) := by decide +kernel
theorem dL_bring_121 : decode cL_bring 121 = .ok (.sipush (-501), 3) := by decide +kernel
theorem dL_bring_124 : decode cL_bring 124 = .ok (.if_icmp .le 7, 3) := by decide +kernel
theorem dL_bring_127 : decode cL_bring 127 = .ok (.iconst 1, 1) := by decide +kernel
theorem dL_bring_128 : decode cL_bring 128 = .ok (.goto 4, 3) := by decide +kernel
theorem dL_bring_131 : decode cL_bring 131 = .ok (.iconst 0, 1) := by decide +kernel
theorem dL_bring_132 : decode cL_bring 132 = .ok (.istore 12, 2) := by decide +kernel
theorem dL_bring_134 : decode cL_bring 134 = .ok (.aload_n 0, 1) := by decide +kernel
theorem dL_bring_135 : decode cL_bring 135 = .ok (.iconst 5, 1) := by decide +kernel
theorem dL_bring_136 : decode cL_bring 136 = .ok (.iload 12, 2) := by decide +kernel
theorem dL_bring_138 : decode cL_bring 138 = .ok (.ifCond .eq 8, 3) := by decide +kernel
theorem dL_bring_141 : decode cL_bring 141 = .ok (.iload 11, 2) := by decide +kernel
theorem dL_bring_143 : decode cL_bring 143 = .ok (.goto 6, 3) := by decide +kernel
theorem dL_bring_146 : decode cL_bring 146 = .ok (.aload_n 0, 1) := by decide +kernel
theorem dL_bring_147 : decode cL_bring 147 = .ok (.iconst 5, 1) := by decide +kernel
theorem dL_bring_148 : decode cL_bring 148 = .ok (.iaload, 1) := by decide +kernel
theorem dL_bring_149 : decode cL_bring 149 = .ok (.iastore, 1) := by decide +kernel
theorem dL_bring_150 : decode cL_bring 150 = .ok (.return_, 1) := by decide +kernel
theorem dL_bring_151 : decode cL_bring 151 = .ok (.iload 8, 2) := by decide +kernel
theorem dL_bring_153 : decode cL_bring 153 = .ok (.bipush 6, 2) := by decide +kernel
theorem dL_bring_155 : decode cL_bring 155 = .ok (.if_icmp .ne 7, 3) := by decide +kernel
theorem dL_bring_158 : decode cL_bring 158 = .ok (.iconst 0, 1) := by decide +kernel
theorem dL_bring_159 : decode cL_bring 159 = .ok (.goto 13, 3) := by decide +kernel
theorem dL_bring_162 : decode cL_bring 162 = .ok (.iconst 4, 1) := by decide +kernel
theorem dL_bring_163 : decode cL_bring 163 = .ok (.aload_n 2, 1) := by decide +kernel
theorem dL_bring_164 : decode cL_bring 164 = .ok (.iconst 3, 1) := by decide +kernel
theorem dL_bring_165 : decode cL_bring 165 = .ok (.aload_n 0, 1) := by decide +kernel
theorem dL_bring_166 : decode cL_bring 166 = .ok (.bipush 11, 2) := by decide +kernel
theorem dL_bring_168 : decode cL_bring 168 = .ok (.iaload, 1) := by decide +kernel
theorem dL_bring_169 : decode cL_bring 169 = .ok (.imul, 1) := by decide +kernel
theorem dL_bring_170 : decode cL_bring 170 = .ok (.iaload, 1) := by decide +kernel
theorem dL_bring_171 : decode cL_bring 171 = .ok (.imul, 1) := by decide +kernel
theorem dL_bring_172 : decode cL_bring 172 = .ok (.istore 11, 2) := by decide +kernel
theorem dL_bring_174 : decode cL_bring 174 = .ok (.iload 8, 2) := by decide +kernel
theorem dL_bring_176 : decode cL_bring 176 = .ok (.bipush 6, 2) := by decide +kernel
theorem dL_bring_178 : decode cL_bring 178 = .ok (.if_icmp .ne 7, 3) := by decide +kernel
theorem dL_bring_181 : decode cL_bring 181 = .ok (.iconst 0, 1) := by decide +kernel
theorem dL_bring_182 : decode cL_bring 182 = .ok (.goto 13, 3) := by decide +kernel
theorem dL_bring_185 : decode cL_bring 185 = .ok (.aload_n 2, 1) := by decide +kernel
theorem dL_bring_186 : decode cL_bring 186 = .ok (.iconst 3, 1) := by decide +kernel
theorem dL_bring_187 : decode cL_bring 187 = .ok (.aload_n 0, 1) := by decide +kernel
theorem dL_bring_188 : decode cL_bring 188 = .ok (.bipush 11, 2) := by decide +kernel
theorem dL_bring_190 : decode cL_bring 190 = .ok (.iaload, 1) := by decide +kernel
theorem dL_bring_191 : decode cL_bring 191 = .ok (.imul, 1) := by decide +kernel
theorem dL_bring_192 : decode cL_bring 192 = .ok (.iconst 1, 1) := by decide +kernel
theorem dL_bring_193 : decode cL_bring 193 = .ok (.iadd, 1) := by decide +kernel
theorem dL_bring_194 : decode cL_bring 194 = .ok (.iaload, 1) := by decide +kernel
theorem dL_bring_195 : decode cL_bring 195 = .ok (.istore 12, 2) := by decide +kernel
theorem dL_bring_197 : decode cL_bring 197 = .ok (.aload_n 0, 1) := by decide +kernel
theorem dL_bring_198 : decode cL_bring 198 = .ok (.invokestatic 15, 3) := by decide +kernel
theorem dL_bring_201 : decode cL_bring 201 = .ok (.istore 13, 2) := by decide +kernel
theorem dL_bring_203 : decode cL_bring 203 = .ok (.iload 8, 2) := by decide +kernel
theorem dL_bring_205 : decode cL_bring 205 = .ok (.iconst 1, 1) := by decide +kernel
theorem dL_bring_206 : decode cL_bring 206 = .ok (.if_icmp .ne 39, 3) := by decide +kernel
theorem dL_bring_209 : decode cL_bring 209 = .ok (.aload_n 0, 1) := by decide +kernel
theorem dL_bring_210 : decode cL_bring 210 = .ok (.invokestatic 33, 3) := by decide +kernel
theorem dL_bring_213 : decode cL_bring 213 = .ok (.ifCond .eq 32, 3) := by decide +kernel
theorem dL_bring_216 : decode cL_bring 216 = .ok (.aload_n 0, 1) := by decide +kernel
theorem dL_bring_217 : decode cL_bring 217 = .ok (.bipush 6, 2) := by decide +kernel
theorem dL_bring_219 : decode cL_bring 219 = .ok (.iload 9, 2) := by decide +kernel
theorem dL_bring_221 : decode cL_bring 221 = .ok (.iastore, 1) := by decide +kernel
theorem dL_bring_222 : decode cL_bring 222 = .ok (.aload_n 0, 1) := by decide +kernel
theorem dL_bring_223 : decode cL_bring 223 = .ok (.bipush 18, 2) := by decide +kernel
theorem dL_bring_225 : decode cL_bring 225 = .ok (.iconst 1, 1) := by decide +kernel
theorem dL_bring_226 : decode cL_bring 226 = .ok (.iastore, 1) := by decide +kernel
theorem dL_bring_227 : decode cL_bring 227 = .ok (.aload_n 0, 1) := by decide +kernel
theorem dL_bring_228 : decode cL_bring 228 = .ok (.iload 12, 2) := by decide +kernel
theorem dL_bring_230 : decode cL_bring 230 = .ok (.aload_n 1, 1) := by decide +kernel
theorem dL_bring_231 : decode cL_bring 231 = .ok (.iload 11, 2) := by decide +kernel
theorem dL_bring_233 : decode cL_bring 233 = .ok (.iaload, 1) := by decide +kernel
theorem dL_bring_234 : decode cL_bring 234 = .ok (.if_icmp .gt 7, 3) := by decide +kernel
theorem dL_bring_237 : decode cL_bring 237 = .ok (.iconst 3, 1) := by decide +kernel
theorem dL_bring_238 : decode cL_bring 238 = .ok (.goto 4, 3) := by decide +kernel
theorem dL_bring_241 : decode cL_bring 241 = .ok (.iconst 2, 1) := by decide +kernel
theorem dL_bring_242 : decode cL_bring 242 = .ok (.invokestatic 9, 3) := by decide +kernel
theorem dL_bring_245 : decode cL_bring 245 = .ok (.iload 8, 2) := by decide +kernel
theorem dL_bring_247 : decode cL_bring 247 = .ok (.iconst 2, 1) := by decide +kernel
theorem dL_bring_248 : decode cL_bring 248 = .ok (.if_icmp .eq 9, 3) := by decide +kernel
theorem dL_bring_251 : decode cL_bring 251 = .ok (.iload 8, 2) := by decide +kernel
theorem dL_bring_253 : decode cL_bring 253 = .ok (.iconst 3, 1) := by decide +kernel
theorem dL_bring_254 : decode cL_bring 254 = .ok (.if_icmp .ne 125, 3) := by decide +kernel
theorem dL_bring_257 : decode cL_bring 257 = .ok (.aload_n 0, 1) := by decide +kernel
theorem dL_bring_258 : decode cL_bring 258 = .ok (.bipush 14, 2) := by decide +kernel
theorem dL_bring_260 : decode cL_bring 260 = .ok (.dup2, 1) := by decide +kernel
theorem dL_bring_261 : decode cL_bring 261 = .ok (.iaload, 1) := by decide +kernel
theorem dL_bring_262 : decode cL_bring 262 = .ok (.iconst 1, 1) := by decide +kernel
theorem dL_bring_263 : decode cL_bring 263 = .ok (.iadd, 1) := by decide +kernel
theorem dL_bring_264 : decode cL_bring 264 = .ok (.iastore, 1) := by decide +kernel
theorem dL_bring_265 : decode cL_bring 265 = .ok (.iload 13, 2) := by decide +kernel
theorem dL_bring_267 : decode cL_bring 267 = .ok (.aload_n 0, 1) := by decide +kernel
theorem dL_bring_268 : decode cL_bring 268 = .ok (.bipush 16, 2) := by decide +kernel
theorem dL_bring_270 : decode cL_bring 270 = .ok (.iaload, 1) := by decide +kernel
theorem dL_bring_271 : decode cL_bring 271 = .ok (.if_icmp .le 7, 3) := by decide +kernel
theorem dL_bring_274 : decode cL_bring 274 = .ok (.iconst 1, 1) := by decide +kernel
theorem dL_bring_275 : decode cL_bring 275 = .ok (.goto 4, 3) := by decide +kernel
theorem dL_bring_278 : decode cL_bring 278 = .ok (.iconst 0, 1) := by decide +kernel
theorem dL_bring_279 : decode cL_bring 279 = .ok (.istore 14, 2) := by decide +kernel
theorem dL_bring_281 : decode cL_bring 281 = .ok (.aload_n 0, 1) := by decide +kernel
theorem dL_bring_282 : decode cL_bring 282 = .ok (.bipush 16, 2) := by decide +kernel
theorem dL_bring_284 : decode cL_bring 284 = .ok (.iload 14, 2) := by decide +kernel
theorem dL_bring_286 : decode cL_bring 286 = .ok (.ifCond .eq 8, 3) := by decide +kernel
theorem dL_bring_289 : decode cL_bring 289 = .ok (.iload 13, 2) := by decide +kernel
theorem dL_bring_291 : decode cL_bring 291 = .ok (.goto 7, 3) := by decide +kernel
theorem dL_bring_294 : decode cL_bring 294 = .ok (.aload_n 0, 1) := by decide +kernel
theorem dL_bring_295 : decode cL_bring 295 = .ok (.bipush 16, 2) := by decide +kernel
theorem dL_bring_297 : decode cL_bring 297 = .ok (.iaload, 1) := by decide +kernel
theorem dL_bring_298 : decode cL_bring 298 = .ok (.iastore, 1) := by decide +kernel
theorem dL_bring_299 : decode cL_bring 299 = .ok (.aload_n 0, 1) := by decide +kernel
theorem dL_bring_300 : decode cL_bring 300 = .ok (.bipush 13, 2) := by decide +kernel
theorem dL_bring_302 : decode cL_bring 302 = .ok (.iload 14, 2) := by decide +kernel
theorem dL_bring_304 : decode cL_bring 304 = .ok (.ifCond .eq 10, 3) := by decide +kernel
theorem dL_bring_307 : decode cL_bring 307 = .ok (.aload_n 0, 1) := by decide +kernel
theorem dL_bring_308 : decode cL_bring 308 = .ok (.bipush 14, 2) := by decide +kernel
theorem dL_bring_310 : decode cL_bring 310 = .ok (.iaload, 1) := by decide +kernel
theorem dL_bring_311 : decode cL_bring 311 = .ok (.goto 7, 3) := by decide +kernel
theorem dL_bring_314 : decode cL_bring 314 = .ok (.aload_n 0, 1) := by decide +kernel
theorem dL_bring_315 : decode cL_bring 315 = .ok (.bipush 13, 2) := by decide +kernel
theorem dL_bring_317 : decode cL_bring 317 = .ok (.iaload, 1) := by decide +kernel
theorem dL_bring_318 : decode cL_bring 318 = .ok (.iastore, 1) := by decide +kernel
theorem dL_bring_319 : decode cL_bring 319 = .ok (.iload 13, 2) := by decide +kernel
theorem dL_bring_321 : decode cL_bring 321 = .ok (.iload 12, 2) := by decide +kernel
theorem dL_bring_323 : decode cL_bring 323 = .ok (.isub, 1) := by decide +kernel
theorem dL_bring_324 : decode cL_bring 324 = .ok (.aload_n 1, 1) := by decide +kernel
theorem dL_bring_325 : decode cL_bring 325 = .ok (.iload 8, 2) := by decide +kernel
theorem dL_bring_327 : decode cL_bring 327 = .ok (.iconst 2, 1) := by decide +kernel
theorem dL_bring_328 : decode cL_bring 328 = .ok (.if_icmp .ne 8, 3) := by decide +kernel
theorem dL_bring_331 : decode cL_bring 331 = .ok (.iload 11, 2) := by decide +kernel
theorem dL_bring_333 : decode cL_bring 333 = .ok (.goto 7, 3) := by decide +kernel
theorem dL_bring_336 : decode cL_bring 336 = .ok (.iload 11, 2) := by decide +kernel
theorem dL_bring_338 : decode cL_bring 338 = .ok (.iconst 1, 1) := by decide +kernel
theorem dL_bring_339 : decode cL_bring 339 = .ok (.iadd, 1) := by decide +kernel
theorem dL_bring_340 : decode cL_bring 340 = .ok (.iaload, 1) := by decide +kernel
theorem dL_bring_341 : decode cL_bring 341 = .ok (.iadd, 1) := by decide +kernel
theorem dL_bring_342 : decode cL_bring 342 = .ok (.istore 15, 2) := by decide +kernel
theorem dL_bring_344 : decode cL_bring 344 = .ok (.iload 15, 2) := by decide +kernel
theorem dL_bring_346 : decode cL_bring 346 = .ok (.ifCond .lt 14, 3) := by decide +kernel
theorem dL_bring_349 : decode cL_bring 349 = .ok (.aload_n 0, 1) := by decide +kernel
theorem dL_bring_350 : decode cL_bring 350 = .ok (.iload 8, 2) := by decide +kernel
theorem dL_bring_352 : decode cL_bring 352 = .ok (.iconst 1, 1) := by decide +kernel
theorem dL_bring_353 : decode cL_bring 353 = .ok (.iadd, 1) := by decide +kernel
theorem dL_bring_354 : decode cL_bring 354 = .ok (.invokestatic 9, 3) := by decide +kernel
theorem dL_bring_357 : decode cL_bring 357 = .ok (.goto 22, 3) := by decide +kernel
theorem dL_bring_360 : decode cL_bring 360 = .ok (.aload_n 0, 1) := by decide +kernel
theorem dL_bring_361 : decode cL_bring 361 = .ok (.bipush 14, 2) := by decide +kernel
theorem dL_bring_363 : decode cL_bring 363 = .ok (.iaload, 1) := by decide +kernel
theorem dL_bring_364 : decode cL_bring 364 = .ok (.aload_n 0, 1) := by decide +kernel
theorem dL_bring_365 : decode cL_bring 365 = .ok (.bipush 13, 2) := by decide +kernel
theorem dL_bring_367 : decode cL_bring 367 = .ok (.iaload, 1) := by decide +kernel
theorem dL_bring_368 : decode cL_bring 368 = .ok (.isub, 1) := by decide +kernel
theorem dL_bring_369 : decode cL_bring 369 = .ok (.bipush 20, 2) := by decide +kernel
theorem dL_bring_371 : decode cL_bring 371 = .ok (.if_icmp .lt 8, 3) := by decide +kernel
theorem dL_bring_374 : decode cL_bring 374 = .ok (.aload_n 0, 1) := by decide +kernel
theorem dL_bring_375 : decode cL_bring 375 = .ok (.iconst 3, 1) := by decide +kernel
theorem dL_bring_376 : decode cL_bring 376 = .ok (.invokestatic 26, 3) := by decide +kernel
theorem dL_bring_379 : decode cL_bring 379 = .ok (.iload 8, 2) := by decide +kernel
theorem dL_bring_381 : decode cL_bring 381 = .ok (.iconst 4, 1) := by decide +kernel
theorem dL_bring_382 : decode cL_bring 382 = .ok (.if_icmp .ne 29, 3) := by decide +kernel
theorem dL_bring_385 : decode cL_bring 385 = .ok (.iload 10, 2) := by decide +kernel
theorem dL_bring_387 : decode cL_bring 387 = .ok (.iconst 3, 1) := by decide +kernel
theorem dL_bring_388 : decode cL_bring 388 = .ok (.if_icmp .le 23, 3) := by decide +kernel
theorem dL_bring_391 : decode cL_bring 391 = .ok (.aload_n 0, 1) := by decide +kernel
theorem dL_bring_392 : decode cL_bring 392 = .ok (.invokestatic 33, 3) := by decide +kernel
theorem dL_bring_395 : decode cL_bring 395 = .ok (.ifCond .eq 16, 3) := by decide +kernel
theorem dL_bring_398 : decode cL_bring 398 = .ok (.aload_n 0, 1) := by decide +kernel
theorem dL_bring_399 : decode cL_bring 399 = .ok (.aload_n 1, 1) := by decide +kernel
theorem dL_bring_400 : decode cL_bring 400 = .ok (.aload_n 2, 1) := by decide +kernel
theorem dL_bring_401 : decode cL_bring 401 = .ok (.aload_n 3, 1) := by decide +kernel
theorem dL_bring_402 : decode cL_bring 402 = .ok (.aload 4, 2) := by decide +kernel
theorem dL_bring_404 : decode cL_bring 404 = .ok (.aload 5, 2) := by decide +kernel
theorem dL_bring_406 : decode cL_bring 406 = .ok (.iload 6, 2) := by decide +kernel
theorem dL_bring_408 : decode cL_bring 408 = .ok (.invokestatic 37, 3) := by decide +kernel
theorem dL_bring_411 : decode cL_bring 411 = .ok (.iload 8, 2) := by decide +kernel
theorem dL_bring_413 : decode cL_bring 413 = .ok (.iconst 5, 1) := by decide +kernel
theorem dL_bring_414 : decode cL_bring 414 = .ok (.if_icmp .ne 14, 3) := by decide +kernel
theorem dL_bring_417 : decode cL_bring 417 = .ok (.iload 10, 2) := by decide +kernel
theorem dL_bring_419 : decode cL_bring 419 = .ok (.iconst 1, 1) := by decide +kernel
theorem dL_bring_420 : decode cL_bring 420 = .ok (.if_icmp .le 8, 3) := by decide +kernel
theorem dL_bring_423 : decode cL_bring 423 = .ok (.aload_n 0, 1) := by decide +kernel
theorem dL_bring_424 : decode cL_bring 424 = .ok (.iconst 4, 1) := by decide +kernel
theorem dL_bring_425 : decode cL_bring 425 = .ok (.invokestatic 9, 3) := by decide +kernel
theorem dL_bring_428 : decode cL_bring 428 = .ok (.return_, 1) := by decide +kernel
theorem dL_isTold_0 : decode cL_isTold 0 = .ok (.aload_n 0, 1) := by decide +kernel
theorem dL_isTold_1 : decode cL_isTold 1 = .ok (.invokevirtual 40, 3) := by decide +kernel
theorem dL_isTold_4 : decode cL_isTold 4 = .ok (.aload_n 1, 1) := by decide +kernel
theorem dL_isTold_5 : decode cL_isTold 5 = .ok (.iconst 0, 1) := by decide +kernel
theorem dL_isTold_6 : decode cL_isTold 6 = .ok (.iaload, 1) := by decide +kernel
theorem dL_isTold_7 : decode cL_isTold 7 = .ok (.aload_n 1, 1) := by decide +kernel
theorem dL_isTold_8 : decode cL_isTold 8 = .ok (.iconst 5, 1) := by decide +kernel
theorem dL_isTold_9 : decode cL_isTold 9 = .ok (.iaload, 1) := by decide +kernel
theorem dL_isTold_10 : decode cL_isTold 10 = .ok (.isub, 1) := by decide +kernel
theorem dL_isTold_11 : decode cL_isTold 11 = .ok (.if_icmp .ne 130, 3) := by decide +kernel
theorem dL_isTold_14 : decode cL_isTold 14 = .ok (.aload_n 0, 1) := by decide +kernel
theorem dL_isTold_15 : decode cL_isTold 15 = .ok (.invokevirtual 46, 3) := by decide +kernel
theorem dL_isTold_18 : decode cL_isTold 18 = .ok (.aload_n 1, 1) := by decide +kernel
theorem dL_isTold_19 : decode cL_isTold 19 = .ok (.invokestatic 15, 3) := by decide +kernel
theorem dL_isTold_22 : decode cL_isTold 22 = .ok (.if_icmp .ne 119, 3) := by decide +kernel
theorem dL_isTold_25 : decode cL_isTold 25 = .ok (.aload_n 0, 1) := by decide +kernel
theorem dL_isTold_26 : decode cL_isTold 26 = .ok (.invokevirtual 48, 3) := by decide +kernel
theorem dL_isTold_29 : decode cL_isTold 29 = .ok (.aload_n 1, 1) := by decide +kernel
theorem dL_isTold_30 : decode cL_isTold 30 = .ok (.invokestatic 33, 3) := by decide +kernel
theorem dL_isTold_33 : decode cL_isTold 33 = .ok (.if_icmp .ne 108, 3) := by decide +kernel
theorem dL_isTold_36 : decode cL_isTold 36 = .ok (.aload_n 0, 1) := by decide +kernel
theorem dL_isTold_37 : decode cL_isTold 37 = .ok (.invokevirtual 51, 3) := by decide +kernel
theorem dL_isTold_40 : decode cL_isTold 40 = .ok (.aload_n 1, 1) := by decide +kernel
theorem dL_isTold_41 : decode cL_isTold 41 = .ok (.bipush 8, 2) := by decide +kernel
theorem dL_isTold_43 : decode cL_isTold 43 = .ok (.iaload, 1) := by decide +kernel
theorem dL_isTold_44 : decode cL_isTold 44 = .ok (.if_icmp .ne 97, 3) := by decide +kernel
theorem dL_isTold_47 : decode cL_isTold 47 = .ok (.aload_n 0, 1) := by decide +kernel
theorem dL_isTold_48 : decode cL_isTold 48 = .ok (.invokevirtual 54, 3) := by decide +kernel
theorem dL_isTold_51 : decode cL_isTold 51 = .ok (.aload_n 1, 1) := by decide +kernel
theorem dL_isTold_52 : decode cL_isTold 52 = .ok (.bipush 8, 2) := by decide +kernel
theorem dL_isTold_54 : decode cL_isTold 54 = .ok (.iaload, 1) := by decide +kernel
theorem dL_isTold_55 : decode cL_isTold 55 = .ok (.bipush 6, 2) := by decide +kernel
theorem dL_isTold_57 : decode cL_isTold 57 = .ok (.if_icmp .ne 10, 3) := by decide +kernel
theorem dL_isTold_60 : decode cL_isTold 60 = .ok (.aload_n 1, 1) := by decide +kernel
theorem dL_isTold_61 : decode cL_isTold 61 = .ok (.bipush 9, 2) := by decide +kernel
theorem dL_isTold_63 : decode cL_isTold 63 = .ok (.iaload, 1) := by decide +kernel
theorem dL_isTold_64 : decode cL_isTold 64 = .ok (.goto 4, 3) := by decide +kernel
theorem dL_isTold_67 : decode cL_isTold 67 = .ok (.iconst 0, 1) := by decide +kernel
theorem dL_isTold_68 : decode cL_isTold 68 = .ok (.if_icmp .ne 73, 3) := by decide +kernel
theorem dL_isTold_71 : decode cL_isTold 71 = .ok (.aload_n 0, 1) := by decide +kernel
theorem dL_isTold_72 : decode cL_isTold 72 = .ok (.invokevirtual 57, 3) := by decide +kernel
theorem dL_isTold_75 : decode cL_isTold 75 = .ok (.aload_n 1, 1) := by decide +kernel
theorem dL_isTold_76 : decode cL_isTold 76 = .ok (.bipush 8, 2) := by decide +kernel
theorem dL_isTold_78 : decode cL_isTold 78 = .ok (.iaload, 1) := by decide +kernel
theorem dL_isTold_79 : decode cL_isTold 79 = .ok (.ifCond .ne 7, 3) := by decide +kernel
theorem dL_isTold_82 : decode cL_isTold 82 = .ok (.iconst (-1), 1) := by decide +kernel
theorem dL_isTold_83 : decode cL_isTold 83 = .ok (.goto 7, 3) := by decide +kernel
theorem dL_isTold_86 : decode cL_isTold 86 = .ok (.aload_n 1, 1) := by decide +kernel
theorem dL_isTold_87 : decode cL_isTold 87 = .ok (.bipush 11, 2) := by decide +kernel
theorem dL_isTold_89 : decode cL_isTold 89 = .ok (.iaload, 1) := by decide +kernel
theorem dL_isTold_90 : decode cL_isTold 90 = .ok (.if_icmp .ne 51, 3) := by decide +kernel
theorem dL_isTold_93 : decode cL_isTold 93 = .ok (.aload_n 0, 1) := by decide +kernel
theorem dL_isTold_94 : decode cL_isTold 94 = .ok (.invokevirtual 60, 3) := by decide +kernel
theorem dL_isTold_97 : decode cL_isTold 97 = .ok (.aload_n 1, 1) := by decide +kernel
theorem dL_isTold_98 : decode cL_isTold 98 = .ok (.bipush 8, 2) := by decide +kernel
theorem dL_isTold_100 : decode cL_isTold 100 = .ok (.iaload, 1) := by decide +kernel
theorem dL_isTold_101 : decode cL_isTold 101 = .ok (.ifCond .ne 7, 3) := by decide +kernel
theorem dL_isTold_104 : decode cL_isTold 104 = .ok (.iconst 0, 1) := by decide +kernel
theorem dL_isTold_105 : decode cL_isTold 105 = .ok (.goto 7, 3) := by decide +kernel
theorem dL_isTold_108 : decode cL_isTold 108 = .ok (.aload_n 1, 1) := by decide +kernel
theorem dL_isTold_109 : decode cL_isTold 109 = .ok (.bipush 15, 2) := by decide +kernel
theorem dL_isTold_111 : decode cL_isTold 111 = .ok (.iaload, 1) := by decide +kernel
theorem dL_isTold_112 : decode cL_isTold 112 = .ok (.if_icmp .ne 29, 3) := by decide +kernel
theorem dL_isTold_115 : decode cL_isTold 115 = .ok (.aload_n 0, 1) := by decide +kernel
theorem dL_isTold_116 : decode cL_isTold 116 = .ok (.invokevirtual 63, 3) := by decide +kernel
theorem dL_isTold_119 : decode cL_isTold 119 = .ok (.aload_n 1, 1) := by decide +kernel
theorem dL_isTold_120 : decode cL_isTold 120 = .ok (.bipush 19, 2) := by decide +kernel
theorem dL_isTold_122 : decode cL_isTold 122 = .ok (.iaload, 1) := by decide +kernel
theorem dL_isTold_123 : decode cL_isTold 123 = .ok (.if_icmp .ne 18, 3) := by decide +kernel
theorem dL_isTold_126 : decode cL_isTold 126 = .ok (.aload_n 0, 1) := by decide +kernel
theorem dL_isTold_127 : decode cL_isTold 127 = .ok (.invokevirtual 66, 3) := by decide +kernel
theorem dL_isTold_130 : decode cL_isTold 130 = .ok (.aload_n 1, 1) := by decide +kernel
theorem dL_isTold_131 : decode cL_isTold 131 = .ok (.bipush 20, 2) := by decide +kernel
theorem dL_isTold_133 : decode cL_isTold 133 = .ok (.iaload, 1) := by decide +kernel
theorem dL_isTold_134 : decode cL_isTold 134 = .ok (.if_icmp .ne 7, 3) := by decide +kernel
theorem dL_isTold_137 : decode cL_isTold 137 = .ok (.iconst 1, 1) := by decide +kernel
theorem dL_isTold_138 : decode cL_isTold 138 = .ok (.goto 4, 3) := by decide +kernel
theorem dL_isTold_141 : decode cL_isTold 141 = .ok (.iconst 0, 1) := by decide +kernel
theorem dL_isTold_142 : decode cL_isTold 142 = .ok (.istore 8, 2) := by decide +kernel
theorem dL_isTold_144 : decode cL_isTold 144 = .ok (.iconst 0, 1) := by decide +kernel
theorem dL_isTold_145 : decode cL_isTold 145 = .ok (.istore 9, 2) := by decide +kernel
theorem dL_isTold_147 : decode cL_isTold 147 = .ok (.iload 9, 2) := by decide +kernel
theorem dL_isTold_149 : decode cL_isTold 149 = .ok (.iconst 4, 1) := by decide +kernel
theorem dL_isTold_150 : decode cL_isTold 150 = .ok (.if_icmp .ge 202, 3) := by decide +kernel
theorem dL_isTold_153 : decode cL_isTold 153 = .ok (.iload 8, 2) := by decide +kernel
theorem dL_isTold_155 : decode cL_isTold 155 = .ok (.ifCond .eq 197, 3) := by decide +kernel
theorem dL_isTold_158 : decode cL_isTold 158 = .ok (.aload_n 1, 1) := by decide +kernel
theorem dL_isTold_159 : decode cL_isTold 159 = .ok (.bipush 8, 2) := by decide +kernel
theorem dL_isTold_161 : decode cL_isTold 161 = .ok (.iaload, 1) := by decide +kernel
theorem dL_isTold_162 : decode cL_isTold 162 = .ok (.ifCond .eq 16, 3) := by decide +kernel
theorem dL_isTold_165 : decode cL_isTold 165 = .ok (.aload_n 3, 1) := by decide +kernel
theorem dL_isTold_166 : decode cL_isTold 166 = .ok (.iconst 3, 1) := by decide +kernel
theorem dL_isTold_167 : decode cL_isTold 167 = .ok (.aload_n 1, 1) := by decide +kernel
theorem dL_isTold_168 : decode cL_isTold 168 = .ok (.bipush 11, 2) := by decide +kernel
theorem dL_isTold_170 : decode cL_isTold 170 = .ok (.iaload, 1) := by decide +kernel
theorem dL_isTold_171 : decode cL_isTold 171 = .ok (.imul, 1) := by decide +kernel
theorem dL_isTold_172 : decode cL_isTold 172 = .ok (.iaload, 1) := by decide +kernel
theorem dL_isTold_173 : decode cL_isTold 173 = .ok (.iload 9, 2) := by decide +kernel
theorem dL_isTold_175 : decode cL_isTold 175 = .ok (.if_icmp .eq 7, 3) := by decide +kernel
theorem dL_isTold_178 : decode cL_isTold 178 = .ok (.iconst 0, 1) := by decide +kernel
theorem dL_isTold_179 : decode cL_isTold 179 = .ok (.goto 36, 3) := by decide +kernel
theorem dL_isTold_182 : decode cL_isTold 182 = .ok (.aload_n 1, 1) := by decide +kernel
theorem dL_isTold_183 : decode cL_isTold 183 = .ok (.bipush 8, 2) := by decide +kernel
theorem dL_isTold_185 : decode cL_isTold 185 = .ok (.iaload, 1) := by decide +kernel
theorem dL_isTold_186 : decode cL_isTold 186 = .ok (.iconst 2, 1) := by decide +kernel
theorem dL_isTold_187 : decode cL_isTold 187 = .ok (.if_icmp .ne 7, 3) := by decide +kernel
theorem dL_isTold_190 : decode cL_isTold 190 = .ok (.iconst 2, 1) := by decide +kernel
theorem dL_isTold_191 : decode cL_isTold 191 = .ok (.goto 24, 3) := by decide +kernel
theorem dL_isTold_194 : decode cL_isTold 194 = .ok (.aload_n 1, 1) := by decide +kernel
theorem dL_isTold_195 : decode cL_isTold 195 = .ok (.bipush 8, 2) := by decide +kernel
theorem dL_isTold_197 : decode cL_isTold 197 = .ok (.iaload, 1) := by decide +kernel
theorem dL_isTold_198 : decode cL_isTold 198 = .ok (.iconst 3, 1) := by decide +kernel
theorem dL_isTold_199 : decode cL_isTold 199 = .ok (.if_icmp .eq 11, 3) := by decide +kernel
theorem dL_isTold_202 : decode cL_isTold 202 = .ok (.aload_n 1, 1) := by decide +kernel
theorem dL_isTold_203 : decode cL_isTold 203 = .ok (.bipush 8, 2) := by decide +kernel
theorem dL_isTold_205 : decode cL_isTold 205 = .ok (.iaload, 1) := by decide +kernel
theorem dL_isTold_206 : decode cL_isTold 206 = .ok (.iconst 5, 1) := by decide +kernel
theorem dL_isTold_207 : decode cL_isTold 207 = .ok (.if_icmp .ne 7, 3) := by decide +kernel
theorem dL_isTold_210 : decode cL_isTold 210 = .ok (.iconst 1, 1) := by decide +kernel
theorem dL_isTold_211 : decode cL_isTold 211 = .ok (.goto 4, 3) := by decide +kernel
theorem dL_isTold_214 : decode cL_isTold 214 = .ok (.iconst 0, 1) := by decide +kernel
theorem dL_isTold_215 : decode cL_isTold 215 = .ok (.istore 10, 2) := by decide +kernel
theorem dL_isTold_217 : decode cL_isTold 217 = .ok (.iconst 0, 1) := by decide +kernel
theorem dL_isTold_218 : decode cL_isTold 218 = .ok (.istore 11, 2) := by decide +kernel
theorem dL_isTold_220 : decode cL_isTold 220 = .ok (.iconst 0, 1) := by decide +kernel
theorem dL_isTold_221 : decode cL_isTold 221 = .ok (.istore 12, 2) := by decide +kernel
theorem dL_isTold_223 : decode cL_isTold 223 = .ok (.iload 12, 2) := by decide +kernel
theorem dL_isTold_225 : decode cL_isTold 225 = .ok (.iload 7, 2) := by decide +kernel
theorem dL_isTold_227 : decode cL_isTold 227 = .ok (.if_icmp .ge 39, 3) := by decide +kernel
theorem dL_isTold_230 : decode cL_isTold 230 = .ok (.iload 11, 2) := by decide +kernel
theorem dL_isTold_232 : decode cL_isTold 232 = .ok (.aload 4, 2) := by decide +kernel
theorem dL_isTold_234 : decode cL_isTold 234 = .ok (.iconst 3, 1) := by decide +kernel
theorem dL_isTold_235 : decode cL_isTold 235 = .ok (.iload 12, 2) := by decide +kernel
theorem dL_isTold_237 : decode cL_isTold 237 = .ok (.imul, 1) := by decide +kernel
theorem dL_isTold_238 : decode cL_isTold 238 = .ok (.iaload, 1) := by decide +kernel
theorem dL_isTold_239 : decode cL_isTold 239 = .ok (.iload 9, 2) := by decide +kernel
theorem dL_isTold_241 : decode cL_isTold 241 = .ok (.if_icmp .ne 15, 3) := by decide +kernel
theorem dL_isTold_244 : decode cL_isTold 244 = .ok (.aload 4, 2) := by decide +kernel
theorem dL_isTold_246 : decode cL_isTold 246 = .ok (.iconst 3, 1) := by decide +kernel
theorem dL_isTold_247 : decode cL_isTold 247 = .ok (.iload 12, 2) := by decide +kernel
theorem dL_isTold_249 : decode cL_isTold 249 = .ok (.imul, 1) := by decide +kernel
theorem dL_isTold_250 : decode cL_isTold 250 = .ok (.iconst 2, 1) := by decide +kernel
theorem dL_isTold_251 : decode cL_isTold 251 = .ok (.iadd, 1) := by decide +kernel
theorem dL_isTold_252 : decode cL_isTold 252 = .ok (.iaload, 1) := by decide +kernel
theorem dL_isTold_253 : decode cL_isTold 253 = .ok (.goto 4, 3) := by decide +kernel
theorem dL_isTold_256 : decode cL_isTold 256 = .ok (.iconst 0, 1) := by decide +kernel
theorem dL_isTold_257 : decode cL_isTold 257 = .ok (.iadd, 1) := by decide +kernel
theorem dL_isTold_258 : decode cL_isTold 258 = .ok (.istore 11, 2) := by decide +kernel
theorem dL_isTold_260 : decode cL_isTold 260 = .ok (.iinc 12 1, 3) := by decide +kernel
theorem dL_isTold_263 : decode cL_isTold 263 = .ok (.goto (-40), 3) := by decide +kernel
theorem dL_isTold_266 : decode cL_isTold 266 = .ok (.aload_n 0, 1) := by decide +kernel
theorem dL_isTold_267 : decode cL_isTold 267 = .ok (.iload 9, 2) := by decide +kernel
theorem dL_isTold_269 : decode cL_isTold 269 = .ok (.invokevirtual 69, 3) := by decide +kernel
theorem dL_isTold_272 : decode cL_isTold 272 = .ok (.iload 10, 2) := by decide +kernel
theorem dL_isTold_274 : decode cL_isTold 274 = .ok (.if_icmp .ne 69, 3) := by decide +kernel
theorem dL_isTold_277 : decode cL_isTold 277 = .ok (.aload_n 0, 1) := by decide +kernel
theorem dL_isTold_278 : decode cL_isTold 278 = .ok (.iload 9, 2) := by decide +kernel
theorem dL_isTold_280 : decode cL_isTold 280 = .ok (.invokevirtual 73, 3) := by decide +kernel
theorem dL_isTold_283 : decode cL_isTold 283 = .ok (.aload_n 2, 1) := by decide +kernel
theorem dL_isTold_284 : decode cL_isTold 284 = .ok (.iconst 4, 1) := by decide +kernel
theorem dL_isTold_285 : decode cL_isTold 285 = .ok (.iload 9, 2) := by decide +kernel
theorem dL_isTold_287 : decode cL_isTold 287 = .ok (.imul, 1) := by decide +kernel
theorem dL_isTold_288 : decode cL_isTold 288 = .ok (.iconst 1, 1) := by decide +kernel
theorem dL_isTold_289 : decode cL_isTold 289 = .ok (.iadd, 1) := by decide +kernel
theorem dL_isTold_290 : decode cL_isTold 290 = .ok (.iaload, 1) := by decide +kernel
theorem dL_isTold_291 : decode cL_isTold 291 = .ok (.if_icmp .ne 52, 3) := by decide +kernel
theorem dL_isTold_294 : decode cL_isTold 294 = .ok (.aload_n 0, 1) := by decide +kernel
theorem dL_isTold_295 : decode cL_isTold 295 = .ok (.iload 9, 2) := by decide +kernel
theorem dL_isTold_297 : decode cL_isTold 297 = .ok (.invokevirtual 76, 3) := by decide +kernel
theorem dL_isTold_300 : decode cL_isTold 300 = .ok (.aload_n 2, 1) := by decide +kernel
theorem dL_isTold_301 : decode cL_isTold 301 = .ok (.iconst 4, 1) := by decide +kernel
theorem dL_isTold_302 : decode cL_isTold 302 = .ok (.iload 9, 2) := by decide +kernel
theorem dL_isTold_304 : decode cL_isTold 304 = .ok (.imul, 1) := by decide +kernel
theorem dL_isTold_305 : decode cL_isTold 305 = .ok (.iconst 2, 1) := by decide +kernel
theorem dL_isTold_306 : decode cL_isTold 306 = .ok (.iadd, 1) := by decide +kernel
theorem dL_isTold_307 : decode cL_isTold 307 = .ok (.iaload, 1) := by decide +kernel
theorem dL_isTold_308 : decode cL_isTold 308 = .ok (.if_icmp .ne 35, 3) := by decide +kernel
theorem dL_isTold_311 : decode cL_isTold 311 = .ok (.aload_n 0, 1) := by decide +kernel
theorem dL_isTold_312 : decode cL_isTold 312 = .ok (.iload 9, 2) := by decide +kernel
theorem dL_isTold_314 : decode cL_isTold 314 = .ok (.invokevirtual 79, 3) := by decide +kernel
theorem dL_isTold_317 : decode cL_isTold 317 = .ok (.aload_n 2, 1) := by decide +kernel
theorem dL_isTold_318 : decode cL_isTold 318 = .ok (.iconst 4, 1) := by decide +kernel
theorem dL_isTold_319 : decode cL_isTold 319 = .ok (.iload 9, 2) := by decide +kernel
theorem dL_isTold_321 : decode cL_isTold 321 = .ok (.imul, 1) := by decide +kernel
theorem dL_isTold_322 : decode cL_isTold 322 = .ok (.iconst 2, 1) := by decide +kernel
theorem dL_isTold_323 : decode cL_isTold 323 = .ok (.iadd, 1) := by decide +kernel
theorem dL_isTold_324 : decode cL_isTold 324 = .ok (.iaload, 1) := by decide +kernel
theorem dL_isTold_325 : decode cL_isTold 325 = .ok (.if_icmp .ne 18, 3) := by decide +kernel
theorem dL_isTold_328 : decode cL_isTold 328 = .ok (.aload_n 0, 1) := by decide +kernel
theorem dL_isTold_329 : decode cL_isTold 329 = .ok (.iload 9, 2) := by decide +kernel
theorem dL_isTold_331 : decode cL_isTold 331 = .ok (.invokevirtual 82, 3) := by decide +kernel
theorem dL_isTold_334 : decode cL_isTold 334 = .ok (.iload 11, 2) := by decide +kernel
theorem dL_isTold_336 : decode cL_isTold 336 = .ok (.if_icmp .ne 7, 3) := by decide +kernel
theorem dL_isTold_339 : decode cL_isTold 339 = .ok (.iconst 1, 1) := by decide +kernel
theorem dL_isTold_340 : decode cL_isTold 340 = .ok (.goto 4, 3) := by decide +kernel
theorem dL_isTold_343 : decode cL_isTold 343 = .ok (.iconst 0, 1) := by decide +kernel
theorem dL_isTold_344 : decode cL_isTold 344 = .ok (.istore 8, 2) := by decide +kernel
theorem dL_isTold_346 : decode cL_isTold 346 = .ok (.iinc 9 1, 3) := by decide +kernel
theorem dL_isTold_349 : decode cL_isTold 349 = .ok (.goto (-202), 3) := by decide +kernel
theorem dL_isTold_352 : decode cL_isTold 352 = .ok (.iconst 0, 1) := by decide +kernel
theorem dL_isTold_353 : decode cL_isTold 353 = .ok (.istore 9, 2) := by decide +kernel
theorem dL_isTold_355 : decode cL_isTold 355 = .ok (.iload 9, 2) := by decide +kernel
theorem dL_isTold_357 : decode cL_isTold 357 = .ok (.iload 7, 2) := by decide +kernel
theorem dL_isTold_359 : decode cL_isTold 359 = .ok (.if_icmp .ge 133, 3) := by decide +kernel
theorem dL_isTold_362 : decode cL_isTold 362 = .ok (.iload 8, 2) := by decide +kernel
theorem dL_isTold_364 : decode cL_isTold 364 = .ok (.ifCond .eq 128, 3) := by decide +kernel
theorem dL_isTold_367 : decode cL_isTold 367 = .ok (.aload_n 0, 1) := by decide +kernel
theorem dL_isTold_368 : decode cL_isTold 368 = .ok (.iload 9, 2) := by decide +kernel
theorem dL_isTold_370 : decode cL_isTold 370 = .ok (.invokevirtual 85, 3) := by decide +kernel
theorem dL_isTold_373 : decode cL_isTold 373 = .ok (.aload 4, 2) := by decide +kernel
theorem dL_isTold_375 : decode cL_isTold 375 = .ok (.iconst 3, 1) := by decide +kernel
theorem dL_isTold_376 : decode cL_isTold 376 = .ok (.iload 9, 2) := by decide +kernel
theorem dL_isTold_378 : decode cL_isTold 378 = .ok (.imul, 1) := by decide +kernel
theorem dL_isTold_379 : decode cL_isTold 379 = .ok (.iconst 2, 1) := by decide +kernel
theorem dL_isTold_380 : decode cL_isTold 380 = .ok (.iadd, 1) := by decide +kernel
theorem dL_isTold_381 : decode cL_isTold 381 = .ok (.iaload, 1) := by decide +kernel
theorem dL_isTold_382 : decode cL_isTold 382 = .ok (.if_icmp .ne 21, 3) := by decide +kernel
theorem dL_isTold_385 : decode cL_isTold 385 = .ok (.aload_n 0, 1) := by decide +kernel
theorem dL_isTold_386 : decode cL_isTold 386 = .ok (.iload 9, 2) := by decide +kernel
theorem dL_isTold_388 : decode cL_isTold 388 = .ok (.invokevirtual 88, 3) := by decide +kernel
theorem dL_isTold_391 : decode cL_isTold 391 = .ok (.aload 5, 2) := by decide +kernel
theorem dL_isTold_393 : decode cL_isTold 393 = .ok (.iload 9, 2) := by decide +kernel
theorem dL_isTold_395 : decode cL_isTold 395 = .ok (.iaload, 1) := by decide +kernel
theorem dL_isTold_396 : decode cL_isTold 396 = .ok (.if_icmp .ne 7, 3) := by decide +kernel
theorem dL_isTold_399 : decode cL_isTold 399 = .ok (.iconst 1, 1) := by decide +kernel
theorem dL_isTold_400 : decode cL_isTold 400 = .ok (.goto 4, 3) := by decide +kernel
theorem dL_isTold_403 : decode cL_isTold 403 = .ok (.iconst 0, 1) := by decide +kernel
theorem dL_isTold_404 : decode cL_isTold 404 = .ok (.istore 8, 2) := by decide +kernel
theorem dL_isTold_406 : decode cL_isTold 406 = .ok (.aload_n 1, 1) := by decide +kernel
theorem dL_isTold_407 : decode cL_isTold 407 = .ok (.bipush 19, 2) := by decide +kernel
theorem dL_isTold_409 : decode cL_isTold 409 = .ok (.iaload, 1) := by decide +kernel
theorem dL_isTold_410 : decode cL_isTold 410 = .ok (.bipush 8, 2) := by decide +kernel
theorem dL_isTold_412 : decode cL_isTold 412 = .ok (.if_icmp .le 13, 3) := by decide +kernel
theorem dL_isTold_415 : decode cL_isTold 415 = .ok (.aload_n 1, 1) := by decide +kernel
theorem dL_isTold_416 : decode cL_isTold 416 = .ok (.bipush 19, 2) := by decide +kernel
theorem dL_isTold_418 : decode cL_isTold 418 = .ok (.iaload, 1) := by decide +kernel
theorem dL_isTold_419 : decode cL_isTold 419 = .ok (.bipush 8, 2) := by decide +kernel
theorem dL_isTold_421 : decode cL_isTold 421 = .ok (.isub, 1) := by decide +kernel
theorem dL_isTold_422 : decode cL_isTold 422 = .ok (.goto 4, 3) := by decide +kernel
theorem dL_isTold_425 : decode cL_isTold 425 = .ok (.iconst 0, 1) := by decide +kernel
theorem dL_isTold_426 : decode cL_isTold 426 = .ok (.istore 10, 2) := by decide +kernel
theorem dL_isTold_428 : decode cL_isTold 428 = .ok (.iload 10, 2) := by decide +kernel
theorem dL_isTold_430 : decode cL_isTold 430 = .ok (.aload_n 1, 1) := by decide +kernel
theorem dL_isTold_431 : decode cL_isTold 431 = .ok (.bipush 19, 2) := by decide +kernel
theorem dL_isTold_433 : decode cL_isTold 433 = .ok (.iaload, 1) := by decide +kernel
theorem dL_isTold_434 : decode cL_isTold 434 = .ok (.if_icmp .ge 52, 3) := by decide +kernel
theorem dL_isTold_437 : decode cL_isTold 437 = .ok (.iload 8, 2) := by decide +kernel
theorem dL_isTold_439 : decode cL_isTold 439 = .ok (.ifCond .eq 47, 3) := by decide +kernel
theorem dL_isTold_442 : decode cL_isTold 442 = .ok (.aload_n 1, 1) := by decide +kernel
theorem dL_isTold_443 : decode cL_isTold 443 = .ok (.bipush 19, 2) := by decide +kernel
theorem dL_isTold_445 : decode cL_isTold 445 = .ok (.iaload, 1) := by decide +kernel
theorem dL_isTold_446 : decode cL_isTold 446 = .ok (.bipush 8, 2) := by decide +kernel
theorem dL_isTold_448 : decode cL_isTold 448 = .ok (.if_icmp .gt 38, 3) := by decide +kernel
theorem dL_isTold_451 : decode cL_isTold 451 = .ok (.aload_n 0, 1) := by decide +kernel
theorem dL_isTold_452 : decode cL_isTold 452 = .ok (.iload 9, 2) := by decide +kernel
theorem dL_isTold_454 : decode cL_isTold 454 = .ok (.iload 10, 2) := by decide +kernel
theorem dL_isTold_456 : decode cL_isTold 456 = .ok (.invokevirtual 91, 3) := by decide +kernel
theorem dL_isTold_459 : decode cL_isTold 459 = .ok (.aload 6, 2) := by decide +kernel
theorem dL_isTold_461 : decode cL_isTold 461 = .ok (.bipush 8, 2) := by decide +kernel
theorem dL_isTold_463 : decode cL_isTold 463 = .ok (.iload 9, 2) := by decide +kernel
theorem dL_isTold_465 : decode cL_isTold 465 = .ok (.imul, 1) := by decide +kernel
theorem dL_isTold_466 : decode cL_isTold 466 = .ok (.iload 10, 2) := by decide +kernel
theorem dL_isTold_468 : decode cL_isTold 468 = .ok (.iadd, 1) := by decide +kernel
theorem dL_isTold_469 : decode cL_isTold 469 = .ok (.iaload, 1) := by decide +kernel
theorem dL_isTold_470 : decode cL_isTold 470 = .ok (.if_icmp .ne 7, 3) := by decide +kernel
theorem dL_isTold_473 : decode cL_isTold 473 = .ok (.iconst 1, 1) := by decide +kernel
theorem dL_isTold_474 : decode cL_isTold 474 = .ok (.goto 4, 3) := by decide +kernel
theorem dL_isTold_477 : decode cL_isTold 477 = .ok (.iconst 0, 1) := by decide +kernel
theorem dL_isTold_478 : decode cL_isTold 478 = .ok (.istore 8, 2) := by decide +kernel
theorem dL_isTold_480 : decode cL_isTold 480 = .ok (.iinc 10 1, 3) := by decide +kernel
theorem dL_isTold_483 : decode cL_isTold 483 = .ok (.goto (-55), 3) := by decide +kernel
theorem dL_isTold_486 : decode cL_isTold 486 = .ok (.iinc 9 1, 3) := by decide +kernel
theorem dL_isTold_489 : decode cL_isTold 489 = .ok (.goto (-134), 3) := by decide +kernel
theorem dL_isTold_492 : decode cL_isTold 492 = .ok (.iload 8, 2) := by decide +kernel
theorem dL_isTold_494 : decode cL_isTold 494 = .ok (.ireturn, 1) := by decide +kernel
theorem dL_resumed_0 : decode cL_resumed 0 = .ok (.aload_n 0, 1) := by decide +kernel
theorem dL_resumed_1 : decode cL_resumed 1 = .ok (.invokevirtual 95, 3) := by decide +kernel
theorem dL_resumed_4 : decode cL_resumed 4 = .ok (.ireturn, 1) := by decide +kernel
theorem dL_resumed_5 : decode cL_resumed 5 = .ok (.astore_n 1, 1) := by decide +kernel
theorem dL_resumed_6 : decode cL_resumed 6 = .ok (.bipush (-2), 2) := by decide +kernel
theorem dL_resumed_8 : decode cL_resumed 8 = .ok (.ireturn, 1) := by decide +kernel
theorem dL_held_0 : decode cL_held 0 = .ok (.aload_n 0, 1) := by decide +kernel
theorem dL_held_1 : decode cL_held 1 = .ok (.invokevirtual 100, 3) := by decide +kernel
theorem dL_held_4 : decode cL_held 4 = .ok (.ireturn, 1) := by decide +kernel
theorem dL_held_5 : decode cL_held 5 = .ok (.astore_n 1, 1) := by decide +kernel
theorem dL_held_6 : decode cL_held 6 = .ok (.bipush (-2), 2) := by decide +kernel
theorem dL_held_8 : decode cL_held 8 = .ok (.ireturn, 1) := by decide +kernel
theorem dL_aborted_0 : decode cL_aborted 0 = .ok (.aload_n 0, 1) := by decide +kernel
theorem dL_aborted_1 : decode cL_aborted 1 = .ok (.invokevirtual 103, 3) := by decide +kernel
theorem dL_aborted_4 : decode cL_aborted 4 = .ok (.ireturn, 1) := by decide +kernel
theorem dL_aborted_5 : decode cL_aborted 5 = .ok (.astore_n 1, 1) := by decide +kernel
theorem dL_aborted_6 : decode cL_aborted 6 = .ok (.bipush (-2), 2) := by decide +kernel
theorem dL_aborted_8 : decode cL_aborted 8 = .ok (.ireturn, 1) := by decide +kernel
theorem dL_started_0 : decode cL_started 0 = .ok (.aload_n 0, 1) := by decide +kernel
theorem dL_started_1 : decode cL_started 1 = .ok (.invokevirtual 106, 3) := by decide +kernel
theorem dL_started_4 : decode cL_started 4 = .ok (.ireturn, 1) := by decide +kernel
theorem dL_started_5 : decode cL_started 5 = .ok (.astore_n 1, 1) := by decide +kernel
theorem dL_started_6 : decode cL_started 6 = .ok (.bipush (-2), 2) := by decide +kernel
theorem dL_started_8 : decode cL_started 8 = .ok (.ireturn, 1) := by decide +kernel
theorem dL_zeroed_0 : decode cL_zeroed 0 = .ok (.aload_n 0, 1) := by decide +kernel
theorem dL_zeroed_1 : decode cL_zeroed 1 = .ok (.invokevirtual 109, 3) := by decide +kernel
theorem dL_zeroed_4 : decode cL_zeroed 4 = .ok (.ireturn, 1) := by decide +kernel
theorem dL_zeroed_5 : decode cL_zeroed 5 = .ok (.astore_n 1, 1) := by decide +kernel
theorem dL_zeroed_6 : decode cL_zeroed 6 = .ok (.bipush (-2), 2) := by decide +kernel
theorem dL_zeroed_8 : decode cL_zeroed 8 = .ok (.ireturn, 1) := by decide +kernel
theorem dL_acts_0 : decode cL_acts 0 = .ok (.iload 8, 2) := by decide +kernel
theorem dL_acts_2 : decode cL_acts 2 = .ok (.ifCond .ne 67, 3) := by decide +kernel
theorem dL_acts_5 : decode cL_acts 5 = .ok (.aload_n 1, 1) := by decide +kernel
theorem dL_acts_6 : decode cL_acts 6 = .ok (.bipush 8, 2) := by decide +kernel
theorem dL_acts_8 : decode cL_acts 8 = .ok (.iaload, 1) := by decide +kernel
theorem dL_acts_9 : decode cL_acts 9 = .ok (.ifCond .le 16, 3) := by decide +kernel
theorem dL_acts_12 : decode cL_acts 12 = .ok (.aload_n 1, 1) := by decide +kernel
theorem dL_acts_13 : decode cL_acts 13 = .ok (.bipush 8, 2) := by decide +kernel
theorem dL_acts_15 : decode cL_acts 15 = .ok (.iaload, 1) := by decide +kernel
theorem dL_acts_16 : decode cL_acts 16 = .ok (.bipush 6, 2) := by decide +kernel
theorem dL_acts_18 : decode cL_acts 18 = .ok (.if_icmp .ge 7, 3) := by decide +kernel
theorem dL_acts_21 : decode cL_acts 21 = .ok (.iconst 1, 1) := by decide +kernel
theorem dL_acts_22 : decode cL_acts 22 = .ok (.goto 4, 3) := by decide +kernel
theorem dL_acts_25 : decode cL_acts 25 = .ok (.iconst 0, 1) := by decide +kernel
theorem dL_acts_26 : decode cL_acts 26 = .ok (.istore 10, 2) := by decide +kernel
theorem dL_acts_28 : decode cL_acts 28 = .ok (.aload_n 1, 1) := by decide +kernel
theorem dL_acts_29 : decode cL_acts 29 = .ok (.bipush 8, 2) := by decide +kernel
theorem dL_acts_31 : decode cL_acts 31 = .ok (.iaload, 1) := by decide +kernel
theorem dL_acts_32 : decode cL_acts 32 = .ok (.istore 11, 2) := by decide +kernel
theorem dL_acts_34 : decode cL_acts 34 = .ok (.iload 10, 2) := by decide +kernel
theorem dL_acts_36 : decode cL_acts 36 = .ok (.ifCond .eq 8, 3) := by decide +kernel
theorem dL_acts_39 : decode cL_acts 39 = .ok (.aload_n 1, 1) := by decide +kernel
theorem dL_acts_40 : decode cL_acts 40 = .ok (.iconst 0, 1) := by decide +kernel
theorem dL_acts_41 : decode cL_acts 41 = .ok (.invokestatic 26, 3) := by decide +kernel
theorem dL_acts_44 : decode cL_acts 44 = .ok (.aload_n 0, 1) := by decide +kernel
theorem dL_acts_45 : decode cL_acts 45 = .ok (.invokestatic 112, 3) := by decide +kernel
theorem dL_acts_48 : decode cL_acts 48 = .ok (.iload 10, 2) := by decide +kernel
theorem dL_acts_50 : decode cL_acts 50 = .ok (.ifCond .eq 8, 3) := by decide +kernel
theorem dL_acts_53 : decode cL_acts 53 = .ok (.iload 11, 2) := by decide +kernel
theorem dL_acts_55 : decode cL_acts 55 = .ok (.goto 5, 3) := by decide +kernel
theorem dL_acts_58 : decode cL_acts 58 = .ok (.bipush (-2), 2) := by decide +kernel
theorem dL_acts_60 : decode cL_acts 60 = .ok (.if_icmp .ne 7, 3) := by decide +kernel
theorem dL_acts_63 : decode cL_acts 63 = .ok (.iconst 1, 1) := by decide +kernel
theorem dL_acts_64 : decode cL_acts 64 = .ok (.goto 4, 3) := by decide +kernel
theorem dL_acts_67 : decode cL_acts 67 = .ok (.iconst 0, 1) := by decide +kernel
theorem dL_acts_68 : decode cL_acts 68 = .ok (.ireturn, 1) := by decide +kernel
theorem dL_acts_69 : decode cL_acts 69 = .ok (.iload 8, 2) := by decide +kernel
theorem dL_acts_71 : decode cL_acts 71 = .ok (.iconst 1, 1) := by decide +kernel
theorem dL_acts_72 : decode cL_acts 72 = .ok (.if_icmp .ne 110, 3) := by decide +kernel
theorem dL_acts_75 : decode cL_acts 75 = .ok (.aload_n 1, 1) := by decide +kernel
theorem dL_acts_76 : decode cL_acts 76 = .ok (.bipush 8, 2) := by decide +kernel
theorem dL_acts_78 : decode cL_acts 78 = .ok (.iaload, 1) := by decide +kernel
theorem dL_acts_79 : decode cL_acts 79 = .ok (.bipush 6, 2) := by decide +kernel
theorem dL_acts_81 : decode cL_acts 81 = .ok (.if_icmp .ne 7, 3) := by decide +kernel
theorem dL_acts_84 : decode cL_acts 84 = .ok (.iconst 1, 1) := by decide +kernel
theorem dL_acts_85 : decode cL_acts 85 = .ok (.goto 4, 3) := by decide +kernel
theorem dL_acts_88 : decode cL_acts 88 = .ok (.iconst 0, 1) := by decide +kernel
theorem dL_acts_89 : decode cL_acts 89 = .ok (.istore 10, 2) := by decide +kernel
theorem dL_acts_91 : decode cL_acts 91 = .ok (.iload 10, 2) := by decide +kernel
theorem dL_acts_93 : decode cL_acts 93 = .ok (.ifCond .eq 36, 3) := by decide +kernel
theorem dL_acts_96 : decode cL_acts 96 = .ok (.aload_n 1, 1) := by decide +kernel
theorem dL_acts_97 : decode cL_acts 97 = .ok (.bipush 9, 2) := by decide +kernel
theorem dL_acts_99 : decode cL_acts 99 = .ok (.iaload, 1) := by decide +kernel
theorem dL_acts_100 : decode cL_acts 100 = .ok (.iconst 1, 1) := by decide +kernel
theorem dL_acts_101 : decode cL_acts 101 = .ok (.if_icmp .eq 11, 3) := by decide +kernel
theorem dL_acts_104 : decode cL_acts 104 = .ok (.aload_n 1, 1) := by decide +kernel
theorem dL_acts_105 : decode cL_acts 105 = .ok (.bipush 9, 2) := by decide +kernel
theorem dL_acts_107 : decode cL_acts 107 = .ok (.iaload, 1) := by decide +kernel
theorem dL_acts_108 : decode cL_acts 108 = .ok (.iconst 2, 1) := by decide +kernel
theorem dL_acts_109 : decode cL_acts 109 = .ok (.if_icmp .ne 20, 3) := by decide +kernel
theorem dL_acts_112 : decode cL_acts 112 = .ok (.aload_n 1, 1) := by decide +kernel
theorem dL_acts_113 : decode cL_acts 113 = .ok (.aload_n 2, 1) := by decide +kernel
theorem dL_acts_114 : decode cL_acts 114 = .ok (.aload_n 3, 1) := by decide +kernel
theorem dL_acts_115 : decode cL_acts 115 = .ok (.aload 4, 2) := by decide +kernel
theorem dL_acts_117 : decode cL_acts 117 = .ok (.aload 5, 2) := by decide +kernel
theorem dL_acts_119 : decode cL_acts 119 = .ok (.aload 6, 2) := by decide +kernel
theorem dL_acts_121 : decode cL_acts 121 = .ok (.iload 7, 2) := by decide +kernel
theorem dL_acts_123 : decode cL_acts 123 = .ok (.invokestatic 29, 3) := by decide +kernel
theorem dL_acts_126 : decode cL_acts 126 = .ok (.goto 29, 3) := by decide +kernel
theorem dL_acts_129 : decode cL_acts 129 = .ok (.iload 10, 2) := by decide +kernel
theorem dL_acts_131 : decode cL_acts 131 = .ok (.ifCond .eq 24, 3) := by decide +kernel
theorem dL_acts_134 : decode cL_acts 134 = .ok (.aload_n 1, 1) := by decide +kernel
theorem dL_acts_135 : decode cL_acts 135 = .ok (.bipush 9, 2) := by decide +kernel
theorem dL_acts_137 : decode cL_acts 137 = .ok (.iconst 0, 1) := by decide +kernel
theorem dL_acts_138 : decode cL_acts 138 = .ok (.iastore, 1) := by decide +kernel
theorem dL_acts_139 : decode cL_acts 139 = .ok (.aload_n 1, 1) := by decide +kernel
theorem dL_acts_140 : decode cL_acts 140 = .ok (.bipush 13, 2) := by decide +kernel
theorem dL_acts_142 : decode cL_acts 142 = .ok (.aload_n 1, 1) := by decide +kernel
theorem dL_acts_143 : decode cL_acts 143 = .ok (.bipush 14, 2) := by decide +kernel
theorem dL_acts_145 : decode cL_acts 145 = .ok (.iaload, 1) := by decide +kernel
theorem dL_acts_146 : decode cL_acts 146 = .ok (.iastore, 1) := by decide +kernel
theorem dL_acts_147 : decode cL_acts 147 = .ok (.aload_n 1, 1) := by decide +kernel
theorem dL_acts_148 : decode cL_acts 148 = .ok (.aload_n 1, 1) := by decide +kernel
theorem dL_acts_149 : decode cL_acts 149 = .ok (.bipush 10, 2) := by decide +kernel
theorem dL_acts_151 : decode cL_acts 151 = .ok (.iaload, 1) := by decide +kernel
theorem dL_acts_152 : decode cL_acts 152 = .ok (.invokestatic 9, 3) := by decide +kernel
theorem dL_acts_155 : decode cL_acts 155 = .ok (.aload_n 0, 1) := by decide +kernel
theorem dL_acts_156 : decode cL_acts 156 = .ok (.invokestatic 116, 3) := by decide +kernel
theorem dL_acts_159 : decode cL_acts 159 = .ok (.iload 10, 2) := by decide +kernel
theorem dL_acts_161 : decode cL_acts 161 = .ok (.ifCond .eq 10, 3) := by decide +kernel
theorem dL_acts_164 : decode cL_acts 164 = .ok (.aload_n 1, 1) := by decide +kernel
theorem dL_acts_165 : decode cL_acts 165 = .ok (.bipush 8, 2) := by decide +kernel
theorem dL_acts_167 : decode cL_acts 167 = .ok (.iaload, 1) := by decide +kernel
theorem dL_acts_168 : decode cL_acts 168 = .ok (.goto 5, 3) := by decide +kernel
theorem dL_acts_171 : decode cL_acts 171 = .ok (.bipush (-2), 2) := by decide +kernel
theorem dL_acts_173 : decode cL_acts 173 = .ok (.if_icmp .ne 7, 3) := by decide +kernel
theorem dL_acts_176 : decode cL_acts 176 = .ok (.iconst 1, 1) := by decide +kernel
theorem dL_acts_177 : decode cL_acts 177 = .ok (.goto 4, 3) := by decide +kernel
theorem dL_acts_180 : decode cL_acts 180 = .ok (.iconst 0, 1) := by decide +kernel
theorem dL_acts_181 : decode cL_acts 181 = .ok (.ireturn, 1) := by decide +kernel
theorem dL_acts_182 : decode cL_acts 182 = .ok (.iload 8, 2) := by decide +kernel
theorem dL_acts_184 : decode cL_acts 184 = .ok (.iconst 2, 1) := by decide +kernel
theorem dL_acts_185 : decode cL_acts 185 = .ok (.if_icmp .ne 97, 3) := by decide +kernel
theorem dL_acts_188 : decode cL_acts 188 = .ok (.iload 9, 2) := by decide +kernel
theorem dL_acts_190 : decode cL_acts 190 = .ok (.iconst 3, 1) := by decide +kernel
theorem dL_acts_191 : decode cL_acts 191 = .ok (.irem, 1) := by decide +kernel
theorem dL_acts_192 : decode cL_acts 192 = .ok (.ifCond .ne 90, 3) := by decide +kernel
theorem dL_acts_195 : decode cL_acts 195 = .ok (.aload_n 1, 1) := by decide +kernel
theorem dL_acts_196 : decode cL_acts 196 = .ok (.bipush 8, 2) := by decide +kernel
theorem dL_acts_198 : decode cL_acts 198 = .ok (.iaload, 1) := by decide +kernel
theorem dL_acts_199 : decode cL_acts 199 = .ok (.ifCond .eq 7, 3) := by decide +kernel
theorem dL_acts_202 : decode cL_acts 202 = .ok (.iconst 1, 1) := by decide +kernel
theorem dL_acts_203 : decode cL_acts 203 = .ok (.goto 4, 3) := by decide +kernel
theorem dL_acts_206 : decode cL_acts 206 = .ok (.iconst 0, 1) := by decide +kernel
theorem dL_acts_207 : decode cL_acts 207 = .ok (.istore 10, 2) := by decide +kernel
theorem dL_acts_209 : decode cL_acts 209 = .ok (.iload 10, 2) := by decide +kernel
theorem dL_acts_211 : decode cL_acts 211 = .ok (.ifCond .eq 28, 3) := by decide +kernel
theorem dL_acts_214 : decode cL_acts 214 = .ok (.aload_n 1, 1) := by decide +kernel
theorem dL_acts_215 : decode cL_acts 215 = .ok (.bipush 18, 2) := by decide +kernel
theorem dL_acts_217 : decode cL_acts 217 = .ok (.iaload, 1) := by decide +kernel
theorem dL_acts_218 : decode cL_acts 218 = .ok (.iconst 1, 1) := by decide +kernel
theorem dL_acts_219 : decode cL_acts 219 = .ok (.if_icmp .ne 20, 3) := by decide +kernel
theorem dL_acts_222 : decode cL_acts 222 = .ok (.aload_n 1, 1) := by decide +kernel
theorem dL_acts_223 : decode cL_acts 223 = .ok (.aload_n 2, 1) := by decide +kernel
theorem dL_acts_224 : decode cL_acts 224 = .ok (.aload_n 3, 1) := by decide +kernel
theorem dL_acts_225 : decode cL_acts 225 = .ok (.aload 4, 2) := by decide +kernel
theorem dL_acts_227 : decode cL_acts 227 = .ok (.aload 5, 2) := by decide +kernel
theorem dL_acts_229 : decode cL_acts 229 = .ok (.aload 6, 2) := by decide +kernel
theorem dL_acts_231 : decode cL_acts 231 = .ok (.iload 7, 2) := by decide +kernel
theorem dL_acts_233 : decode cL_acts 233 = .ok (.invokestatic 19, 3) := by decide +kernel
theorem dL_acts_236 : decode cL_acts 236 = .ok (.goto 4, 3) := by decide +kernel
theorem dL_acts_239 : decode cL_acts 239 = .ok (.iconst 0, 1) := by decide +kernel
theorem dL_acts_240 : decode cL_acts 240 = .ok (.istore 11, 2) := by decide +kernel
theorem dL_acts_242 : decode cL_acts 242 = .ok (.iload 10, 2) := by decide +kernel
theorem dL_acts_244 : decode cL_acts 244 = .ok (.ifCond .eq 13, 3) := by decide +kernel
theorem dL_acts_247 : decode cL_acts 247 = .ok (.aload_n 1, 1) := by decide +kernel
theorem dL_acts_248 : decode cL_acts 248 = .ok (.bipush 9, 2) := by decide +kernel
theorem dL_acts_250 : decode cL_acts 250 = .ok (.iconst 0, 1) := by decide +kernel
theorem dL_acts_251 : decode cL_acts 251 = .ok (.iastore, 1) := by decide +kernel
theorem dL_acts_252 : decode cL_acts 252 = .ok (.aload_n 1, 1) := by decide +kernel
theorem dL_acts_253 : decode cL_acts 253 = .ok (.iconst 0, 1) := by decide +kernel
theorem dL_acts_254 : decode cL_acts 254 = .ok (.invokestatic 9, 3) := by decide +kernel
theorem dL_acts_257 : decode cL_acts 257 = .ok (.aload_n 0, 1) := by decide +kernel
theorem dL_acts_258 : decode cL_acts 258 = .ok (.invokestatic 119, 3) := by decide +kernel
theorem dL_acts_261 : decode cL_acts 261 = .ok (.iload 10, 2) := by decide +kernel
theorem dL_acts_263 : decode cL_acts 263 = .ok (.ifCond .eq 8, 3) := by decide +kernel
theorem dL_acts_266 : decode cL_acts 266 = .ok (.iload 11, 2) := by decide +kernel
theorem dL_acts_268 : decode cL_acts 268 = .ok (.goto 5, 3) := by decide +kernel
theorem dL_acts_271 : decode cL_acts 271 = .ok (.bipush (-2), 2) := by decide +kernel
theorem dL_acts_273 : decode cL_acts 273 = .ok (.if_icmp .ne 7, 3) := by decide +kernel
theorem dL_acts_276 : decode cL_acts 276 = .ok (.iconst 1, 1) := by decide +kernel
theorem dL_acts_277 : decode cL_acts 277 = .ok (.goto 4, 3) := by decide +kernel
theorem dL_acts_280 : decode cL_acts 280 = .ok (.iconst 0, 1) := by decide +kernel
theorem dL_acts_281 : decode cL_acts 281 = .ok (.ireturn, 1) := by decide +kernel
theorem dL_acts_282 : decode cL_acts 282 = .ok (.iload 8, 2) := by decide +kernel
theorem dL_acts_284 : decode cL_acts 284 = .ok (.iconst 3, 1) := by decide +kernel
theorem dL_acts_285 : decode cL_acts 285 = .ok (.if_icmp .ne 89, 3) := by decide +kernel
theorem dL_acts_288 : decode cL_acts 288 = .ok (.aload_n 1, 1) := by decide +kernel
theorem dL_acts_289 : decode cL_acts 289 = .ok (.bipush 8, 2) := by decide +kernel
theorem dL_acts_291 : decode cL_acts 291 = .ok (.iaload, 1) := by decide +kernel
theorem dL_acts_292 : decode cL_acts 292 = .ok (.ifCond .ne 32, 3) := by decide +kernel
theorem dL_acts_295 : decode cL_acts 295 = .ok (.aload_n 1, 1) := by decide +kernel
theorem dL_acts_296 : decode cL_acts 296 = .ok (.invokestatic 33, 3) := by decide +kernel
theorem dL_acts_299 : decode cL_acts 299 = .ok (.ifCond .eq 25, 3) := by decide +kernel
theorem dL_acts_302 : decode cL_acts 302 = .ok (.aload_n 1, 1) := by decide +kernel
theorem dL_acts_303 : decode cL_acts 303 = .ok (.iconst 0, 1) := by decide +kernel
theorem dL_acts_304 : decode cL_acts 304 = .ok (.iaload, 1) := by decide +kernel
theorem dL_acts_305 : decode cL_acts 305 = .ok (.sipush 501, 3) := by decide +kernel
theorem dL_acts_308 : decode cL_acts 308 = .ok (.if_icmp .ge 16, 3) := by decide +kernel
theorem dL_acts_311 : decode cL_acts 311 = .ok (.aload_n 1, 1) := by decide +kernel
theorem dL_acts_312 : decode cL_acts 312 = .ok (.iconst 0, 1) := by decide +kernel
theorem dL_acts_313 : decode cL_acts 313 = .ok (.iaload, 1) := by decide +kernel
theorem dL_acts_314 : decode cL_acts 314 = .ok (.sipush (-501), 3) := by decide +kernel
theorem dL_acts_317 : decode cL_acts 317 = .ok (.if_icmp .le 7, 3) := by decide +kernel
theorem dL_acts_320 : decode cL_acts 320 = .ok (.iconst 1, 1) := by decide +kernel
theorem dL_acts_321 : decode cL_acts 321 = .ok (.goto 4, 3) := by decide +kernel
theorem dL_acts_324 : decode cL_acts 324 = .ok (.iconst 0, 1) := by decide +kernel
theorem dL_acts_325 : decode cL_acts 325 = .ok (.istore 10, 2) := by decide +kernel
theorem dL_acts_327 : decode cL_acts 327 = .ok (.aload_n 1, 1) := by decide +kernel
theorem dL_acts_328 : decode cL_acts 328 = .ok (.iconst 5, 1) := by decide +kernel
theorem dL_acts_329 : decode cL_acts 329 = .ok (.iaload, 1) := by decide +kernel
theorem dL_acts_330 : decode cL_acts 330 = .ok (.istore 11, 2) := by decide +kernel
theorem dL_acts_332 : decode cL_acts 332 = .ok (.aload_n 1, 1) := by decide +kernel
theorem dL_acts_333 : decode cL_acts 333 = .ok (.iconst 5, 1) := by decide +kernel
theorem dL_acts_334 : decode cL_acts 334 = .ok (.iload 10, 2) := by decide +kernel
theorem dL_acts_336 : decode cL_acts 336 = .ok (.ifCond .eq 9, 3) := by decide +kernel
theorem dL_acts_339 : decode cL_acts 339 = .ok (.aload_n 1, 1) := by decide +kernel
theorem dL_acts_340 : decode cL_acts 340 = .ok (.iconst 0, 1) := by decide +kernel
theorem dL_acts_341 : decode cL_acts 341 = .ok (.iaload, 1) := by decide +kernel
theorem dL_acts_342 : decode cL_acts 342 = .ok (.goto 6, 3) := by decide +kernel
theorem dL_acts_345 : decode cL_acts 345 = .ok (.aload_n 1, 1) := by decide +kernel
theorem dL_acts_346 : decode cL_acts 346 = .ok (.iconst 5, 1) := by decide +kernel
theorem dL_acts_347 : decode cL_acts 347 = .ok (.iaload, 1) := by decide +kernel
theorem dL_acts_348 : decode cL_acts 348 = .ok (.iastore, 1) := by decide +kernel
theorem dL_acts_349 : decode cL_acts 349 = .ok (.aload_n 0, 1) := by decide +kernel
theorem dL_acts_350 : decode cL_acts 350 = .ok (.invokestatic 122, 3) := by decide +kernel
theorem dL_acts_353 : decode cL_acts 353 = .ok (.iload 10, 2) := by decide +kernel
theorem dL_acts_355 : decode cL_acts 355 = .ok (.ifCond .eq 8, 3) := by decide +kernel
theorem dL_acts_358 : decode cL_acts 358 = .ok (.iload 11, 2) := by decide +kernel
theorem dL_acts_360 : decode cL_acts 360 = .ok (.goto 5, 3) := by decide +kernel
theorem dL_acts_363 : decode cL_acts 363 = .ok (.bipush (-2), 2) := by decide +kernel
theorem dL_acts_365 : decode cL_acts 365 = .ok (.if_icmp .ne 7, 3) := by decide +kernel
theorem dL_acts_368 : decode cL_acts 368 = .ok (.iconst 1, 1) := by decide +kernel
theorem dL_acts_369 : decode cL_acts 369 = .ok (.goto 4, 3) := by decide +kernel
theorem dL_acts_372 : decode cL_acts 372 = .ok (.iconst 0, 1) := by decide +kernel
theorem dL_acts_373 : decode cL_acts 373 = .ok (.ireturn, 1) := by decide +kernel
theorem dL_acts_374 : decode cL_acts 374 = .ok (.iload 8, 2) := by decide +kernel
theorem dL_acts_376 : decode cL_acts 376 = .ok (.iconst 4, 1) := by decide +kernel
theorem dL_acts_377 : decode cL_acts 377 = .ok (.if_icmp .ne 38, 3) := by decide +kernel
theorem dL_acts_380 : decode cL_acts 380 = .ok (.aload_n 1, 1) := by decide +kernel
theorem dL_acts_381 : decode cL_acts 381 = .ok (.bipush 7, 2) := by decide +kernel
theorem dL_acts_383 : decode cL_acts 383 = .ok (.iaload, 1) := by decide +kernel
theorem dL_acts_384 : decode cL_acts 384 = .ok (.istore 10, 2) := by decide +kernel
theorem dL_acts_386 : decode cL_acts 386 = .ok (.aload_n 1, 1) := by decide +kernel
theorem dL_acts_387 : decode cL_acts 387 = .ok (.bipush 7, 2) := by decide +kernel
theorem dL_acts_389 : decode cL_acts 389 = .ok (.iload 9, 2) := by decide +kernel
theorem dL_acts_391 : decode cL_acts 391 = .ok (.bipush 7, 2) := by decide +kernel
theorem dL_acts_393 : decode cL_acts 393 = .ok (.irem, 1) := by decide +kernel
theorem dL_acts_394 : decode cL_acts 394 = .ok (.iastore, 1) := by decide +kernel
theorem dL_acts_395 : decode cL_acts 395 = .ok (.aload_n 0, 1) := by decide +kernel
theorem dL_acts_396 : decode cL_acts 396 = .ok (.iload 9, 2) := by decide +kernel
theorem dL_acts_398 : decode cL_acts 398 = .ok (.bipush 7, 2) := by decide +kernel
theorem dL_acts_400 : decode cL_acts 400 = .ok (.irem, 1) := by decide +kernel
theorem dL_acts_401 : decode cL_acts 401 = .ok (.invokevirtual 125, 3) := by decide +kernel
theorem dL_acts_404 : decode cL_acts 404 = .ok (.iload 10, 2) := by decide +kernel
theorem dL_acts_406 : decode cL_acts 406 = .ok (.if_icmp .ne 7, 3) := by decide +kernel
theorem dL_acts_409 : decode cL_acts 409 = .ok (.iconst 1, 1) := by decide +kernel
theorem dL_acts_410 : decode cL_acts 410 = .ok (.goto 4, 3) := by decide +kernel
theorem dL_acts_413 : decode cL_acts 413 = .ok (.iconst 0, 1) := by decide +kernel
theorem dL_acts_414 : decode cL_acts 414 = .ok (.ireturn, 1) := by decide +kernel
theorem dL_acts_415 : decode cL_acts 415 = .ok (.iload 8, 2) := by decide +kernel
theorem dL_acts_417 : decode cL_acts 417 = .ok (.iconst 5, 1) := by decide +kernel
theorem dL_acts_418 : decode cL_acts 418 = .ok (.if_icmp .ne 54, 3) := by decide +kernel
theorem dL_acts_421 : decode cL_acts 421 = .ok (.aload_n 2, 1) := by decide +kernel
theorem dL_acts_422 : decode cL_acts 422 = .ok (.iload 9, 2) := by decide +kernel
theorem dL_acts_424 : decode cL_acts 424 = .ok (.iconst 4, 1) := by decide +kernel
theorem dL_acts_425 : decode cL_acts 425 = .ok (.irem, 1) := by decide +kernel
theorem dL_acts_426 : decode cL_acts 426 = .ok (.iconst 4, 1) := by decide +kernel
theorem dL_acts_427 : decode cL_acts 427 = .ok (.imul, 1) := by decide +kernel
theorem dL_acts_428 : decode cL_acts 428 = .ok (.iaload, 1) := by decide +kernel
theorem dL_acts_429 : decode cL_acts 429 = .ok (.istore 10, 2) := by decide +kernel
theorem dL_acts_431 : decode cL_acts 431 = .ok (.aload_n 2, 1) := by decide +kernel
theorem dL_acts_432 : decode cL_acts 432 = .ok (.iload 9, 2) := by decide +kernel
theorem dL_acts_434 : decode cL_acts 434 = .ok (.iconst 4, 1) := by decide +kernel
theorem dL_acts_435 : decode cL_acts 435 = .ok (.irem, 1) := by decide +kernel
theorem dL_acts_436 : decode cL_acts 436 = .ok (.iconst 4, 1) := by decide +kernel
theorem dL_acts_437 : decode cL_acts 437 = .ok (.imul, 1) := by decide +kernel
theorem dL_acts_438 : decode cL_acts 438 = .ok (.iload 9, 2) := by decide +kernel
theorem dL_acts_440 : decode cL_acts 440 = .ok (.iconst 4, 1) := by decide +kernel
theorem dL_acts_441 : decode cL_acts 441 = .ok (.idiv, 1) := by decide +kernel
theorem dL_acts_442 : decode cL_acts 442 = .ok (.bipush 90, 2) := by decide +kernel
theorem dL_acts_444 : decode cL_acts 444 = .ok (.irem, 1) := by decide +kernel
theorem dL_acts_445 : decode cL_acts 445 = .ok (.iastore, 1) := by decide +kernel
theorem dL_acts_446 : decode cL_acts 446 = .ok (.aload_n 0, 1) := by decide +kernel
theorem dL_acts_447 : decode cL_acts 447 = .ok (.iload 9, 2) := by decide +kernel
theorem dL_acts_449 : decode cL_acts 449 = .ok (.iconst 4, 1) := by decide +kernel
theorem dL_acts_450 : decode cL_acts 450 = .ok (.irem, 1) := by decide +kernel
theorem dL_acts_451 : decode cL_acts 451 = .ok (.iload 9, 2) := by decide +kernel
theorem dL_acts_453 : decode cL_acts 453 = .ok (.iconst 4, 1) := by decide +kernel
theorem dL_acts_454 : decode cL_acts 454 = .ok (.idiv, 1) := by decide +kernel
theorem dL_acts_455 : decode cL_acts 455 = .ok (.bipush 90, 2) := by decide +kernel
theorem dL_acts_457 : decode cL_acts 457 = .ok (.irem, 1) := by decide +kernel
theorem dL_acts_458 : decode cL_acts 458 = .ok (.invokevirtual 128, 3) := by decide +kernel
theorem dL_acts_461 : decode cL_acts 461 = .ok (.iload 10, 2) := by decide +kernel
theorem dL_acts_463 : decode cL_acts 463 = .ok (.if_icmp .ne 7, 3) := by decide +kernel
theorem dL_acts_466 : decode cL_acts 466 = .ok (.iconst 1, 1) := by decide +kernel
theorem dL_acts_467 : decode cL_acts 467 = .ok (.goto 4, 3) := by decide +kernel
theorem dL_acts_470 : decode cL_acts 470 = .ok (.iconst 0, 1) := by decide +kernel
theorem dL_acts_471 : decode cL_acts 471 = .ok (.ireturn, 1) := by decide +kernel
theorem dL_acts_472 : decode cL_acts 472 = .ok (.aload_n 1, 1) := by decide +kernel
theorem dL_acts_473 : decode cL_acts 473 = .ok (.bipush 8, 2) := by decide +kernel
theorem dL_acts_475 : decode cL_acts 475 = .ok (.iaload, 1) := by decide +kernel
theorem dL_acts_476 : decode cL_acts 476 = .ok (.ifCond .ne 23, 3) := by decide +kernel
theorem dL_acts_479 : decode cL_acts 479 = .ok (.aload_n 1, 1) := by decide +kernel
theorem dL_acts_480 : decode cL_acts 480 = .ok (.bipush 21, 2) := by decide +kernel
theorem dL_acts_482 : decode cL_acts 482 = .ok (.iaload, 1) := by decide +kernel
theorem dL_acts_483 : decode cL_acts 483 = .ok (.ifCond .le 16, 3) := by decide +kernel
theorem dL_acts_486 : decode cL_acts 486 = .ok (.aload_n 1, 1) := by decide +kernel
theorem dL_acts_487 : decode cL_acts 487 = .ok (.bipush 19, 2) := by decide +kernel
theorem dL_acts_489 : decode cL_acts 489 = .ok (.iaload, 1) := by decide +kernel
theorem dL_acts_490 : decode cL_acts 490 = .ok (.bipush 20, 2) := by decide +kernel
theorem dL_acts_492 : decode cL_acts 492 = .ok (.if_icmp .ge 7, 3) := by decide +kernel
theorem dL_acts_495 : decode cL_acts 495 = .ok (.iconst 1, 1) := by decide +kernel
theorem dL_acts_496 : decode cL_acts 496 = .ok (.goto 4, 3) := by decide +kernel
theorem dL_acts_499 : decode cL_acts 499 = .ok (.iconst 0, 1) := by decide +kernel
theorem dL_acts_500 : decode cL_acts 500 = .ok (.istore 10, 2) := by decide +kernel
theorem dL_acts_502 : decode cL_acts 502 = .ok (.iload 10, 2) := by decide +kernel
theorem dL_acts_504 : decode cL_acts 504 = .ok (.ifCond .eq 16, 3) := by decide +kernel
theorem dL_acts_507 : decode cL_acts 507 = .ok (.aload_n 1, 1) := by decide +kernel
theorem dL_acts_508 : decode cL_acts 508 = .ok (.bipush 19, 2) := by decide +kernel
theorem dL_acts_510 : decode cL_acts 510 = .ok (.dup2, 1) := by decide +kernel
theorem dL_acts_511 : decode cL_acts 511 = .ok (.iaload, 1) := by decide +kernel
theorem dL_acts_512 : decode cL_acts 512 = .ok (.iconst 1, 1) := by decide +kernel
theorem dL_acts_513 : decode cL_acts 513 = .ok (.iadd, 1) := by decide +kernel
theorem dL_acts_514 : decode cL_acts 514 = .ok (.iastore, 1) := by decide +kernel
theorem dL_acts_515 : decode cL_acts 515 = .ok (.aload_n 1, 1) := by decide +kernel
theorem dL_acts_516 : decode cL_acts 516 = .ok (.iconst 0, 1) := by decide +kernel
theorem dL_acts_517 : decode cL_acts 517 = .ok (.invokestatic 23, 3) := by decide +kernel
theorem dL_acts_520 : decode cL_acts 520 = .ok (.aload_n 0, 1) := by decide +kernel
theorem dL_acts_521 : decode cL_acts 521 = .ok (.invokestatic 131, 3) := by decide +kernel
theorem dL_acts_524 : decode cL_acts 524 = .ok (.iload 10, 2) := by decide +kernel
theorem dL_acts_526 : decode cL_acts 526 = .ok (.ifCond .eq 12, 3) := by decide +kernel
theorem dL_acts_529 : decode cL_acts 529 = .ok (.aload_n 1, 1) := by decide +kernel
theorem dL_acts_530 : decode cL_acts 530 = .ok (.bipush 19, 2) := by decide +kernel
theorem dL_acts_532 : decode cL_acts 532 = .ok (.iaload, 1) := by decide +kernel
theorem dL_acts_533 : decode cL_acts 533 = .ok (.iconst 1, 1) := by decide +kernel
theorem dL_acts_534 : decode cL_acts 534 = .ok (.isub, 1) := by decide +kernel
theorem dL_acts_535 : decode cL_acts 535 = .ok (.goto 5, 3) := by decide +kernel
theorem dL_acts_538 : decode cL_acts 538 = .ok (.bipush (-2), 2) := by decide +kernel
theorem dL_acts_540 : decode cL_acts 540 = .ok (.if_icmp .ne 7, 3) := by decide +kernel
theorem dL_acts_543 : decode cL_acts 543 = .ok (.iconst 1, 1) := by decide +kernel
theorem dL_acts_544 : decode cL_acts 544 = .ok (.goto 4, 3) := by decide +kernel
theorem dL_acts_547 : decode cL_acts 547 = .ok (.iconst 0, 1) := by decide +kernel
theorem dL_acts_548 : decode cL_acts 548 = .ok (.ireturn, 1) := by decide +kernel
theorem dL_holds_0 : decode cL_holds 0 = .ok (.new 41, 3) := by decide +kernel
theorem dL_holds_3 : decode cL_holds 3 = .ok (.dup, 1) := by decide +kernel
theorem dL_holds_4 : decode cL_holds 4 = .ok (.invokespecial 134, 3) := by decide +kernel
theorem dL_holds_7 : decode cL_holds 7 = .ok (.astore_n 1, 1) := by decide +kernel
theorem dL_holds_8 : decode cL_holds 8 = .ok (.bipush 24, 2) := by decide +kernel
theorem dL_holds_10 : decode cL_holds 10 = .ok (.newarray .int, 2) := by decide +kernel
theorem dL_holds_12 : decode cL_holds 12 = .ok (.astore_n 2, 1) := by decide +kernel
theorem dL_holds_13 : decode cL_holds 13 = .ok (.bipush 16, 2) := by decide +kernel
theorem dL_holds_15 : decode cL_holds 15 = .ok (.newarray .int, 2) := by decide +kernel
theorem dL_holds_17 : decode cL_holds 17 = .ok (.astore_n 3, 1) := by decide +kernel
theorem dL_holds_18 : decode cL_holds 18 = .ok (.bipush 18, 2) := by decide +kernel
theorem dL_holds_20 : decode cL_holds 20 = .ok (.newarray .int, 2) := by decide +kernel
theorem dL_holds_22 : decode cL_holds 22 = .ok (.astore 4, 2) := by decide +kernel
theorem dL_holds_24 : decode cL_holds 24 = .ok (.bipush 24, 2) := by decide +kernel
theorem dL_holds_26 : decode cL_holds 26 = .ok (.newarray .int, 2) := by decide +kernel
theorem dL_holds_28 : decode cL_holds 28 = .ok (.astore 5, 2) := by decide +kernel
theorem dL_holds_30 : decode cL_holds 30 = .ok (.bipush 8, 2) := by decide +kernel
theorem dL_holds_32 : decode cL_holds 32 = .ok (.newarray .int, 2) := by decide +kernel
theorem dL_holds_34 : decode cL_holds 34 = .ok (.astore 6, 2) := by decide +kernel
theorem dL_holds_36 : decode cL_holds 36 = .ok (.bipush 64, 2) := by decide +kernel
theorem dL_holds_38 : decode cL_holds 38 = .ok (.newarray .int, 2) := by decide +kernel
theorem dL_holds_40 : decode cL_holds 40 = .ok (.astore 7, 2) := by decide +kernel
theorem dL_holds_42 : decode cL_holds 42 = .ok (.iconst 0, 1) := by decide +kernel
theorem dL_holds_43 : decode cL_holds 43 = .ok (.istore 8, 2) := by decide +kernel
theorem dL_holds_45 : decode cL_holds 45 = .ok (.lconst 0, 1) := by decide +kernel
theorem dL_holds_46 : decode cL_holds 46 = .ok (.lstore 9, 2) := by decide +kernel
theorem dL_holds_48 : decode cL_holds 48 = .ok (.aload_n 0, 1) := by decide +kernel
theorem dL_holds_49 : decode cL_holds 49 = .ok (.iconst 0, 1) := by decide +kernel
theorem dL_holds_50 : decode cL_holds 50 = .ok (.bipush 40, 2) := by decide +kernel
theorem dL_holds_52 : decode cL_holds 52 = .ok (.invokestatic 135, 3) := by decide +kernel
theorem dL_holds_55 : decode cL_holds 55 = .ok (.bipush 10, 2) := by decide +kernel
theorem dL_holds_57 : decode cL_holds 57 = .ok (.isub, 1) := by decide +kernel
theorem dL_holds_58 : decode cL_holds 58 = .ok (.istore 11, 2) := by decide +kernel
theorem dL_holds_60 : decode cL_holds 60 = .ok (.aload_n 2, 1) := by decide +kernel
theorem dL_holds_61 : decode cL_holds 61 = .ok (.bipush 7, 2) := by decide +kernel
theorem dL_holds_63 : decode cL_holds 63 = .ok (.iconst 3, 1) := by decide +kernel
theorem dL_holds_64 : decode cL_holds 64 = .ok (.iastore, 1) := by decide +kernel
theorem dL_holds_65 : decode cL_holds 65 = .ok (.iconst 1, 1) := by decide +kernel
theorem dL_holds_66 : decode cL_holds 66 = .ok (.istore 12, 2) := by decide +kernel
theorem dL_holds_68 : decode cL_holds 68 = .ok (.iconst 0, 1) := by decide +kernel
theorem dL_holds_69 : decode cL_holds 69 = .ok (.istore 13, 2) := by decide +kernel
theorem dL_holds_71 : decode cL_holds 71 = .ok (.iload 13, 2) := by decide +kernel
theorem dL_holds_73 : decode cL_holds 73 = .ok (.iconst 4, 1) := by decide +kernel
theorem dL_holds_74 : decode cL_holds 74 = .ok (.if_icmp .ge 27, 3) := by decide +kernel
theorem dL_holds_77 : decode cL_holds 77 = .ok (.aload_n 3, 1) := by decide +kernel
theorem dL_holds_78 : decode cL_holds 78 = .ok (.iconst 4, 1) := by decide +kernel
theorem dL_holds_79 : decode cL_holds 79 = .ok (.iload 13, 2) := by decide +kernel
theorem dL_holds_81 : decode cL_holds 81 = .ok (.imul, 1) := by decide +kernel
theorem dL_holds_82 : decode cL_holds 82 = .ok (.bipush 50, 2) := by decide +kernel
theorem dL_holds_84 : decode cL_holds 84 = .ok (.iastore, 1) := by decide +kernel
theorem dL_holds_85 : decode cL_holds 85 = .ok (.aload_n 3, 1) := by decide +kernel
theorem dL_holds_86 : decode cL_holds 86 = .ok (.iconst 4, 1) := by decide +kernel
theorem dL_holds_87 : decode cL_holds 87 = .ok (.iload 13, 2) := by decide +kernel
theorem dL_holds_89 : decode cL_holds 89 = .ok (.imul, 1) := by decide +kernel
theorem dL_holds_90 : decode cL_holds 90 = .ok (.iconst 1, 1) := by decide +kernel
theorem dL_holds_91 : decode cL_holds 91 = .ok (.iadd, 1) := by decide +kernel
theorem dL_holds_92 : decode cL_holds 92 = .ok (.bipush 20, 2) := by decide +kernel
theorem dL_holds_94 : decode cL_holds 94 = .ok (.iastore, 1) := by decide +kernel
theorem dL_holds_95 : decode cL_holds 95 = .ok (.iinc 13 1, 3) := by decide +kernel
theorem dL_holds_98 : decode cL_holds 98 = .ok (.goto (-27), 3) := by decide +kernel
theorem dL_holds_101 : decode cL_holds 101 = .ok (.iconst 0, 1) := by decide +kernel
theorem dL_holds_102 : decode cL_holds 102 = .ok (.istore 13, 2) := by decide +kernel
theorem dL_holds_104 : decode cL_holds 104 = .ok (.iload 13, 2) := by decide +kernel
theorem dL_holds_106 : decode cL_holds 106 = .ok (.sipush 240, 3) := by decide +kernel
theorem dL_holds_109 : decode cL_holds 109 = .ok (.if_icmp .ge 658, 3) := by decide +kernel
theorem dL_holds_112 : decode cL_holds 112 = .ok (.iload 12, 2) := by decide +kernel
theorem dL_holds_114 : decode cL_holds 114 = .ok (.ifCond .eq 653, 3) := by decide +kernel
theorem dL_holds_117 : decode cL_holds 117 = .ok (.aload_n 0, 1) := by decide +kernel
theorem dL_holds_118 : decode cL_holds 118 = .ok (.iconst 2, 1) := by decide +kernel
theorem dL_holds_119 : decode cL_holds 119 = .ok (.iload 13, 2) := by decide +kernel
theorem dL_holds_121 : decode cL_holds 121 = .ok (.imul, 1) := by decide +kernel
theorem dL_holds_122 : decode cL_holds 122 = .ok (.iconst 1, 1) := by decide +kernel
theorem dL_holds_123 : decode cL_holds 123 = .ok (.iadd, 1) := by decide +kernel
theorem dL_holds_124 : decode cL_holds 124 = .ok (.bipush 60, 2) := by decide +kernel
theorem dL_holds_126 : decode cL_holds 126 = .ok (.invokestatic 135, 3) := by decide +kernel
theorem dL_holds_129 : decode cL_holds 129 = .ok (.istore 14, 2) := by decide +kernel
theorem dL_holds_131 : decode cL_holds 131 = .ok (.aload_n 0, 1) := by decide +kernel
theorem dL_holds_132 : decode cL_holds 132 = .ok (.iconst 2, 1) := by decide +kernel
theorem dL_holds_133 : decode cL_holds 133 = .ok (.iload 13, 2) := by decide +kernel
theorem dL_holds_135 : decode cL_holds 135 = .ok (.imul, 1) := by decide +kernel
theorem dL_holds_136 : decode cL_holds 136 = .ok (.iconst 2, 1) := by decide +kernel
theorem dL_holds_137 : decode cL_holds 137 = .ok (.iadd, 1) := by decide +kernel
theorem dL_holds_138 : decode cL_holds 138 = .ok (.ldc 139, 2) := by decide +kernel
theorem dL_holds_140 : decode cL_holds 140 = .ok (.invokestatic 135, 3) := by decide +kernel
theorem dL_holds_143 : decode cL_holds 143 = .ok (.istore 15, 2) := by decide +kernel
theorem dL_holds_145 : decode cL_holds 145 = .ok (.iload 14, 2) := by decide +kernel
theorem dL_holds_147 : decode cL_holds 147 = .ok (.bipush 6, 2) := by decide +kernel
theorem dL_holds_149 : decode cL_holds 149 = .ok (.if_icmp .ne 101, 3) := by decide +kernel
theorem dL_holds_152 : decode cL_holds 152 = .ok (.iload 8, 2) := by decide +kernel
theorem dL_holds_154 : decode cL_holds 154 = .ok (.bipush 8, 2) := by decide +kernel
theorem dL_holds_156 : decode cL_holds 156 = .ok (.if_icmp .ge 94, 3) := by decide +kernel
theorem dL_holds_159 : decode cL_holds 159 = .ok (.aload 5, 2) := by decide +kernel
theorem dL_holds_161 : decode cL_holds 161 = .ok (.iconst 3, 1) := by decide +kernel
theorem dL_holds_162 : decode cL_holds 162 = .ok (.iload 8, 2) := by decide +kernel
theorem dL_holds_164 : decode cL_holds 164 = .ok (.imul, 1) := by decide +kernel
theorem dL_holds_165 : decode cL_holds 165 = .ok (.iload 15, 2) := by decide +kernel
theorem dL_holds_167 : decode cL_holds 167 = .ok (.iconst 4, 1) := by decide +kernel
theorem dL_holds_168 : decode cL_holds 168 = .ok (.irem, 1) := by decide +kernel
theorem dL_holds_169 : decode cL_holds 169 = .ok (.iastore, 1) := by decide +kernel
theorem dL_holds_170 : decode cL_holds 170 = .ok (.aload 5, 2) := by decide +kernel
theorem dL_holds_172 : decode cL_holds 172 = .ok (.iconst 3, 1) := by decide +kernel
theorem dL_holds_173 : decode cL_holds 173 = .ok (.iload 8, 2) := by decide +kernel
theorem dL_holds_175 : decode cL_holds 175 = .ok (.imul, 1) := by decide +kernel
theorem dL_holds_176 : decode cL_holds 176 = .ok (.iconst 1, 1) := by decide +kernel
theorem dL_holds_177 : decode cL_holds 177 = .ok (.iadd, 1) := by decide +kernel
theorem dL_holds_178 : decode cL_holds 178 = .ok (.iconst 1, 1) := by decide +kernel
theorem dL_holds_179 : decode cL_holds 179 = .ok (.iload 15, 2) := by decide +kernel
theorem dL_holds_181 : decode cL_holds 181 = .ok (.iconst 4, 1) := by decide +kernel
theorem dL_holds_182 : decode cL_holds 182 = .ok (.idiv, 1) := by decide +kernel
theorem dL_holds_183 : decode cL_holds 183 = .ok (.sipush 400, 3) := by decide +kernel
theorem dL_holds_186 : decode cL_holds 186 = .ok (.irem, 1) := by decide +kernel
theorem dL_holds_187 : decode cL_holds 187 = .ok (.iadd, 1) := by decide +kernel
theorem dL_holds_188 : decode cL_holds 188 = .ok (.iastore, 1) := by decide +kernel
theorem dL_holds_189 : decode cL_holds 189 = .ok (.aload 5, 2) := by decide +kernel
theorem dL_holds_191 : decode cL_holds 191 = .ok (.iconst 3, 1) := by decide +kernel
theorem dL_holds_192 : decode cL_holds 192 = .ok (.iload 8, 2) := by decide +kernel
theorem dL_holds_194 : decode cL_holds 194 = .ok (.imul, 1) := by decide +kernel
theorem dL_holds_195 : decode cL_holds 195 = .ok (.iconst 2, 1) := by decide +kernel
theorem dL_holds_196 : decode cL_holds 196 = .ok (.iadd, 1) := by decide +kernel
theorem dL_holds_197 : decode cL_holds 197 = .ok (.iconst 1, 1) := by decide +kernel
theorem dL_holds_198 : decode cL_holds 198 = .ok (.iload 15, 2) := by decide +kernel
theorem dL_holds_200 : decode cL_holds 200 = .ok (.iconst 4, 1) := by decide +kernel
theorem dL_holds_201 : decode cL_holds 201 = .ok (.idiv, 1) := by decide +kernel
theorem dL_holds_202 : decode cL_holds 202 = .ok (.sipush 400, 3) := by decide +kernel
theorem dL_holds_205 : decode cL_holds 205 = .ok (.irem, 1) := by decide +kernel
theorem dL_holds_206 : decode cL_holds 206 = .ok (.iadd, 1) := by decide +kernel
theorem dL_holds_207 : decode cL_holds 207 = .ok (.iastore, 1) := by decide +kernel
theorem dL_holds_208 : decode cL_holds 208 = .ok (.aload 6, 2) := by decide +kernel
theorem dL_holds_210 : decode cL_holds 210 = .ok (.iload 8, 2) := by decide +kernel
theorem dL_holds_212 : decode cL_holds 212 = .ok (.iconst (-1), 1) := by decide +kernel
theorem dL_holds_213 : decode cL_holds 213 = .ok (.iastore, 1) := by decide +kernel
theorem dL_holds_214 : decode cL_holds 214 = .ok (.aload_n 1, 1) := by decide +kernel
theorem dL_holds_215 : decode cL_holds 215 = .ok (.iload 15, 2) := by decide +kernel
theorem dL_holds_217 : decode cL_holds 217 = .ok (.iconst 4, 1) := by decide +kernel
theorem dL_holds_218 : decode cL_holds 218 = .ok (.irem, 1) := by decide +kernel
theorem dL_holds_219 : decode cL_holds 219 = .ok (.iconst 1, 1) := by decide +kernel
theorem dL_holds_220 : decode cL_holds 220 = .ok (.iload 15, 2) := by decide +kernel
theorem dL_holds_222 : decode cL_holds 222 = .ok (.iconst 4, 1) := by decide +kernel
theorem dL_holds_223 : decode cL_holds 223 = .ok (.idiv, 1) := by decide +kernel
theorem dL_holds_224 : decode cL_holds 224 = .ok (.sipush 400, 3) := by decide +kernel
theorem dL_holds_227 : decode cL_holds 227 = .ok (.irem, 1) := by decide +kernel
theorem dL_holds_228 : decode cL_holds 228 = .ok (.iadd, 1) := by decide +kernel
theorem dL_holds_229 : decode cL_holds 229 = .ok (.invokevirtual 140, 3) := by decide +kernel
theorem dL_holds_232 : decode cL_holds 232 = .ok (.iload 8, 2) := by decide +kernel
theorem dL_holds_234 : decode cL_holds 234 = .ok (.if_icmp .ne 7, 3) := by decide +kernel
theorem dL_holds_237 : decode cL_holds 237 = .ok (.iconst 1, 1) := by decide +kernel
theorem dL_holds_238 : decode cL_holds 238 = .ok (.goto 4, 3) := by decide +kernel
theorem dL_holds_241 : decode cL_holds 241 = .ok (.iconst 0, 1) := by decide +kernel
theorem dL_holds_242 : decode cL_holds 242 = .ok (.istore 12, 2) := by decide +kernel
theorem dL_holds_244 : decode cL_holds 244 = .ok (.iinc 8 1, 3) := by decide +kernel
theorem dL_holds_247 : decode cL_holds 247 = .ok (.goto 483, 3) := by decide +kernel
theorem dL_holds_250 : decode cL_holds 250 = .ok (.iload 14, 2) := by decide +kernel
theorem dL_holds_252 : decode cL_holds 252 = .ok (.bipush 7, 2) := by decide +kernel
theorem dL_holds_254 : decode cL_holds 254 = .ok (.if_icmp .eq 9, 3) := by decide +kernel
theorem dL_holds_257 : decode cL_holds 257 = .ok (.iload 13, 2) := by decide +kernel
theorem dL_holds_259 : decode cL_holds 259 = .ok (.iconst 2, 1) := by decide +kernel
theorem dL_holds_260 : decode cL_holds 260 = .ok (.if_icmp .ge 117, 3) := by decide +kernel
theorem dL_holds_263 : decode cL_holds 263 = .ok (.aload_n 2, 1) := by decide +kernel
theorem dL_holds_264 : decode cL_holds 264 = .ok (.bipush 8, 2) := by decide +kernel
theorem dL_holds_266 : decode cL_holds 266 = .ok (.iaload, 1) := by decide +kernel
theorem dL_holds_267 : decode cL_holds 267 = .ok (.ifCond .ne 110, 3) := by decide +kernel
theorem dL_holds_270 : decode cL_holds 270 = .ok (.aload_n 2, 1) := by decide +kernel
theorem dL_holds_271 : decode cL_holds 271 = .ok (.bipush 21, 2) := by decide +kernel
theorem dL_holds_273 : decode cL_holds 273 = .ok (.iaload, 1) := by decide +kernel
theorem dL_holds_274 : decode cL_holds 274 = .ok (.bipush 6, 2) := by decide +kernel
theorem dL_holds_276 : decode cL_holds 276 = .ok (.if_icmp .ge 101, 3) := by decide +kernel
theorem dL_holds_279 : decode cL_holds 279 = .ok (.iconst 3, 1) := by decide +kernel
theorem dL_holds_280 : decode cL_holds 280 = .ok (.aload_n 2, 1) := by decide +kernel
theorem dL_holds_281 : decode cL_holds 281 = .ok (.bipush 21, 2) := by decide +kernel
theorem dL_holds_283 : decode cL_holds 283 = .ok (.iaload, 1) := by decide +kernel
theorem dL_holds_284 : decode cL_holds 284 = .ok (.imul, 1) := by decide +kernel
theorem dL_holds_285 : decode cL_holds 285 = .ok (.istore 16, 2) := by decide +kernel
theorem dL_holds_287 : decode cL_holds 287 = .ok (.aload 4, 2) := by decide +kernel
theorem dL_holds_289 : decode cL_holds 289 = .ok (.iload 16, 2) := by decide +kernel
theorem dL_holds_291 : decode cL_holds 291 = .ok (.iload 15, 2) := by decide +kernel
theorem dL_holds_293 : decode cL_holds 293 = .ok (.iconst 4, 1) := by decide +kernel
theorem dL_holds_294 : decode cL_holds 294 = .ok (.irem, 1) := by decide +kernel
theorem dL_holds_295 : decode cL_holds 295 = .ok (.iastore, 1) := by decide +kernel
theorem dL_holds_296 : decode cL_holds 296 = .ok (.aload 4, 2) := by decide +kernel
theorem dL_holds_298 : decode cL_holds 298 = .ok (.iload 16, 2) := by decide +kernel
theorem dL_holds_300 : decode cL_holds 300 = .ok (.iconst 1, 1) := by decide +kernel
theorem dL_holds_301 : decode cL_holds 301 = .ok (.iadd, 1) := by decide +kernel
theorem dL_holds_302 : decode cL_holds 302 = .ok (.iconst 1, 1) := by decide +kernel
theorem dL_holds_303 : decode cL_holds 303 = .ok (.iload 15, 2) := by decide +kernel
theorem dL_holds_305 : decode cL_holds 305 = .ok (.iconst 4, 1) := by decide +kernel
theorem dL_holds_306 : decode cL_holds 306 = .ok (.idiv, 1) := by decide +kernel
theorem dL_holds_307 : decode cL_holds 307 = .ok (.sipush 300, 3) := by decide +kernel
theorem dL_holds_310 : decode cL_holds 310 = .ok (.irem, 1) := by decide +kernel
theorem dL_holds_311 : decode cL_holds 311 = .ok (.iadd, 1) := by decide +kernel
theorem dL_holds_312 : decode cL_holds 312 = .ok (.iastore, 1) := by decide +kernel
theorem dL_holds_313 : decode cL_holds 313 = .ok (.aload 4, 2) := by decide +kernel
theorem dL_holds_315 : decode cL_holds 315 = .ok (.iload 16, 2) := by decide +kernel
theorem dL_holds_317 : decode cL_holds 317 = .ok (.iconst 2, 1) := by decide +kernel
theorem dL_holds_318 : decode cL_holds 318 = .ok (.iadd, 1) := by decide +kernel
theorem dL_holds_319 : decode cL_holds 319 = .ok (.iload 15, 2) := by decide +kernel
theorem dL_holds_321 : decode cL_holds 321 = .ok (.sipush 1200, 3) := by decide +kernel
theorem dL_holds_324 : decode cL_holds 324 = .ok (.idiv, 1) := by decide +kernel
theorem dL_holds_325 : decode cL_holds 325 = .ok (.bipush 20, 2) := by decide +kernel
theorem dL_holds_327 : decode cL_holds 327 = .ok (.irem, 1) := by decide +kernel
theorem dL_holds_328 : decode cL_holds 328 = .ok (.iastore, 1) := by decide +kernel
theorem dL_holds_329 : decode cL_holds 329 = .ok (.aload_n 2, 1) := by decide +kernel
theorem dL_holds_330 : decode cL_holds 330 = .ok (.bipush 21, 2) := by decide +kernel
theorem dL_holds_332 : decode cL_holds 332 = .ok (.dup2, 1) := by decide +kernel
theorem dL_holds_333 : decode cL_holds 333 = .ok (.iaload, 1) := by decide +kernel
theorem dL_holds_334 : decode cL_holds 334 = .ok (.iconst 1, 1) := by decide +kernel
theorem dL_holds_335 : decode cL_holds 335 = .ok (.iadd, 1) := by decide +kernel
theorem dL_holds_336 : decode cL_holds 336 = .ok (.iastore, 1) := by decide +kernel
theorem dL_holds_337 : decode cL_holds 337 = .ok (.aload_n 1, 1) := by decide +kernel
theorem dL_holds_338 : decode cL_holds 338 = .ok (.aload 4, 2) := by decide +kernel
theorem dL_holds_340 : decode cL_holds 340 = .ok (.iload 16, 2) := by decide +kernel
theorem dL_holds_342 : decode cL_holds 342 = .ok (.iaload, 1) := by decide +kernel
theorem dL_holds_343 : decode cL_holds 343 = .ok (.aload 4, 2) := by decide +kernel
theorem dL_holds_345 : decode cL_holds 345 = .ok (.iload 16, 2) := by decide +kernel
theorem dL_holds_347 : decode cL_holds 347 = .ok (.iconst 1, 1) := by decide +kernel
theorem dL_holds_348 : decode cL_holds 348 = .ok (.iadd, 1) := by decide +kernel
theorem dL_holds_349 : decode cL_holds 349 = .ok (.iaload, 1) := by decide +kernel
theorem dL_holds_350 : decode cL_holds 350 = .ok (.aload 4, 2) := by decide +kernel
theorem dL_holds_352 : decode cL_holds 352 = .ok (.iload 16, 2) := by decide +kernel
theorem dL_holds_354 : decode cL_holds 354 = .ok (.iconst 2, 1) := by decide +kernel
theorem dL_holds_355 : decode cL_holds 355 = .ok (.iadd, 1) := by decide +kernel
theorem dL_holds_356 : decode cL_holds 356 = .ok (.iaload, 1) := by decide +kernel
theorem dL_holds_357 : decode cL_holds 357 = .ok (.invokevirtual 143, 3) := by decide +kernel
theorem dL_holds_360 : decode cL_holds 360 = .ok (.aload_n 2, 1) := by decide +kernel
theorem dL_holds_361 : decode cL_holds 361 = .ok (.bipush 21, 2) := by decide +kernel
theorem dL_holds_363 : decode cL_holds 363 = .ok (.iaload, 1) := by decide +kernel
theorem dL_holds_364 : decode cL_holds 364 = .ok (.if_icmp .ne 7, 3) := by decide +kernel
theorem dL_holds_367 : decode cL_holds 367 = .ok (.iconst 1, 1) := by decide +kernel
theorem dL_holds_368 : decode cL_holds 368 = .ok (.goto 4, 3) := by decide +kernel
theorem dL_holds_371 : decode cL_holds 371 = .ok (.iconst 0, 1) := by decide +kernel
theorem dL_holds_372 : decode cL_holds 372 = .ok (.istore 12, 2) := by decide +kernel
theorem dL_holds_374 : decode cL_holds 374 = .ok (.goto 356, 3) := by decide +kernel
theorem dL_holds_377 : decode cL_holds 377 = .ok (.iload 14, 2) := by decide +kernel
theorem dL_holds_379 : decode cL_holds 379 = .ok (.bipush 8, 2) := by decide +kernel
theorem dL_holds_381 : decode cL_holds 381 = .ok (.if_icmp .ne 77, 3) := by decide +kernel
theorem dL_holds_384 : decode cL_holds 384 = .ok (.lload 9, 2) := by decide +kernel
theorem dL_holds_386 : decode cL_holds 386 = .ok (.lconst 1, 1) := by decide +kernel
theorem dL_holds_387 : decode cL_holds 387 = .ok (.iload 15, 2) := by decide +kernel
theorem dL_holds_389 : decode cL_holds 389 = .ok (.sipush 10001, 3) := by decide +kernel
theorem dL_holds_392 : decode cL_holds 392 = .ok (.irem, 1) := by decide +kernel
theorem dL_holds_393 : decode cL_holds 393 = .ok (.i2l, 1) := by decide +kernel
theorem dL_holds_394 : decode cL_holds 394 = .ok (.lmul, 1) := by decide +kernel
theorem dL_holds_395 : decode cL_holds 395 = .ok (.iload 15, 2) := by decide +kernel
theorem dL_holds_397 : decode cL_holds 397 = .ok (.sipush 1001, 3) := by decide +kernel
theorem dL_holds_400 : decode cL_holds 400 = .ok (.irem, 1) := by decide +kernel
theorem dL_holds_401 : decode cL_holds 401 = .ok (.i2l, 1) := by decide +kernel
theorem dL_holds_402 : decode cL_holds 402 = .ok (.lmul, 1) := by decide +kernel
theorem dL_holds_403 : decode cL_holds 403 = .ok (.iconst 1, 1) := by decide +kernel
theorem dL_holds_404 : decode cL_holds 404 = .ok (.iload 15, 2) := by decide +kernel
theorem dL_holds_406 : decode cL_holds 406 = .ok (.bipush 100, 2) := by decide +kernel
theorem dL_holds_408 : decode cL_holds 408 = .ok (.irem, 1) := by decide +kernel
theorem dL_holds_409 : decode cL_holds 409 = .ok (.iadd, 1) := by decide +kernel
theorem dL_holds_410 : decode cL_holds 410 = .ok (.i2l, 1) := by decide +kernel
theorem dL_holds_411 : decode cL_holds 411 = .ok (.lmul, 1) := by decide +kernel
theorem dL_holds_412 : decode cL_holds 412 = .ok (.ladd, 1) := by decide +kernel
theorem dL_holds_413 : decode cL_holds 413 = .ok (.lstore 9, 2) := by decide +kernel
theorem dL_holds_415 : decode cL_holds 415 = .ok (.aload_n 1, 1) := by decide +kernel
theorem dL_holds_416 : decode cL_holds 416 = .ok (.iload 15, 2) := by decide +kernel
theorem dL_holds_418 : decode cL_holds 418 = .ok (.sipush 10001, 3) := by decide +kernel
theorem dL_holds_421 : decode cL_holds 421 = .ok (.irem, 1) := by decide +kernel
theorem dL_holds_422 : decode cL_holds 422 = .ok (.iload 15, 2) := by decide +kernel
theorem dL_holds_424 : decode cL_holds 424 = .ok (.sipush 1001, 3) := by decide +kernel
theorem dL_holds_427 : decode cL_holds 427 = .ok (.irem, 1) := by decide +kernel
theorem dL_holds_428 : decode cL_holds 428 = .ok (.iconst 1, 1) := by decide +kernel
theorem dL_holds_429 : decode cL_holds 429 = .ok (.iload 15, 2) := by decide +kernel
theorem dL_holds_431 : decode cL_holds 431 = .ok (.bipush 100, 2) := by decide +kernel
theorem dL_holds_433 : decode cL_holds 433 = .ok (.irem, 1) := by decide +kernel
theorem dL_holds_434 : decode cL_holds 434 = .ok (.iadd, 1) := by decide +kernel
theorem dL_holds_435 : decode cL_holds 435 = .ok (.invokevirtual 147, 3) := by decide +kernel
theorem dL_holds_438 : decode cL_holds 438 = .ok (.lload 9, 2) := by decide +kernel
theorem dL_holds_440 : decode cL_holds 440 = .ok (.ldc2_w 151, 3) := by decide +kernel
theorem dL_holds_443 : decode cL_holds 443 = .ok (.ldiv, 1) := by decide +kernel
theorem dL_holds_444 : decode cL_holds 444 = .ok (.lcmp, 1) := by decide +kernel
theorem dL_holds_445 : decode cL_holds 445 = .ok (.ifCond .ne 7, 3) := by decide +kernel
theorem dL_holds_448 : decode cL_holds 448 = .ok (.iconst 1, 1) := by decide +kernel
theorem dL_holds_449 : decode cL_holds 449 = .ok (.goto 4, 3) := by decide +kernel
theorem dL_holds_452 : decode cL_holds 452 = .ok (.iconst 0, 1) := by decide +kernel
theorem dL_holds_453 : decode cL_holds 453 = .ok (.istore 12, 2) := by decide +kernel
theorem dL_holds_455 : decode cL_holds 455 = .ok (.goto 275, 3) := by decide +kernel
theorem dL_holds_458 : decode cL_holds 458 = .ok (.iload 14, 2) := by decide +kernel
theorem dL_holds_460 : decode cL_holds 460 = .ok (.bipush 6, 2) := by decide +kernel
theorem dL_holds_462 : decode cL_holds 462 = .ok (.if_icmp .lt 17, 3) := by decide +kernel
theorem dL_holds_465 : decode cL_holds 465 = .ok (.iload 14, 2) := by decide +kernel
theorem dL_holds_467 : decode cL_holds 467 = .ok (.bipush 14, 2) := by decide +kernel
theorem dL_holds_469 : decode cL_holds 469 = .ok (.if_icmp .ge 35, 3) := by decide +kernel
theorem dL_holds_472 : decode cL_holds 472 = .ok (.aload_n 2, 1) := by decide +kernel
theorem dL_holds_473 : decode cL_holds 473 = .ok (.bipush 8, 2) := by decide +kernel
theorem dL_holds_475 : decode cL_holds 475 = .ok (.iaload, 1) := by decide +kernel
theorem dL_holds_476 : decode cL_holds 476 = .ok (.ifCond .ne 28, 3) := by decide +kernel
theorem dL_holds_479 : decode cL_holds 479 = .ok (.aload_n 1, 1) := by decide +kernel
theorem dL_holds_480 : decode cL_holds 480 = .ok (.aload_n 2, 1) := by decide +kernel
theorem dL_holds_481 : decode cL_holds 481 = .ok (.aload_n 3, 1) := by decide +kernel
theorem dL_holds_482 : decode cL_holds 482 = .ok (.aload 4, 2) := by decide +kernel
theorem dL_holds_484 : decode cL_holds 484 = .ok (.aload 5, 2) := by decide +kernel
theorem dL_holds_486 : decode cL_holds 486 = .ok (.aload 6, 2) := by decide +kernel
theorem dL_holds_488 : decode cL_holds 488 = .ok (.aload 7, 2) := by decide +kernel
theorem dL_holds_490 : decode cL_holds 490 = .ok (.iload 8, 2) := by decide +kernel
theorem dL_holds_492 : decode cL_holds 492 = .ok (.iload 14, 2) := by decide +kernel
theorem dL_holds_494 : decode cL_holds 494 = .ok (.iload 15, 2) := by decide +kernel
theorem dL_holds_496 : decode cL_holds 496 = .ok (.invokestatic 153, 3) := by decide +kernel
theorem dL_holds_499 : decode cL_holds 499 = .ok (.istore 12, 2) := by decide +kernel
theorem dL_holds_501 : decode cL_holds 501 = .ok (.goto 229, 3) := by decide +kernel
theorem dL_holds_504 : decode cL_holds 504 = .ok (.aload_n 2, 1) := by decide +kernel
theorem dL_holds_505 : decode cL_holds 505 = .ok (.bipush 8, 2) := by decide +kernel
theorem dL_holds_507 : decode cL_holds 507 = .ok (.iaload, 1) := by decide +kernel
theorem dL_holds_508 : decode cL_holds 508 = .ok (.iconst 2, 1) := by decide +kernel
theorem dL_holds_509 : decode cL_holds 509 = .ok (.if_icmp .ne 14, 3) := by decide +kernel
theorem dL_holds_512 : decode cL_holds 512 = .ok (.bipush 9, 2) := by decide +kernel
theorem dL_holds_514 : decode cL_holds 514 = .ok (.iload 15, 2) := by decide +kernel
theorem dL_holds_516 : decode cL_holds 516 = .ok (.bipush 30, 2) := by decide +kernel
theorem dL_holds_518 : decode cL_holds 518 = .ok (.irem, 1) := by decide +kernel
theorem dL_holds_519 : decode cL_holds 519 = .ok (.iadd, 1) := by decide +kernel
theorem dL_holds_520 : decode cL_holds 520 = .ok (.goto 28, 3) := by decide +kernel
theorem dL_holds_523 : decode cL_holds 523 = .ok (.aload_n 2, 1) := by decide +kernel
theorem dL_holds_524 : decode cL_holds 524 = .ok (.bipush 8, 2) := by decide +kernel
theorem dL_holds_526 : decode cL_holds 526 = .ok (.iaload, 1) := by decide +kernel
theorem dL_holds_527 : decode cL_holds 527 = .ok (.iconst 3, 1) := by decide +kernel
theorem dL_holds_528 : decode cL_holds 528 = .ok (.if_icmp .eq 11, 3) := by decide +kernel
theorem dL_holds_531 : decode cL_holds 531 = .ok (.aload_n 2, 1) := by decide +kernel
theorem dL_holds_532 : decode cL_holds 532 = .ok (.bipush 8, 2) := by decide +kernel
theorem dL_holds_534 : decode cL_holds 534 = .ok (.iaload, 1) := by decide +kernel
theorem dL_holds_535 : decode cL_holds 535 = .ok (.iconst 5, 1) := by decide +kernel
theorem dL_holds_536 : decode cL_holds 536 = .ok (.if_icmp .ne 11, 3) := by decide +kernel
theorem dL_holds_539 : decode cL_holds 539 = .ok (.iload 15, 2) := by decide +kernel
theorem dL_holds_541 : decode cL_holds 541 = .ok (.bipush 9, 2) := by decide +kernel
theorem dL_holds_543 : decode cL_holds 543 = .ok (.irem, 1) := by decide +kernel
theorem dL_holds_544 : decode cL_holds 544 = .ok (.goto 4, 3) := by decide +kernel
theorem dL_holds_547 : decode cL_holds 547 = .ok (.iconst 0, 1) := by decide +kernel
theorem dL_holds_548 : decode cL_holds 548 = .ok (.istore 16, 2) := by decide +kernel
theorem dL_holds_550 : decode cL_holds 550 = .ok (.iload 11, 2) := by decide +kernel
theorem dL_holds_552 : decode cL_holds 552 = .ok (.iload 16, 2) := by decide +kernel
theorem dL_holds_554 : decode cL_holds 554 = .ok (.iload 15, 2) := by decide +kernel
theorem dL_holds_556 : decode cL_holds 556 = .ok (.sipush 300, 3) := by decide +kernel
theorem dL_holds_559 : decode cL_holds 559 = .ok (.idiv, 1) := by decide +kernel
theorem dL_holds_560 : decode cL_holds 560 = .ok (.iconst 5, 1) := by decide +kernel
theorem dL_holds_561 : decode cL_holds 561 = .ok (.irem, 1) := by decide +kernel
theorem dL_holds_562 : decode cL_holds 562 = .ok (.ifCond .ne 16, 3) := by decide +kernel
theorem dL_holds_565 : decode cL_holds 565 = .ok (.iload 15, 2) := by decide +kernel
theorem dL_holds_567 : decode cL_holds 567 = .ok (.sipush 1500, 3) := by decide +kernel
theorem dL_holds_570 : decode cL_holds 570 = .ok (.idiv, 1) := by decide +kernel
theorem dL_holds_571 : decode cL_holds 571 = .ok (.iconst 5, 1) := by decide +kernel
theorem dL_holds_572 : decode cL_holds 572 = .ok (.irem, 1) := by decide +kernel
theorem dL_holds_573 : decode cL_holds 573 = .ok (.iconst 2, 1) := by decide +kernel
theorem dL_holds_574 : decode cL_holds 574 = .ok (.isub, 1) := by decide +kernel
theorem dL_holds_575 : decode cL_holds 575 = .ok (.goto 4, 3) := by decide +kernel
theorem dL_holds_578 : decode cL_holds 578 = .ok (.iconst 0, 1) := by decide +kernel
theorem dL_holds_579 : decode cL_holds 579 = .ok (.iadd, 1) := by decide +kernel
theorem dL_holds_580 : decode cL_holds 580 = .ok (.aload_n 2, 1) := by decide +kernel
theorem dL_holds_581 : decode cL_holds 581 = .ok (.bipush 8, 2) := by decide +kernel
theorem dL_holds_583 : decode cL_holds 583 = .ok (.iaload, 1) := by decide +kernel
theorem dL_holds_584 : decode cL_holds 584 = .ok (.ifCond .ne 16, 3) := by decide +kernel
theorem dL_holds_587 : decode cL_holds 587 = .ok (.iload 15, 2) := by decide +kernel
theorem dL_holds_589 : decode cL_holds 589 = .ok (.bipush 50, 2) := by decide +kernel
theorem dL_holds_591 : decode cL_holds 591 = .ok (.irem, 1) := by decide +kernel
theorem dL_holds_592 : decode cL_holds 592 = .ok (.ifCond .ne 8, 3) := by decide +kernel
theorem dL_holds_595 : decode cL_holds 595 = .ok (.iload 11, 2) := by decide +kernel
theorem dL_holds_597 : decode cL_holds 597 = .ok (.goto 4, 3) := by decide +kernel
theorem dL_holds_600 : decode cL_holds 600 = .ok (.iconst 0, 1) := by decide +kernel
theorem dL_holds_601 : decode cL_holds 601 = .ok (.isub, 1) := by decide +kernel
theorem dL_holds_602 : decode cL_holds 602 = .ok (.iadd, 1) := by decide +kernel
theorem dL_holds_603 : decode cL_holds 603 = .ok (.istore 11, 2) := by decide +kernel
theorem dL_holds_605 : decode cL_holds 605 = .ok (.aload_n 2, 1) := by decide +kernel
theorem dL_holds_606 : decode cL_holds 606 = .ok (.bipush 8, 2) := by decide +kernel
theorem dL_holds_608 : decode cL_holds 608 = .ok (.iaload, 1) := by decide +kernel
theorem dL_holds_609 : decode cL_holds 609 = .ok (.iconst 4, 1) := by decide +kernel
theorem dL_holds_610 : decode cL_holds 610 = .ok (.if_icmp .eq 11, 3) := by decide +kernel
theorem dL_holds_613 : decode cL_holds 613 = .ok (.aload_n 2, 1) := by decide +kernel
theorem dL_holds_614 : decode cL_holds 614 = .ok (.bipush 8, 2) := by decide +kernel
theorem dL_holds_616 : decode cL_holds 616 = .ok (.iaload, 1) := by decide +kernel
theorem dL_holds_617 : decode cL_holds 617 = .ok (.iconst 1, 1) := by decide +kernel
theorem dL_holds_618 : decode cL_holds 618 = .ok (.if_icmp .ne 12, 3) := by decide +kernel
theorem dL_holds_621 : decode cL_holds 621 = .ok (.iconst 1, 1) := by decide +kernel
theorem dL_holds_622 : decode cL_holds 622 = .ok (.iload 15, 2) := by decide +kernel
theorem dL_holds_624 : decode cL_holds 624 = .ok (.iconst 4, 1) := by decide +kernel
theorem dL_holds_625 : decode cL_holds 625 = .ok (.irem, 1) := by decide +kernel
theorem dL_holds_626 : decode cL_holds 626 = .ok (.iadd, 1) := by decide +kernel
theorem dL_holds_627 : decode cL_holds 627 = .ok (.goto 31, 3) := by decide +kernel
theorem dL_holds_630 : decode cL_holds 630 = .ok (.iload 14, 2) := by decide +kernel
theorem dL_holds_632 : decode cL_holds 632 = .ok (.bipush 10, 2) := by decide +kernel
theorem dL_holds_634 : decode cL_holds 634 = .ok (.irem, 1) := by decide +kernel
theorem dL_holds_635 : decode cL_holds 635 = .ok (.bipush 9, 2) := by decide +kernel
theorem dL_holds_637 : decode cL_holds 637 = .ok (.if_icmp .ne 20, 3) := by decide +kernel
theorem dL_holds_640 : decode cL_holds 640 = .ok (.iload 15, 2) := by decide +kernel
theorem dL_holds_642 : decode cL_holds 642 = .ok (.iconst 3, 1) := by decide +kernel
theorem dL_holds_643 : decode cL_holds 643 = .ok (.irem, 1) := by decide +kernel
theorem dL_holds_644 : decode cL_holds 644 = .ok (.ifCond .ne 13, 3) := by decide +kernel
theorem dL_holds_647 : decode cL_holds 647 = .ok (.iconst 1, 1) := by decide +kernel
theorem dL_holds_648 : decode cL_holds 648 = .ok (.iload 15, 2) := by decide +kernel
theorem dL_holds_650 : decode cL_holds 650 = .ok (.bipush 24, 2) := by decide +kernel
theorem dL_holds_652 : decode cL_holds 652 = .ok (.irem, 1) := by decide +kernel
theorem dL_holds_653 : decode cL_holds 653 = .ok (.iadd, 1) := by decide +kernel
theorem dL_holds_654 : decode cL_holds 654 = .ok (.goto 4, 3) := by decide +kernel
theorem dL_holds_657 : decode cL_holds 657 = .ok (.iconst 1, 1) := by decide +kernel
theorem dL_holds_658 : decode cL_holds 658 = .ok (.istore 17, 2) := by decide +kernel
theorem dL_holds_660 : decode cL_holds 660 = .ok (.iconst 0, 1) := by decide +kernel
theorem dL_holds_661 : decode cL_holds 661 = .ok (.istore 18, 2) := by decide +kernel
theorem dL_holds_663 : decode cL_holds 663 = .ok (.iload 18, 2) := by decide +kernel
theorem dL_holds_665 : decode cL_holds 665 = .ok (.iload 17, 2) := by decide +kernel
theorem dL_holds_667 : decode cL_holds 667 = .ok (.if_icmp .ge 26, 3) := by decide +kernel
theorem dL_holds_670 : decode cL_holds 670 = .ok (.aload_n 2, 1) := by decide +kernel
theorem dL_holds_671 : decode cL_holds 671 = .ok (.aload_n 3, 1) := by decide +kernel
theorem dL_holds_672 : decode cL_holds 672 = .ok (.aload 4, 2) := by decide +kernel
theorem dL_holds_674 : decode cL_holds 674 = .ok (.aload 5, 2) := by decide +kernel
theorem dL_holds_676 : decode cL_holds 676 = .ok (.aload 6, 2) := by decide +kernel
theorem dL_holds_678 : decode cL_holds 678 = .ok (.aload 7, 2) := by decide +kernel
theorem dL_holds_680 : decode cL_holds 680 = .ok (.iload 8, 2) := by decide +kernel
theorem dL_holds_682 : decode cL_holds 682 = .ok (.iload 11, 2) := by decide +kernel
theorem dL_holds_684 : decode cL_holds 684 = .ok (.invokestatic 157, 3) := by decide +kernel
theorem dL_holds_687 : decode cL_holds 687 = .ok (.iinc 18 1, 3) := by decide +kernel
theorem dL_holds_690 : decode cL_holds 690 = .ok (.goto (-27), 3) := by decide +kernel
theorem dL_holds_693 : decode cL_holds 693 = .ok (.iload 17, 2) := by decide +kernel
theorem dL_holds_695 : decode cL_holds 695 = .ok (.iconst 1, 1) := by decide +kernel
theorem dL_holds_696 : decode cL_holds 696 = .ok (.if_icmp .ne 12, 3) := by decide +kernel
theorem dL_holds_699 : decode cL_holds 699 = .ok (.aload_n 1, 1) := by decide +kernel
theorem dL_holds_700 : decode cL_holds 700 = .ok (.iload 11, 2) := by decide +kernel
theorem dL_holds_702 : decode cL_holds 702 = .ok (.invokevirtual 161, 3) := by decide +kernel
theorem dL_holds_705 : decode cL_holds 705 = .ok (.goto 11, 3) := by decide +kernel
theorem dL_holds_708 : decode cL_holds 708 = .ok (.aload_n 1, 1) := by decide +kernel
theorem dL_holds_709 : decode cL_holds 709 = .ok (.iload 11, 2) := by decide +kernel
theorem dL_holds_711 : decode cL_holds 711 = .ok (.iload 17, 2) := by decide +kernel
theorem dL_holds_713 : decode cL_holds 713 = .ok (.invokevirtual 164, 3) := by decide +kernel
theorem dL_holds_716 : decode cL_holds 716 = .ok (.aload_n 2, 1) := by decide +kernel
theorem dL_holds_717 : decode cL_holds 717 = .ok (.bipush 8, 2) := by decide +kernel
theorem dL_holds_719 : decode cL_holds 719 = .ok (.iaload, 1) := by decide +kernel
theorem dL_holds_720 : decode cL_holds 720 = .ok (.if_icmp .ne 7, 3) := by decide +kernel
theorem dL_holds_723 : decode cL_holds 723 = .ok (.iconst 1, 1) := by decide +kernel
theorem dL_holds_724 : decode cL_holds 724 = .ok (.goto 4, 3) := by decide +kernel
theorem dL_holds_727 : decode cL_holds 727 = .ok (.iconst 0, 1) := by decide +kernel
theorem dL_holds_728 : decode cL_holds 728 = .ok (.istore 12, 2) := by decide +kernel
theorem dL_holds_730 : decode cL_holds 730 = .ok (.iload 12, 2) := by decide +kernel
theorem dL_holds_732 : decode cL_holds 732 = .ok (.ifCond .eq 26, 3) := by decide +kernel
theorem dL_holds_735 : decode cL_holds 735 = .ok (.aload_n 1, 1) := by decide +kernel
theorem dL_holds_736 : decode cL_holds 736 = .ok (.aload_n 2, 1) := by decide +kernel
theorem dL_holds_737 : decode cL_holds 737 = .ok (.aload_n 3, 1) := by decide +kernel
theorem dL_holds_738 : decode cL_holds 738 = .ok (.aload 4, 2) := by decide +kernel
theorem dL_holds_740 : decode cL_holds 740 = .ok (.aload 5, 2) := by decide +kernel
theorem dL_holds_742 : decode cL_holds 742 = .ok (.aload 6, 2) := by decide +kernel
theorem dL_holds_744 : decode cL_holds 744 = .ok (.aload 7, 2) := by decide +kernel
theorem dL_holds_746 : decode cL_holds 746 = .ok (.iload 8, 2) := by decide +kernel
theorem dL_holds_748 : decode cL_holds 748 = .ok (.invokestatic 167, 3) := by decide +kernel
theorem dL_holds_751 : decode cL_holds 751 = .ok (.ifCond .eq 7, 3) := by decide +kernel
theorem dL_holds_754 : decode cL_holds 754 = .ok (.iconst 1, 1) := by decide +kernel
theorem dL_holds_755 : decode cL_holds 755 = .ok (.goto 4, 3) := by decide +kernel
theorem dL_holds_758 : decode cL_holds 758 = .ok (.iconst 0, 1) := by decide +kernel
theorem dL_holds_759 : decode cL_holds 759 = .ok (.istore 12, 2) := by decide +kernel
theorem dL_holds_761 : decode cL_holds 761 = .ok (.iinc 13 1, 3) := by decide +kernel
theorem dL_holds_764 : decode cL_holds 764 = .ok (.goto (-660), 3) := by decide +kernel
theorem dL_holds_767 : decode cL_holds 767 = .ok (.iload 12, 2) := by decide +kernel
theorem dL_holds_769 : decode cL_holds 769 = .ok (.ireturn, 1) := by decide +kernel
theorem dL_isHeld_0 : decode cL_isHeld 0 = .ok (.aload_n 0, 1) := by decide +kernel
theorem dL_isHeld_1 : decode cL_isHeld 1 = .ok (.invokestatic 171, 3) := by decide +kernel
theorem dL_isHeld_4 : decode cL_isHeld 4 = .ok (.ireturn, 1) := by decide +kernel
theorem dL_isHeld_5 : decode cL_isHeld 5 = .ok (.astore_n 1, 1) := by decide +kernel
theorem dL_isHeld_6 : decode cL_isHeld 6 = .ok (.iconst 0, 1) := by decide +kernel
theorem dL_isHeld_7 : decode cL_isHeld 7 = .ok (.ireturn, 1) := by decide +kernel
theorem dL_isHeld_8 : decode cL_isHeld 8 = .ok (.astore_n 1, 1) := by decide +kernel
theorem dL_isHeld_9 : decode cL_isHeld 9 = .ok (.iconst 0, 1) := by decide +kernel
theorem dL_isHeld_10 : decode cL_isHeld 10 = .ok (.ireturn, 1) := by decide +kernel
theorem dL_isHeld_11 : decode cL_isHeld 11 = .ok (.astore_n 1, 1) := by decide +kernel
theorem dL_isHeld_12 : decode cL_isHeld 12 = .ok (.iconst 0, 1) := by decide +kernel
theorem dL_isHeld_13 : decode cL_isHeld 13 = .ok (.ireturn, 1) := by decide +kernel
theorem dL_law_0 : decode cL_law 0 = .ok (.aload_n 0, 1) := by decide +kernel
theorem dL_law_1 : decode cL_law 1 = .ok (.invokestatic 178, 3) := by decide +kernel
theorem dL_law_4 : decode cL_law 4 = .ok (.ireturn, 1) := by decide +kernel
