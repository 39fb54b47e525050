theorem dX10_answer_123 : decode cX10_answer 123 = .ok (.iload_n 3, 1) := by decide +kernel
theorem dX10_answer_124 : decode cX10_answer 124 = .ok (.ifCond .ne 61, 3) := by decide +kernel
theorem dX10_answer_127 : decode cX10_answer 127 = .ok (.aload_n 0, 1) := by decide +kernel
theorem dX10_answer_128 : decode cX10_answer 128 = .ok (.getfield 28, 3) := by decide +kernel
theorem dX10_answer_131 : decode cX10_answer 131 = .ok (.iload_n 1, 1) := by decide +kernel
theorem dX10_answer_132 : decode cX10_answer 132 = .ok (.iaload, 1) := by decide +kernel
theorem dX10_answer_133 : decode cX10_answer 133 = .ok (.bipush 16, 2) := by decide +kernel
theorem dX10_answer_135 : decode cX10_answer 135 = .ok (.if_icmp .ge 68, 3) := by decide +kernel
theorem dX10_answer_138 : decode cX10_answer 138 = .ok (.aload_n 0, 1) := by decide +kernel
theorem dX10_answer_139 : decode cX10_answer 139 = .ok (.iload_n 1, 1) := by decide +kernel
theorem dX10_answer_140 : decode cX10_answer 140 = .ok (.aload_n 0, 1) := by decide +kernel
theorem dX10_answer_141 : decode cX10_answer 141 = .ok (.getfield 50, 3) := by decide +kernel
theorem dX10_answer_144 : decode cX10_answer 144 = .ok (.iload_n 2, 1) := by decide +kernel
theorem dX10_answer_145 : decode cX10_answer 145 = .ok (.iconst 4, 1) := by decide +kernel
theorem dX10_answer_146 : decode cX10_answer 146 = .ok (.iadd, 1) := by decide +kernel
theorem dX10_answer_147 : decode cX10_answer 147 = .ok (.iaload, 1) := by decide +kernel
theorem dX10_answer_148 : decode cX10_answer 148 = .ok (.aload_n 0, 1) := by decide +kernel
theorem dX10_answer_149 : decode cX10_answer 149 = .ok (.getfield 77, 3) := by decide +kernel
theorem dX10_answer_152 : decode cX10_answer 152 = .ok (.iconst 4, 1) := by decide +kernel
theorem dX10_answer_153 : decode cX10_answer 153 = .ok (.iaload, 1) := by decide +kernel
theorem dX10_answer_154 : decode cX10_answer 154 = .ok (.aload_n 0, 1) := by decide +kernel
theorem dX10_answer_155 : decode cX10_answer 155 = .ok (.getfield 77, 3) := by decide +kernel
theorem dX10_answer_158 : decode cX10_answer 158 = .ok (.bipush 9, 2) := by decide +kernel
theorem dX10_answer_160 : decode cX10_answer 160 = .ok (.iaload, 1) := by decide +kernel
theorem dX10_answer_161 : decode cX10_answer 161 = .ok (.aload_n 0, 1) := by decide +kernel
theorem dX10_answer_162 : decode cX10_answer 162 = .ok (.getfield 77, 3) := by decide +kernel
theorem dX10_answer_165 : decode cX10_answer 165 = .ok (.bipush 7, 2) := by decide +kernel
theorem dX10_answer_167 : decode cX10_answer 167 = .ok (.iaload, 1) := by decide +kernel
theorem dX10_answer_168 : decode cX10_answer 168 = .ok (.aload_n 0, 1) := by decide +kernel
theorem dX10_answer_169 : decode cX10_answer 169 = .ok (.getfield 77, 3) := by decide +kernel
theorem dX10_answer_172 : decode cX10_answer 172 = .ok (.bipush 8, 2) := by decide +kernel
theorem dX10_answer_174 : decode cX10_answer 174 = .ok (.iaload, 1) := by decide +kernel
theorem dX10_answer_175 : decode cX10_answer 175 = .ok (.iconst 0, 1) := by decide +kernel
theorem dX10_answer_176 : decode cX10_answer 176 = .ok (.iconst 1, 1) := by decide +kernel
theorem dX10_answer_177 : decode cX10_answer 177 = .ok (.iload 4, 2) := by decide +kernel
theorem dX10_answer_179 : decode cX10_answer 179 = .ok (.invokevirtual 152, 3) := by decide +kernel
theorem dX10_answer_182 : decode cX10_answer 182 = .ok (.goto 21, 3) := by decide +kernel
theorem dX10_answer_185 : decode cX10_answer 185 = .ok (.aload_n 0, 1) := by decide +kernel
theorem dX10_answer_186 : decode cX10_answer 186 = .ok (.getfield 77, 3) := by decide +kernel
theorem dX10_answer_189 : decode cX10_answer 189 = .ok (.iconst 3, 1) := by decide +kernel
theorem dX10_answer_190 : decode cX10_answer 190 = .ok (.iaload, 1) := by decide +kernel
theorem dX10_answer_191 : decode cX10_answer 191 = .ok (.iconst 1, 1) := by decide +kernel
theorem dX10_answer_192 : decode cX10_answer 192 = .ok (.if_icmp .ne 11, 3) := by decide +kernel
theorem dX10_answer_195 : decode cX10_answer 195 = .ok (.aload_n 0, 1) := by decide +kernel
theorem dX10_answer_196 : decode cX10_answer 196 = .ok (.iload_n 1, 1) := by decide +kernel
theorem dX10_answer_197 : decode cX10_answer 197 = .ok (.iload_n 2, 1) := by decide +kernel
theorem dX10_answer_198 : decode cX10_answer 198 = .ok (.iload 4, 2) := by decide +kernel
theorem dX10_answer_200 : decode cX10_answer 200 = .ok (.invokevirtual 159, 3) := by decide +kernel
theorem dX10_answer_203 : decode cX10_answer 203 = .ok (.iconst 3, 1) := by decide +kernel
theorem dX10_answer_204 : decode cX10_answer 204 = .ok (.ireturn, 1) := by decide +kernel
theorem dX10_renewed_0 : decode cX10_renewed 0 = .ok (.aload_n 0, 1) := by decide +kernel
theorem dX10_renewed_1 : decode cX10_renewed 1 = .ok (.getfield 50, 3) := by decide +kernel
theorem dX10_renewed_4 : decode cX10_renewed 4 = .ok (.iload_n 2, 1) := by decide +kernel
theorem dX10_renewed_5 : decode cX10_renewed 5 = .ok (.bipush 6, 2) := by decide +kernel
theorem dX10_renewed_7 : decode cX10_renewed 7 = .ok (.iadd, 1) := by decide +kernel
theorem dX10_renewed_8 : decode cX10_renewed 8 = .ok (.iaload, 1) := by decide +kernel
theorem dX10_renewed_9 : decode cX10_renewed 9 = .ok (.istore 4, 2) := by decide +kernel
theorem dX10_renewed_11 : decode cX10_renewed 11 = .ok (.aload_n 0, 1) := by decide +kernel
theorem dX10_renewed_12 : decode cX10_renewed 12 = .ok (.iload_n 1, 1) := by decide +kernel
theorem dX10_renewed_13 : decode cX10_renewed 13 = .ok (.iload 4, 2) := by decide +kernel
theorem dX10_renewed_15 : decode cX10_renewed 15 = .ok (.iconst 0, 1) := by decide +kernel
theorem dX10_renewed_16 : decode cX10_renewed 16 = .ok (.invokevirtual 156, 3) := by decide +kernel
theorem dX10_renewed_19 : decode cX10_renewed 19 = .ok (.istore 5, 2) := by decide +kernel
theorem dX10_renewed_21 : decode cX10_renewed 21 = .ok (.aload_n 0, 1) := by decide +kernel
theorem dX10_renewed_22 : decode cX10_renewed 22 = .ok (.getfield 28, 3) := by decide +kernel
theorem dX10_renewed_25 : decode cX10_renewed 25 = .ok (.iload_n 1, 1) := by decide +kernel
theorem dX10_renewed_26 : decode cX10_renewed 26 = .ok (.iaload, 1) := by decide +kernel
theorem dX10_renewed_27 : decode cX10_renewed 27 = .ok (.bipush 16, 2) := by decide +kernel
theorem dX10_renewed_29 : decode cX10_renewed 29 = .ok (.if_icmp .ge 53, 3) := by decide +kernel
theorem dX10_renewed_32 : decode cX10_renewed 32 = .ok (.aload_n 0, 1) := by decide +kernel
theorem dX10_renewed_33 : decode cX10_renewed 33 = .ok (.iload_n 1, 1) := by decide +kernel
theorem dX10_renewed_34 : decode cX10_renewed 34 = .ok (.aload_n 0, 1) := by decide +kernel
theorem dX10_renewed_35 : decode cX10_renewed 35 = .ok (.getfield 50, 3) := by decide +kernel
theorem dX10_renewed_38 : decode cX10_renewed 38 = .ok (.iload_n 2, 1) := by decide +kernel
theorem dX10_renewed_39 : decode cX10_renewed 39 = .ok (.iconst 4, 1) := by decide +kernel
theorem dX10_renewed_40 : decode cX10_renewed 40 = .ok (.iadd, 1) := by decide +kernel
theorem dX10_renewed_41 : decode cX10_renewed 41 = .ok (.iaload, 1) := by decide +kernel
theorem dX10_renewed_42 : decode cX10_renewed 42 = .ok (.aload_n 0, 1) := by decide +kernel
theorem dX10_renewed_43 : decode cX10_renewed 43 = .ok (.getfield 77, 3) := by decide +kernel
theorem dX10_renewed_46 : decode cX10_renewed 46 = .ok (.iconst 4, 1) := by decide +kernel
theorem dX10_renewed_47 : decode cX10_renewed 47 = .ok (.iaload, 1) := by decide +kernel
theorem dX10_renewed_48 : decode cX10_renewed 48 = .ok (.aload_n 0, 1) := by decide +kernel
theorem dX10_renewed_49 : decode cX10_renewed 49 = .ok (.getfield 50, 3) := by decide +kernel
theorem dX10_renewed_52 : decode cX10_renewed 52 = .ok (.iload_n 2, 1) := by decide +kernel
theorem dX10_renewed_53 : decode cX10_renewed 53 = .ok (.bipush 9, 2) := by decide +kernel
theorem dX10_renewed_55 : decode cX10_renewed 55 = .ok (.iadd, 1) := by decide +kernel
theorem dX10_renewed_56 : decode cX10_renewed 56 = .ok (.iaload, 1) := by decide +kernel
theorem dX10_renewed_57 : decode cX10_renewed 57 = .ok (.aload_n 0, 1) := by decide +kernel
theorem dX10_renewed_58 : decode cX10_renewed 58 = .ok (.getfield 50, 3) := by decide +kernel
theorem dX10_renewed_61 : decode cX10_renewed 61 = .ok (.iload_n 2, 1) := by decide +kernel
theorem dX10_renewed_62 : decode cX10_renewed 62 = .ok (.bipush 7, 2) := by decide +kernel
theorem dX10_renewed_64 : decode cX10_renewed 64 = .ok (.iadd, 1) := by decide +kernel
theorem dX10_renewed_65 : decode cX10_renewed 65 = .ok (.iaload, 1) := by decide +kernel
theorem dX10_renewed_66 : decode cX10_renewed 66 = .ok (.aload_n 0, 1) := by decide +kernel
theorem dX10_renewed_67 : decode cX10_renewed 67 = .ok (.getfield 50, 3) := by decide +kernel
theorem dX10_renewed_70 : decode cX10_renewed 70 = .ok (.iload_n 2, 1) := by decide +kernel
theorem dX10_renewed_71 : decode cX10_renewed 71 = .ok (.bipush 8, 2) := by decide +kernel
theorem dX10_renewed_73 : decode cX10_renewed 73 = .ok (.iadd, 1) := by decide +kernel
theorem dX10_renewed_74 : decode cX10_renewed 74 = .ok (.iaload, 1) := by decide +kernel
theorem dX10_renewed_75 : decode cX10_renewed 75 = .ok (.iload 4, 2) := by decide +kernel
theorem dX10_renewed_77 : decode cX10_renewed 77 = .ok (.iconst 1, 1) := by decide +kernel
theorem dX10_renewed_78 : decode cX10_renewed 78 = .ok (.iload_n 3, 1) := by decide +kernel
theorem dX10_renewed_79 : decode cX10_renewed 79 = .ok (.invokevirtual 152, 3) := by decide +kernel
theorem dX10_renewed_82 : decode cX10_renewed 82 = .ok (.iload 5, 2) := by decide +kernel
theorem dX10_renewed_84 : decode cX10_renewed 84 = .ok (.ifCond .lt 37, 3) := by decide +kernel
theorem dX10_renewed_87 : decode cX10_renewed 87 = .ok (.iload_n 3, 1) := by decide +kernel
theorem dX10_renewed_88 : decode cX10_renewed 88 = .ok (.aload_n 0, 1) := by decide +kernel
theorem dX10_renewed_89 : decode cX10_renewed 89 = .ok (.iload_n 1, 1) := by decide +kernel
theorem dX10_renewed_90 : decode cX10_renewed 90 = .ok (.iload 5, 2) := by decide +kernel
theorem dX10_renewed_92 : decode cX10_renewed 92 = .ok (.bipush 7, 2) := by decide +kernel
theorem dX10_renewed_94 : decode cX10_renewed 94 = .ok (.invokevirtual 96, 3) := by decide +kernel
theorem dX10_renewed_97 : decode cX10_renewed 97 = .ok (.if_icmp .lt 20, 3) := by decide +kernel
theorem dX10_renewed_100 : decode cX10_renewed 100 = .ok (.iload_n 3, 1) := by decide +kernel
theorem dX10_renewed_101 : decode cX10_renewed 101 = .ok (.aload_n 0, 1) := by decide +kernel
theorem dX10_renewed_102 : decode cX10_renewed 102 = .ok (.iload_n 1, 1) := by decide +kernel
theorem dX10_renewed_103 : decode cX10_renewed 103 = .ok (.iload 5, 2) := by decide +kernel
theorem dX10_renewed_105 : decode cX10_renewed 105 = .ok (.bipush 7, 2) := by decide +kernel
theorem dX10_renewed_107 : decode cX10_renewed 107 = .ok (.invokevirtual 96, 3) := by decide +kernel
theorem dX10_renewed_110 : decode cX10_renewed 110 = .ok (.if_icmp .ne 11, 3) := by decide +kernel
theorem dX10_renewed_113 : decode cX10_renewed 113 = .ok (.iload_n 1, 1) := by decide +kernel
theorem dX10_renewed_114 : decode cX10_renewed 114 = .ok (.ifCond .ne 7, 3) := by decide +kernel
theorem dX10_renewed_117 : decode cX10_renewed 117 = .ok (.iconst 1, 1) := by decide +kernel
theorem dX10_renewed_118 : decode cX10_renewed 118 = .ok (.goto 4, 3) := by decide +kernel
theorem dX10_renewed_121 : decode cX10_renewed 121 = .ok (.iconst 0, 1) := by decide +kernel
theorem dX10_renewed_122 : decode cX10_renewed 122 = .ok (.istore 6, 2) := by decide +kernel
theorem dX10_renewed_124 : decode cX10_renewed 124 = .ok (.aload_n 0, 1) := by decide +kernel
theorem dX10_renewed_125 : decode cX10_renewed 125 = .ok (.iload_n 1, 1) := by decide +kernel
theorem dX10_renewed_126 : decode cX10_renewed 126 = .ok (.iconst 2, 1) := by decide +kernel
theorem dX10_renewed_127 : decode cX10_renewed 127 = .ok (.iload 6, 2) := by decide +kernel
theorem dX10_renewed_129 : decode cX10_renewed 129 = .ok (.ifCond .eq 14, 3) := by decide +kernel
theorem dX10_renewed_132 : decode cX10_renewed 132 = .ok (.aload_n 0, 1) := by decide +kernel
theorem dX10_renewed_133 : decode cX10_renewed 133 = .ok (.getfield 50, 3) := by decide +kernel
theorem dX10_renewed_136 : decode cX10_renewed 136 = .ok (.iload_n 2, 1) := by decide +kernel
theorem dX10_renewed_137 : decode cX10_renewed 137 = .ok (.iconst 4, 1) := by decide +kernel
theorem dX10_renewed_138 : decode cX10_renewed 138 = .ok (.iadd, 1) := by decide +kernel
theorem dX10_renewed_139 : decode cX10_renewed 139 = .ok (.iaload, 1) := by decide +kernel
theorem dX10_renewed_140 : decode cX10_renewed 140 = .ok (.goto 5, 3) := by decide +kernel
theorem dX10_renewed_143 : decode cX10_renewed 143 = .ok (.iload 4, 2) := by decide +kernel
theorem dX10_renewed_145 : decode cX10_renewed 145 = .ok (.invokevirtual 100, 3) := by decide +kernel
theorem dX10_renewed_148 : decode cX10_renewed 148 = .ok (.return_, 1) := by decide +kernel
theorem dX10_tick_0 : decode cX10_tick 0 = .ok (.aload_n 0, 1) := by decide +kernel
theorem dX10_tick_1 : decode cX10_tick 1 = .ok (.iload_n 1, 1) := by decide +kernel
theorem dX10_tick_2 : decode cX10_tick 2 = .ok (.ifCond .lt 10, 3) := by decide +kernel
theorem dX10_tick_5 : decode cX10_tick 5 = .ok (.iload_n 1, 1) := by decide +kernel
theorem dX10_tick_6 : decode cX10_tick 6 = .ok (.sipush 1000, 3) := by decide +kernel
theorem dX10_tick_9 : decode cX10_tick 9 = .ok (.if_icmp .le 7, 3) := by decide +kernel
theorem dX10_tick_12 : decode cX10_tick 12 = .ok (.iconst 1, 1) := by decide +kernel
theorem dX10_tick_13 : decode cX10_tick 13 = .ok (.goto 4, 3) := by decide +kernel
theorem dX10_tick_16 : decode cX10_tick 16 = .ok (.iconst 0, 1) := by decide +kernel
theorem dX10_tick_17 : decode cX10_tick 17 = .ok (.putfield 83, 3) := by decide +kernel
theorem dX10_tick_20 : decode cX10_tick 20 = .ok (.aload_n 0, 1) := by decide +kernel
theorem dX10_tick_21 : decode cX10_tick 21 = .ok (.getfield 83, 3) := by decide +kernel
theorem dX10_tick_24 : decode cX10_tick 24 = .ok (.ifCond .le 5, 3) := by decide +kernel
theorem dX10_tick_27 : decode cX10_tick 27 = .ok (.iconst 0, 1) := by decide +kernel
theorem dX10_tick_28 : decode cX10_tick 28 = .ok (.ireturn, 1) := by decide +kernel
theorem dX10_tick_29 : decode cX10_tick 29 = .ok (.iconst 0, 1) := by decide +kernel
theorem dX10_tick_30 : decode cX10_tick 30 = .ok (.istore_n 2, 1) := by decide +kernel
theorem dX10_tick_31 : decode cX10_tick 31 = .ok (.iconst 0, 1) := by decide +kernel
theorem dX10_tick_32 : decode cX10_tick 32 = .ok (.istore_n 3, 1) := by decide +kernel
theorem dX10_tick_33 : decode cX10_tick 33 = .ok (.iload_n 3, 1) := by decide +kernel
theorem dX10_tick_34 : decode cX10_tick 34 = .ok (.iload_n 1, 1) := by decide +kernel
theorem dX10_tick_35 : decode cX10_tick 35 = .ok (.if_icmp .ge 64, 3) := by decide +kernel
theorem dX10_tick_38 : decode cX10_tick 38 = .ok (.iconst 0, 1) := by decide +kernel
theorem dX10_tick_39 : decode cX10_tick 39 = .ok (.istore 4, 2) := by decide +kernel
theorem dX10_tick_41 : decode cX10_tick 41 = .ok (.iload 4, 2) := by decide +kernel
theorem dX10_tick_43 : decode cX10_tick 43 = .ok (.iconst 2, 1) := by decide +kernel
theorem dX10_tick_44 : decode cX10_tick 44 = .ok (.if_icmp .ge 49, 3) := by decide +kernel
theorem dX10_tick_47 : decode cX10_tick 47 = .ok (.aload_n 0, 1) := by decide +kernel
theorem dX10_tick_48 : decode cX10_tick 48 = .ok (.getfield 47, 3) := by decide +kernel
theorem dX10_tick_51 : decode cX10_tick 51 = .ok (.iload 4, 2) := by decide +kernel
theorem dX10_tick_53 : decode cX10_tick 53 = .ok (.baload, 1) := by decide +kernel
theorem dX10_tick_54 : decode cX10_tick 54 = .ok (.ifCond .eq 33, 3) := by decide +kernel
theorem dX10_tick_57 : decode cX10_tick 57 = .ok (.aload_n 0, 1) := by decide +kernel
theorem dX10_tick_58 : decode cX10_tick 58 = .ok (.getfield 56, 3) := by decide +kernel
theorem dX10_tick_61 : decode cX10_tick 61 = .ok (.iload 4, 2) := by decide +kernel
theorem dX10_tick_63 : decode cX10_tick 63 = .ok (.dup2, 1) := by decide +kernel
theorem dX10_tick_64 : decode cX10_tick 64 = .ok (.iaload, 1) := by decide +kernel
theorem dX10_tick_65 : decode cX10_tick 65 = .ok (.iconst 1, 1) := by decide +kernel
theorem dX10_tick_66 : decode cX10_tick 66 = .ok (.isub, 1) := by decide +kernel
theorem dX10_tick_67 : decode cX10_tick 67 = .ok (.iastore, 1) := by decide +kernel
theorem dX10_tick_68 : decode cX10_tick 68 = .ok (.aload_n 0, 1) := by decide +kernel
theorem dX10_tick_69 : decode cX10_tick 69 = .ok (.getfield 56, 3) := by decide +kernel
theorem dX10_tick_72 : decode cX10_tick 72 = .ok (.iload 4, 2) := by decide +kernel
theorem dX10_tick_74 : decode cX10_tick 74 = .ok (.iaload, 1) := by decide +kernel
theorem dX10_tick_75 : decode cX10_tick 75 = .ok (.ifCond .ne 12, 3) := by decide +kernel
theorem dX10_tick_78 : decode cX10_tick 78 = .ok (.iload_n 2, 1) := by decide +kernel
theorem dX10_tick_79 : decode cX10_tick 79 = .ok (.aload_n 0, 1) := by decide +kernel
theorem dX10_tick_80 : decode cX10_tick 80 = .ok (.iload 4, 2) := by decide +kernel
theorem dX10_tick_82 : decode cX10_tick 82 = .ok (.invokevirtual 162, 3) := by decide +kernel
theorem dX10_tick_85 : decode cX10_tick 85 = .ok (.iadd, 1) := by decide +kernel
theorem dX10_tick_86 : decode cX10_tick 86 = .ok (.istore_n 2, 1) := by decide +kernel
theorem dX10_tick_87 : decode cX10_tick 87 = .ok (.iinc 4 1, 3) := by decide +kernel
theorem dX10_tick_90 : decode cX10_tick 90 = .ok (.goto (-49), 3) := by decide +kernel
theorem dX10_tick_93 : decode cX10_tick 93 = .ok (.iinc 3 1, 3) := by decide +kernel
theorem dX10_tick_96 : decode cX10_tick 96 = .ok (.goto (-63), 3) := by decide +kernel
theorem dX10_tick_99 : decode cX10_tick 99 = .ok (.aload_n 0, 1) := by decide +kernel
theorem dX10_tick_100 : decode cX10_tick 100 = .ok (.invokevirtual 91, 3) := by decide +kernel
theorem dX10_tick_103 : decode cX10_tick 103 = .ok (.iload_n 2, 1) := by decide +kernel
theorem dX10_tick_104 : decode cX10_tick 104 = .ok (.ireturn, 1) := by decide +kernel
theorem dX10_again_0 : decode cX10_again 0 = .ok (.aload_n 0, 1) := by decide +kernel
theorem dX10_again_1 : decode cX10_again 1 = .ok (.getfield 53, 3) := by decide +kernel
theorem dX10_again_4 : decode cX10_again 4 = .ok (.iload_n 1, 1) := by decide +kernel
theorem dX10_again_5 : decode cX10_again 5 = .ok (.iaload, 1) := by decide +kernel
theorem dX10_again_6 : decode cX10_again 6 = .ok (.iconst 5, 1) := by decide +kernel
theorem dX10_again_7 : decode cX10_again 7 = .ok (.if_icmp .ne 19, 3) := by decide +kernel
theorem dX10_again_10 : decode cX10_again 10 = .ok (.aload_n 0, 1) := by decide +kernel
theorem dX10_again_11 : decode cX10_again 11 = .ok (.getfield 47, 3) := by decide +kernel
theorem dX10_again_14 : decode cX10_again 14 = .ok (.iload_n 1, 1) := by decide +kernel
theorem dX10_again_15 : decode cX10_again 15 = .ok (.iconst 0, 1) := by decide +kernel
theorem dX10_again_16 : decode cX10_again 16 = .ok (.bastore, 1) := by decide +kernel
theorem dX10_again_17 : decode cX10_again 17 = .ok (.aload_n 0, 1) := by decide +kernel
theorem dX10_again_18 : decode cX10_again 18 = .ok (.getfield 43, 3) := by decide +kernel
theorem dX10_again_21 : decode cX10_again 21 = .ok (.iload_n 1, 1) := by decide +kernel
theorem dX10_again_22 : decode cX10_again 22 = .ok (.iconst 1, 1) := by decide +kernel
theorem dX10_again_23 : decode cX10_again 23 = .ok (.bastore, 1) := by decide +kernel
theorem dX10_again_24 : decode cX10_again 24 = .ok (.iconst 0, 1) := by decide +kernel
theorem dX10_again_25 : decode cX10_again 25 = .ok (.ireturn, 1) := by decide +kernel
theorem dX10_again_26 : decode cX10_again 26 = .ok (.aload_n 0, 1) := by decide +kernel
theorem dX10_again_27 : decode cX10_again 27 = .ok (.getfield 53, 3) := by decide +kernel
theorem dX10_again_30 : decode cX10_again 30 = .ok (.iload_n 1, 1) := by decide +kernel
theorem dX10_again_31 : decode cX10_again 31 = .ok (.dup2, 1) := by decide +kernel
theorem dX10_again_32 : decode cX10_again 32 = .ok (.iaload, 1) := by decide +kernel
theorem dX10_again_33 : decode cX10_again 33 = .ok (.iconst 1, 1) := by decide +kernel
theorem dX10_again_34 : decode cX10_again 34 = .ok (.iadd, 1) := by decide +kernel
theorem dX10_again_35 : decode cX10_again 35 = .ok (.iastore, 1) := by decide +kernel
theorem dX10_again_36 : decode cX10_again 36 = .ok (.aload_n 0, 1) := by decide +kernel
theorem dX10_again_37 : decode cX10_again 37 = .ok (.getfield 59, 3) := by decide +kernel
theorem dX10_again_40 : decode cX10_again 40 = .ok (.iload_n 1, 1) := by decide +kernel
theorem dX10_again_41 : decode cX10_again 41 = .ok (.iconst 2, 1) := by decide +kernel
theorem dX10_again_42 : decode cX10_again 42 = .ok (.aload_n 0, 1) := by decide +kernel
theorem dX10_again_43 : decode cX10_again 43 = .ok (.getfield 59, 3) := by decide +kernel
theorem dX10_again_46 : decode cX10_again 46 = .ok (.iload_n 1, 1) := by decide +kernel
theorem dX10_again_47 : decode cX10_again 47 = .ok (.iaload, 1) := by decide +kernel
theorem dX10_again_48 : decode cX10_again 48 = .ok (.imul, 1) := by decide +kernel
theorem dX10_again_49 : decode cX10_again 49 = .ok (.iastore, 1) := by decide +kernel
theorem dX10_again_50 : decode cX10_again 50 = .ok (.aload_n 0, 1) := by decide +kernel
theorem dX10_again_51 : decode cX10_again 51 = .ok (.getfield 56, 3) := by decide +kernel
theorem dX10_again_54 : decode cX10_again 54 = .ok (.iload_n 1, 1) := by decide +kernel
theorem dX10_again_55 : decode cX10_again 55 = .ok (.aload_n 0, 1) := by decide +kernel
theorem dX10_again_56 : decode cX10_again 56 = .ok (.getfield 59, 3) := by decide +kernel
theorem dX10_again_59 : decode cX10_again 59 = .ok (.iload_n 1, 1) := by decide +kernel
theorem dX10_again_60 : decode cX10_again 60 = .ok (.iaload, 1) := by decide +kernel
theorem dX10_again_61 : decode cX10_again 61 = .ok (.iastore, 1) := by decide +kernel
theorem dX10_again_62 : decode cX10_again 62 = .ok (.iconst 0, 1) := by decide +kernel
theorem dX10_again_63 : decode cX10_again 63 = .ok (.istore_n 2, 1) := by decide +kernel
theorem dX10_again_64 : decode cX10_again 64 = .ok (.iload_n 2, 1) := by decide +kernel
theorem dX10_again_65 : decode cX10_again 65 = .ok (.bipush 16, 2) := by decide +kernel
theorem dX10_again_67 : decode cX10_again 67 = .ok (.if_icmp .ge 26, 3) := by decide +kernel
theorem dX10_again_70 : decode cX10_again 70 = .ok (.aload_n 0, 1) := by decide +kernel
theorem dX10_again_71 : decode cX10_again 71 = .ok (.getfield 77, 3) := by decide +kernel
theorem dX10_again_74 : decode cX10_again 74 = .ok (.iload_n 2, 1) := by decide +kernel
theorem dX10_again_75 : decode cX10_again 75 = .ok (.aload_n 0, 1) := by decide +kernel
theorem dX10_again_76 : decode cX10_again 76 = .ok (.getfield 50, 3) := by decide +kernel
theorem dX10_again_79 : decode cX10_again 79 = .ok (.bipush 16, 2) := by decide +kernel
theorem dX10_again_81 : decode cX10_again 81 = .ok (.iload_n 1, 1) := by decide +kernel
theorem dX10_again_82 : decode cX10_again 82 = .ok (.imul, 1) := by decide +kernel
theorem dX10_again_83 : decode cX10_again 83 = .ok (.iload_n 2, 1) := by decide +kernel
theorem dX10_again_84 : decode cX10_again 84 = .ok (.iadd, 1) := by decide +kernel
theorem dX10_again_85 : decode cX10_again 85 = .ok (.iaload, 1) := by decide +kernel
theorem dX10_again_86 : decode cX10_again 86 = .ok (.iastore, 1) := by decide +kernel
theorem dX10_again_87 : decode cX10_again 87 = .ok (.iinc 2 1, 3) := by decide +kernel
theorem dX10_again_90 : decode cX10_again 90 = .ok (.goto (-26), 3) := by decide +kernel
theorem dX10_again_93 : decode cX10_again 93 = .ok (.aload_n 0, 1) := by decide +kernel
theorem dX10_again_94 : decode cX10_again 94 = .ok (.iconst 1, 1) := by decide +kernel
theorem dX10_again_95 : decode cX10_again 95 = .ok (.iload_n 1, 1) := by decide +kernel
theorem dX10_again_96 : decode cX10_again 96 = .ok (.isub, 1) := by decide +kernel
theorem dX10_again_97 : decode cX10_again 97 = .ok (.invokevirtual 121, 3) := by decide +kernel
theorem dX10_again_100 : decode cX10_again 100 = .ok (.iconst 1, 1) := by decide +kernel
theorem dX10_again_101 : decode cX10_again 101 = .ok (.ireturn, 1) := by decide +kernel
theorem dX10_children_0 : decode cX10_children 0 = .ok (.aload_n 0, 1) := by decide +kernel
theorem dX10_children_1 : decode cX10_children 1 = .ok (.iload_n 1, 1) := by decide +kernel
theorem dX10_children_2 : decode cX10_children 2 = .ok (.invokestatic 87, 3) := by decide +kernel
theorem dX10_children_5 : decode cX10_children 5 = .ok (.ifCond .eq 7, 3) := by decide +kernel
theorem dX10_children_8 : decode cX10_children 8 = .ok (.iconst 0, 1) := by decide +kernel
theorem dX10_children_9 : decode cX10_children 9 = .ok (.goto 4, 3) := by decide +kernel
theorem dX10_children_12 : decode cX10_children 12 = .ok (.iconst 1, 1) := by decide +kernel
theorem dX10_children_13 : decode cX10_children 13 = .ok (.putfield 83, 3) := by decide +kernel
theorem dX10_children_16 : decode cX10_children 16 = .ok (.aload_n 0, 1) := by decide +kernel
theorem dX10_children_17 : decode cX10_children 17 = .ok (.getfield 83, 3) := by decide +kernel
theorem dX10_children_20 : decode cX10_children 20 = .ok (.ifCond .le 7, 3) := by decide +kernel
theorem dX10_children_23 : decode cX10_children 23 = .ok (.iconst 0, 1) := by decide +kernel
theorem dX10_children_24 : decode cX10_children 24 = .ok (.goto 9, 3) := by decide +kernel
theorem dX10_children_27 : decode cX10_children 27 = .ok (.aload_n 0, 1) := by decide +kernel
theorem dX10_children_28 : decode cX10_children 28 = .ok (.getfield 28, 3) := by decide +kernel
theorem dX10_children_31 : decode cX10_children 31 = .ok (.iload_n 1, 1) := by decide +kernel
theorem dX10_children_32 : decode cX10_children 32 = .ok (.iaload, 1) := by decide +kernel
theorem dX10_children_33 : decode cX10_children 33 = .ok (.ireturn, 1) := by decide +kernel
theorem dX10_child_0 : decode cX10_child 0 = .ok (.aload_n 0, 1) := by decide +kernel
theorem dX10_child_1 : decode cX10_child 1 = .ok (.iload_n 1, 1) := by decide +kernel
theorem dX10_child_2 : decode cX10_child 2 = .ok (.invokestatic 87, 3) := by decide +kernel
theorem dX10_child_5 : decode cX10_child 5 = .ok (.ifCond .eq 17, 3) := by decide +kernel
theorem dX10_child_8 : decode cX10_child 8 = .ok (.iload_n 2, 1) := by decide +kernel
theorem dX10_child_9 : decode cX10_child 9 = .ok (.ifCond .lt 13, 3) := by decide +kernel
theorem dX10_child_12 : decode cX10_child 12 = .ok (.iload_n 2, 1) := by decide +kernel
theorem dX10_child_13 : decode cX10_child 13 = .ok (.aload_n 0, 1) := by decide +kernel
theorem dX10_child_14 : decode cX10_child 14 = .ok (.getfield 28, 3) := by decide +kernel
theorem dX10_child_17 : decode cX10_child 17 = .ok (.iload_n 1, 1) := by decide +kernel
theorem dX10_child_18 : decode cX10_child 18 = .ok (.iaload, 1) := by decide +kernel
theorem dX10_child_19 : decode cX10_child 19 = .ok (.if_icmp .lt 7, 3) := by decide +kernel
theorem dX10_child_22 : decode cX10_child 22 = .ok (.iconst 1, 1) := by decide +kernel
theorem dX10_child_23 : decode cX10_child 23 = .ok (.goto 18, 3) := by decide +kernel
theorem dX10_child_26 : decode cX10_child 26 = .ok (.iload_n 3, 1) := by decide +kernel
theorem dX10_child_27 : decode cX10_child 27 = .ok (.ifCond .lt 9, 3) := by decide +kernel
theorem dX10_child_30 : decode cX10_child 30 = .ok (.iload_n 3, 1) := by decide +kernel
theorem dX10_child_31 : decode cX10_child 31 = .ok (.bipush 7, 2) := by decide +kernel
theorem dX10_child_33 : decode cX10_child 33 = .ok (.if_icmp .le 7, 3) := by decide +kernel
theorem dX10_child_36 : decode cX10_child 36 = .ok (.iconst 2, 1) := by decide +kernel
theorem dX10_child_37 : decode cX10_child 37 = .ok (.goto 4, 3) := by decide +kernel
theorem dX10_child_40 : decode cX10_child 40 = .ok (.iconst 0, 1) := by decide +kernel
theorem dX10_child_41 : decode cX10_child 41 = .ok (.putfield 83, 3) := by decide +kernel
theorem dX10_child_44 : decode cX10_child 44 = .ok (.aload_n 0, 1) := by decide +kernel
theorem dX10_child_45 : decode cX10_child 45 = .ok (.getfield 83, 3) := by decide +kernel
theorem dX10_child_48 : decode cX10_child 48 = .ok (.ifCond .le 7, 3) := by decide +kernel
theorem dX10_child_51 : decode cX10_child 51 = .ok (.iconst 0, 1) := by decide +kernel
theorem dX10_child_52 : decode cX10_child 52 = .ok (.goto 10, 3) := by decide +kernel
theorem dX10_child_55 : decode cX10_child 55 = .ok (.aload_n 0, 1) := by decide +kernel
theorem dX10_child_56 : decode cX10_child 56 = .ok (.iload_n 1, 1) := by decide +kernel
theorem dX10_child_57 : decode cX10_child 57 = .ok (.iload_n 2, 1) := by decide +kernel
theorem dX10_child_58 : decode cX10_child 58 = .ok (.iload_n 3, 1) := by decide +kernel
theorem dX10_child_59 : decode cX10_child 59 = .ok (.invokevirtual 96, 3) := by decide +kernel
theorem dX10_child_62 : decode cX10_child 62 = .ok (.ireturn, 1) := by decide +kernel
theorem dX10_flying_0 : decode cX10_flying 0 = .ok (.aload_n 0, 1) := by decide +kernel
theorem dX10_flying_1 : decode cX10_flying 1 = .ok (.iload_n 1, 1) := by decide +kernel
theorem dX10_flying_2 : decode cX10_flying 2 = .ok (.invokestatic 87, 3) := by decide +kernel
theorem dX10_flying_5 : decode cX10_flying 5 = .ok (.ifCond .eq 7, 3) := by decide +kernel
theorem dX10_flying_8 : decode cX10_flying 8 = .ok (.iconst 0, 1) := by decide +kernel
theorem dX10_flying_9 : decode cX10_flying 9 = .ok (.goto 4, 3) := by decide +kernel
theorem dX10_flying_12 : decode cX10_flying 12 = .ok (.iconst 1, 1) := by decide +kernel
theorem dX10_flying_13 : decode cX10_flying 13 = .ok (.putfield 83, 3) := by decide +kernel
theorem dX10_flying_16 : decode cX10_flying 16 = .ok (.aload_n 0, 1) := by decide +kernel
theorem dX10_flying_17 : decode cX10_flying 17 = .ok (.getfield 83, 3) := by decide +kernel
theorem dX10_flying_20 : decode cX10_flying 20 = .ok (.ifCond .le 7, 3) := by decide +kernel
theorem dX10_flying_23 : decode cX10_flying 23 = .ok (.iconst 0, 1) := by decide +kernel
theorem dX10_flying_24 : decode cX10_flying 24 = .ok (.goto 9, 3) := by decide +kernel
theorem dX10_flying_27 : decode cX10_flying 27 = .ok (.aload_n 0, 1) := by decide +kernel
theorem dX10_flying_28 : decode cX10_flying 28 = .ok (.getfield 71, 3) := by decide +kernel
theorem dX10_flying_31 : decode cX10_flying 31 = .ok (.iload_n 1, 1) := by decide +kernel
theorem dX10_flying_32 : decode cX10_flying 32 = .ok (.iaload, 1) := by decide +kernel
theorem dX10_flying_33 : decode cX10_flying 33 = .ok (.ireturn, 1) := by decide +kernel
theorem dX10_packet_0 : decode cX10_packet 0 = .ok (.aload_n 0, 1) := by decide +kernel
theorem dX10_packet_1 : decode cX10_packet 1 = .ok (.aload_n 0, 1) := by decide +kernel
theorem dX10_packet_2 : decode cX10_packet 2 = .ok (.iload_n 1, 1) := by decide +kernel
theorem dX10_packet_3 : decode cX10_packet 3 = .ok (.iload_n 2, 1) := by decide +kernel
theorem dX10_packet_4 : decode cX10_packet 4 = .ok (.invokevirtual 129, 3) := by decide +kernel
theorem dX10_packet_7 : decode cX10_packet 7 = .ok (.ifCond .ne 7, 3) := by decide +kernel
theorem dX10_packet_10 : decode cX10_packet 10 = .ok (.iconst 1, 1) := by decide +kernel
theorem dX10_packet_11 : decode cX10_packet 11 = .ok (.goto 18, 3) := by decide +kernel
theorem dX10_packet_14 : decode cX10_packet 14 = .ok (.iload_n 3, 1) := by decide +kernel
theorem dX10_packet_15 : decode cX10_packet 15 = .ok (.ifCond .lt 9, 3) := by decide +kernel
theorem dX10_packet_18 : decode cX10_packet 18 = .ok (.iload_n 3, 1) := by decide +kernel
theorem dX10_packet_19 : decode cX10_packet 19 = .ok (.bipush 6, 2) := by decide +kernel
theorem dX10_packet_21 : decode cX10_packet 21 = .ok (.if_icmp .le 7, 3) := by decide +kernel
theorem dX10_packet_24 : decode cX10_packet 24 = .ok (.iconst 2, 1) := by decide +kernel
theorem dX10_packet_25 : decode cX10_packet 25 = .ok (.goto 4, 3) := by decide +kernel
theorem dX10_packet_28 : decode cX10_packet 28 = .ok (.iconst 0, 1) := by decide +kernel
theorem dX10_packet_29 : decode cX10_packet 29 = .ok (.putfield 83, 3) := by decide +kernel
theorem dX10_packet_32 : decode cX10_packet 32 = .ok (.aload_n 0, 1) := by decide +kernel
theorem dX10_packet_33 : decode cX10_packet 33 = .ok (.getfield 83, 3) := by decide +kernel
theorem dX10_packet_36 : decode cX10_packet 36 = .ok (.ifCond .le 7, 3) := by decide +kernel
theorem dX10_packet_39 : decode cX10_packet 39 = .ok (.iconst 0, 1) := by decide +kernel
theorem dX10_packet_40 : decode cX10_packet 40 = .ok (.goto 16, 3) := by decide +kernel
theorem dX10_packet_43 : decode cX10_packet 43 = .ok (.aload_n 0, 1) := by decide +kernel
theorem dX10_packet_44 : decode cX10_packet 44 = .ok (.getfield 74, 3) := by decide +kernel
theorem dX10_packet_47 : decode cX10_packet 47 = .ok (.aload_n 0, 1) := by decide +kernel
theorem dX10_packet_48 : decode cX10_packet 48 = .ok (.iload_n 1, 1) := by decide +kernel
theorem dX10_packet_49 : decode cX10_packet 49 = .ok (.iload_n 2, 1) := by decide +kernel
theorem dX10_packet_50 : decode cX10_packet 50 = .ok (.invokevirtual 125, 3) := by decide +kernel
theorem dX10_packet_53 : decode cX10_packet 53 = .ok (.iload_n 3, 1) := by decide +kernel
theorem dX10_packet_54 : decode cX10_packet 54 = .ok (.iadd, 1) := by decide +kernel
theorem dX10_packet_55 : decode cX10_packet 55 = .ok (.iaload, 1) := by decide +kernel
theorem dX10_packet_56 : decode cX10_packet 56 = .ok (.ireturn, 1) := by decide +kernel
theorem dX10_told_0 : decode cX10_told 0 = .ok (.aload_n 0, 1) := by decide +kernel
theorem dX10_told_1 : decode cX10_told 1 = .ok (.iload_n 1, 1) := by decide +kernel
theorem dX10_told_2 : decode cX10_told 2 = .ok (.invokestatic 87, 3) := by decide +kernel
theorem dX10_told_5 : decode cX10_told 5 = .ok (.ifCond .ne 7, 3) := by decide +kernel
theorem dX10_told_8 : decode cX10_told 8 = .ok (.iconst 1, 1) := by decide +kernel
theorem dX10_told_9 : decode cX10_told 9 = .ok (.goto 18, 3) := by decide +kernel
theorem dX10_told_12 : decode cX10_told 12 = .ok (.iload_n 2, 1) := by decide +kernel
theorem dX10_told_13 : decode cX10_told 13 = .ok (.ifCond .lt 9, 3) := by decide +kernel
theorem dX10_told_16 : decode cX10_told 16 = .ok (.iload_n 2, 1) := by decide +kernel
theorem dX10_told_17 : decode cX10_told 17 = .ok (.bipush 7, 2) := by decide +kernel
theorem dX10_told_19 : decode cX10_told 19 = .ok (.if_icmp .le 7, 3) := by decide +kernel
theorem dX10_told_22 : decode cX10_told 22 = .ok (.iconst 2, 1) := by decide +kernel
theorem dX10_told_23 : decode cX10_told 23 = .ok (.goto 4, 3) := by decide +kernel
theorem dX10_told_26 : decode cX10_told 26 = .ok (.iconst 0, 1) := by decide +kernel
theorem dX10_told_27 : decode cX10_told 27 = .ok (.putfield 83, 3) := by decide +kernel
theorem dX10_told_30 : decode cX10_told 30 = .ok (.aload_n 0, 1) := by decide +kernel
theorem dX10_told_31 : decode cX10_told 31 = .ok (.getfield 83, 3) := by decide +kernel
theorem dX10_told_34 : decode cX10_told 34 = .ok (.ifCond .le 5, 3) := by decide +kernel
theorem dX10_told_37 : decode cX10_told 37 = .ok (.iconst 0, 1) := by decide +kernel
theorem dX10_told_38 : decode cX10_told 38 = .ok (.ireturn, 1) := by decide +kernel
theorem dX10_told_39 : decode cX10_told 39 = .ok (.iload_n 2, 1) := by decide +kernel
theorem dX10_told_40 : decode cX10_told 40 = .ok (.tableswitch 163 0 6 #[44, 69, 94, 114, 134, 141, 156], 44) := by decide +kernel
theorem dX10_told_84 : decode cX10_told 84 = .ok (.aload_n 0, 1) := by decide +kernel
theorem dX10_told_85 : decode cX10_told 85 = .ok (.getfield 47, 3) := by decide +kernel
theorem dX10_told_88 : decode cX10_told 88 = .ok (.iload_n 1, 1) := by decide +kernel
theorem dX10_told_89 : decode cX10_told 89 = .ok (.baload, 1) := by decide +kernel
theorem dX10_told_90 : decode cX10_told 90 = .ok (.ifCond .eq 17, 3) := by decide +kernel
theorem dX10_told_93 : decode cX10_told 93 = .ok (.aload_n 0, 1) := by decide +kernel
theorem dX10_told_94 : decode cX10_told 94 = .ok (.getfield 50, 3) := by decide +kernel
theorem dX10_told_97 : decode cX10_told 97 = .ok (.bipush 16, 2) := by decide +kernel
theorem dX10_told_99 : decode cX10_told 99 = .ok (.iload_n 1, 1) := by decide +kernel
theorem dX10_told_100 : decode cX10_told 100 = .ok (.imul, 1) := by decide +kernel
theorem dX10_told_101 : decode cX10_told 101 = .ok (.iconst 1, 1) := by decide +kernel
theorem dX10_told_102 : decode cX10_told 102 = .ok (.iadd, 1) := by decide +kernel
theorem dX10_told_103 : decode cX10_told 103 = .ok (.iaload, 1) := by decide +kernel
theorem dX10_told_104 : decode cX10_told 104 = .ok (.goto 4, 3) := by decide +kernel
theorem dX10_told_107 : decode cX10_told 107 = .ok (.iconst (-1), 1) := by decide +kernel
theorem dX10_told_108 : decode cX10_told 108 = .ok (.ireturn, 1) := by decide +kernel
theorem dX10_told_109 : decode cX10_told 109 = .ok (.aload_n 0, 1) := by decide +kernel
theorem dX10_told_110 : decode cX10_told 110 = .ok (.getfield 47, 3) := by decide +kernel
theorem dX10_told_113 : decode cX10_told 113 = .ok (.iload_n 1, 1) := by decide +kernel
theorem dX10_told_114 : decode cX10_told 114 = .ok (.baload, 1) := by decide +kernel
theorem dX10_told_115 : decode cX10_told 115 = .ok (.ifCond .eq 17, 3) := by decide +kernel
theorem dX10_told_118 : decode cX10_told 118 = .ok (.aload_n 0, 1) := by decide +kernel
theorem dX10_told_119 : decode cX10_told 119 = .ok (.getfield 50, 3) := by decide +kernel
theorem dX10_told_122 : decode cX10_told 122 = .ok (.bipush 16, 2) := by decide +kernel
theorem dX10_told_124 : decode cX10_told 124 = .ok (.iload_n 1, 1) := by decide +kernel
theorem dX10_told_125 : decode cX10_told 125 = .ok (.imul, 1) := by decide +kernel
theorem dX10_told_126 : decode cX10_told 126 = .ok (.iconst 2, 1) := by decide +kernel
theorem dX10_told_127 : decode cX10_told 127 = .ok (.iadd, 1) := by decide +kernel
theorem dX10_told_128 : decode cX10_told 128 = .ok (.iaload, 1) := by decide +kernel
theorem dX10_told_129 : decode cX10_told 129 = .ok (.goto 4, 3) := by decide +kernel
theorem dX10_told_132 : decode cX10_told 132 = .ok (.iconst (-1), 1) := by decide +kernel
theorem dX10_told_133 : decode cX10_told 133 = .ok (.ireturn, 1) := by decide +kernel
theorem dX10_told_134 : decode cX10_told 134 = .ok (.aload_n 0, 1) := by decide +kernel
theorem dX10_told_135 : decode cX10_told 135 = .ok (.getfield 47, 3) := by decide +kernel
theorem dX10_told_138 : decode cX10_told 138 = .ok (.iload_n 1, 1) := by decide +kernel
theorem dX10_told_139 : decode cX10_told 139 = .ok (.baload, 1) := by decide +kernel
theorem dX10_told_140 : decode cX10_told 140 = .ok (.ifCond .eq 12, 3) := by decide +kernel
theorem dX10_told_143 : decode cX10_told 143 = .ok (.aload_n 0, 1) := by decide +kernel
theorem dX10_told_144 : decode cX10_told 144 = .ok (.getfield 53, 3) := by decide +kernel
theorem dX10_told_147 : decode cX10_told 147 = .ok (.iload_n 1, 1) := by decide +kernel
theorem dX10_told_148 : decode cX10_told 148 = .ok (.iaload, 1) := by decide +kernel
theorem dX10_told_149 : decode cX10_told 149 = .ok (.goto 4, 3) := by decide +kernel
theorem dX10_told_152 : decode cX10_told 152 = .ok (.iconst 0, 1) := by decide +kernel
theorem dX10_told_153 : decode cX10_told 153 = .ok (.ireturn, 1) := by decide +kernel
theorem dX10_told_154 : decode cX10_told 154 = .ok (.aload_n 0, 1) := by decide +kernel
theorem dX10_told_155 : decode cX10_told 155 = .ok (.getfield 47, 3) := by decide +kernel
theorem dX10_told_158 : decode cX10_told 158 = .ok (.iload_n 1, 1) := by decide +kernel
theorem dX10_told_159 : decode cX10_told 159 = .ok (.baload, 1) := by decide +kernel
theorem dX10_told_160 : decode cX10_told 160 = .ok (.ifCond .eq 12, 3) := by decide +kernel
theorem dX10_told_163 : decode cX10_told 163 = .ok (.aload_n 0, 1) := by decide +kernel
theorem dX10_told_164 : decode cX10_told 164 = .ok (.getfield 56, 3) := by decide +kernel
theorem dX10_told_167 : decode cX10_told 167 = .ok (.iload_n 1, 1) := by decide +kernel
theorem dX10_told_168 : decode cX10_told 168 = .ok (.iaload, 1) := by decide +kernel
theorem dX10_told_169 : decode cX10_told 169 = .ok (.goto 4, 3) := by decide +kernel
theorem dX10_told_172 : decode cX10_told 172 = .ok (.iconst 0, 1) := by decide +kernel
theorem dX10_told_173 : decode cX10_told 173 = .ok (.ireturn, 1) := by decide +kernel
theorem dX10_told_174 : decode cX10_told 174 = .ok (.aload_n 0, 1) := by decide +kernel
theorem dX10_told_175 : decode cX10_told 175 = .ok (.getfield 34, 3) := by decide +kernel
theorem dX10_told_178 : decode cX10_told 178 = .ok (.iload_n 1, 1) := by decide +kernel
theorem dX10_told_179 : decode cX10_told 179 = .ok (.iaload, 1) := by decide +kernel
theorem dX10_told_180 : decode cX10_told 180 = .ok (.ireturn, 1) := by decide +kernel
theorem dX10_told_181 : decode cX10_told 181 = .ok (.aload_n 0, 1) := by decide +kernel
theorem dX10_told_182 : decode cX10_told 182 = .ok (.getfield 43, 3) := by decide +kernel
theorem dX10_told_185 : decode cX10_told 185 = .ok (.iload_n 1, 1) := by decide +kernel
theorem dX10_told_186 : decode cX10_told 186 = .ok (.baload, 1) := by decide +kernel
theorem dX10_told_187 : decode cX10_told 187 = .ok (.ifCond .eq 7, 3) := by decide +kernel
theorem dX10_told_190 : decode cX10_told 190 = .ok (.iconst 1, 1) := by decide +kernel
theorem dX10_told_191 : decode cX10_told 191 = .ok (.goto 4, 3) := by decide +kernel
theorem dX10_told_194 : decode cX10_told 194 = .ok (.iconst 0, 1) := by decide +kernel
theorem dX10_told_195 : decode cX10_told 195 = .ok (.ireturn, 1) := by decide +kernel
theorem dX10_told_196 : decode cX10_told 196 = .ok (.aload_n 0, 1) := by decide +kernel
theorem dX10_told_197 : decode cX10_told 197 = .ok (.getfield 62, 3) := by decide +kernel
theorem dX10_told_200 : decode cX10_told 200 = .ok (.iload_n 1, 1) := by decide +kernel
theorem dX10_told_201 : decode cX10_told 201 = .ok (.iaload, 1) := by decide +kernel
theorem dX10_told_202 : decode cX10_told 202 = .ok (.ireturn, 1) := by decide +kernel
theorem dX10_told_203 : decode cX10_told 203 = .ok (.aload_n 0, 1) := by decide +kernel
theorem dX10_told_204 : decode cX10_told 204 = .ok (.getfield 65, 3) := by decide +kernel
theorem dX10_told_207 : decode cX10_told 207 = .ok (.iload_n 1, 1) := by decide +kernel
theorem dX10_told_208 : decode cX10_told 208 = .ok (.iaload, 1) := by decide +kernel
theorem dX10_told_209 : decode cX10_told 209 = .ok (.ireturn, 1) := by decide +kernel
theorem dX10_agreed_0 : decode cX10_agreed 0 = .ok (.aload_n 0, 1) := by decide +kernel
theorem dX10_agreed_1 : decode cX10_agreed 1 = .ok (.iconst 0, 1) := by decide +kernel
theorem dX10_agreed_2 : decode cX10_agreed 2 = .ok (.putfield 83, 3) := by decide +kernel
theorem dX10_agreed_5 : decode cX10_agreed 5 = .ok (.iconst 0, 1) := by decide +kernel
theorem dX10_agreed_6 : decode cX10_agreed 6 = .ok (.istore_n 1, 1) := by decide +kernel
theorem dX10_agreed_7 : decode cX10_agreed 7 = .ok (.iconst 0, 1) := by decide +kernel
theorem dX10_agreed_8 : decode cX10_agreed 8 = .ok (.istore_n 2, 1) := by decide +kernel
theorem dX10_agreed_9 : decode cX10_agreed 9 = .ok (.iload_n 2, 1) := by decide +kernel
theorem dX10_agreed_10 : decode cX10_agreed 10 = .ok (.aload_n 0, 1) := by decide +kernel
theorem dX10_agreed_11 : decode cX10_agreed 11 = .ok (.getfield 28, 3) := by decide +kernel
theorem dX10_agreed_14 : decode cX10_agreed 14 = .ok (.iconst 0, 1) := by decide +kernel
theorem dX10_agreed_15 : decode cX10_agreed 15 = .ok (.iaload, 1) := by decide +kernel
theorem dX10_agreed_16 : decode cX10_agreed 16 = .ok (.if_icmp .ge 127, 3) := by decide +kernel
theorem dX10_agreed_19 : decode cX10_agreed 19 = .ok (.iconst 0, 1) := by decide +kernel
theorem dX10_agreed_20 : decode cX10_agreed 20 = .ok (.istore_n 3, 1) := by decide +kernel
theorem dX10_agreed_21 : decode cX10_agreed 21 = .ok (.iload_n 3, 1) := by decide +kernel
theorem dX10_agreed_22 : decode cX10_agreed 22 = .ok (.aload_n 0, 1) := by decide +kernel
theorem dX10_agreed_23 : decode cX10_agreed 23 = .ok (.getfield 28, 3) := by decide +kernel
theorem dX10_agreed_26 : decode cX10_agreed 26 = .ok (.iconst 1, 1) := by decide +kernel
theorem dX10_agreed_27 : decode cX10_agreed 27 = .ok (.iaload, 1) := by decide +kernel
theorem dX10_agreed_28 : decode cX10_agreed 28 = .ok (.if_icmp .ge 109, 3) := by decide +kernel
theorem dX10_agreed_31 : decode cX10_agreed 31 = .ok (.aload_n 0, 1) := by decide +kernel
theorem dX10_agreed_32 : decode cX10_agreed 32 = .ok (.iconst 0, 1) := by decide +kernel
theorem dX10_agreed_33 : decode cX10_agreed 33 = .ok (.iload_n 2, 1) := by decide +kernel
theorem dX10_agreed_34 : decode cX10_agreed 34 = .ok (.iconst 0, 1) := by decide +kernel
theorem dX10_agreed_35 : decode cX10_agreed 35 = .ok (.invokevirtual 96, 3) := by decide +kernel
theorem dX10_agreed_38 : decode cX10_agreed 38 = .ok (.aload_n 0, 1) := by decide +kernel
theorem dX10_agreed_39 : decode cX10_agreed 39 = .ok (.iconst 1, 1) := by decide +kernel
theorem dX10_agreed_40 : decode cX10_agreed 40 = .ok (.iload_n 3, 1) := by decide +kernel
theorem dX10_agreed_41 : decode cX10_agreed 41 = .ok (.iconst 1, 1) := by decide +kernel
theorem dX10_agreed_42 : decode cX10_agreed 42 = .ok (.invokevirtual 96, 3) := by decide +kernel
theorem dX10_agreed_45 : decode cX10_agreed 45 = .ok (.if_icmp .ne 24, 3) := by decide +kernel
theorem dX10_agreed_48 : decode cX10_agreed 48 = .ok (.aload_n 0, 1) := by decide +kernel
theorem dX10_agreed_49 : decode cX10_agreed 49 = .ok (.iconst 0, 1) := by decide +kernel
theorem dX10_agreed_50 : decode cX10_agreed 50 = .ok (.iload_n 2, 1) := by decide +kernel
theorem dX10_agreed_51 : decode cX10_agreed 51 = .ok (.iconst 1, 1) := by decide +kernel
theorem dX10_agreed_52 : decode cX10_agreed 52 = .ok (.invokevirtual 96, 3) := by decide +kernel
theorem dX10_agreed_55 : decode cX10_agreed 55 = .ok (.aload_n 0, 1) := by decide +kernel
theorem dX10_agreed_56 : decode cX10_agreed 56 = .ok (.iconst 1, 1) := by decide +kernel
theorem dX10_agreed_57 : decode cX10_agreed 57 = .ok (.iload_n 3, 1) := by decide +kernel
theorem dX10_agreed_58 : decode cX10_agreed 58 = .ok (.iconst 0, 1) := by decide +kernel
theorem dX10_agreed_59 : decode cX10_agreed 59 = .ok (.invokevirtual 96, 3) := by decide +kernel
theorem dX10_agreed_62 : decode cX10_agreed 62 = .ok (.if_icmp .ne 7, 3) := by decide +kernel
theorem dX10_agreed_65 : decode cX10_agreed 65 = .ok (.iconst 1, 1) := by decide +kernel
theorem dX10_agreed_66 : decode cX10_agreed 66 = .ok (.goto 4, 3) := by decide +kernel
theorem dX10_agreed_69 : decode cX10_agreed 69 = .ok (.iconst 0, 1) := by decide +kernel
theorem dX10_agreed_70 : decode cX10_agreed 70 = .ok (.istore 4, 2) := by decide +kernel
theorem dX10_agreed_72 : decode cX10_agreed 72 = .ok (.iconst 2, 1) := by decide +kernel
theorem dX10_agreed_73 : decode cX10_agreed 73 = .ok (.istore 5, 2) := by decide +kernel
theorem dX10_agreed_75 : decode cX10_agreed 75 = .ok (.iload 5, 2) := by decide +kernel
theorem dX10_agreed_77 : decode cX10_agreed 77 = .ok (.iconst 5, 1) := by decide +kernel
theorem dX10_agreed_78 : decode cX10_agreed 78 = .ok (.if_icmp .ge 40, 3) := by decide +kernel
theorem dX10_agreed_81 : decode cX10_agreed 81 = .ok (.iload 4, 2) := by decide +kernel
theorem dX10_agreed_83 : decode cX10_agreed 83 = .ok (.ifCond .eq 26, 3) := by decide +kernel
theorem dX10_agreed_86 : decode cX10_agreed 86 = .ok (.aload_n 0, 1) := by decide +kernel
theorem dX10_agreed_87 : decode cX10_agreed 87 = .ok (.iconst 0, 1) := by decide +kernel
theorem dX10_agreed_88 : decode cX10_agreed 88 = .ok (.iload_n 2, 1) := by decide +kernel
theorem dX10_agreed_89 : decode cX10_agreed 89 = .ok (.iload 5, 2) := by decide +kernel
theorem dX10_agreed_91 : decode cX10_agreed 91 = .ok (.invokevirtual 96, 3) := by decide +kernel
theorem dX10_agreed_94 : decode cX10_agreed 94 = .ok (.aload_n 0, 1) := by decide +kernel
theorem dX10_agreed_95 : decode cX10_agreed 95 = .ok (.iconst 1, 1) := by decide +kernel
theorem dX10_agreed_96 : decode cX10_agreed 96 = .ok (.iload_n 3, 1) := by decide +kernel
theorem dX10_agreed_97 : decode cX10_agreed 97 = .ok (.iload 5, 2) := by decide +kernel
theorem dX10_agreed_99 : decode cX10_agreed 99 = .ok (.invokevirtual 96, 3) := by decide +kernel
theorem dX10_agreed_102 : decode cX10_agreed 102 = .ok (.if_icmp .ne 7, 3) := by decide +kernel
theorem dX10_agreed_105 : decode cX10_agreed 105 = .ok (.iconst 1, 1) := by decide +kernel
theorem dX10_agreed_106 : decode cX10_agreed 106 = .ok (.goto 4, 3) := by decide +kernel
theorem dX10_agreed_109 : decode cX10_agreed 109 = .ok (.iconst 0, 1) := by decide +kernel
theorem dX10_agreed_110 : decode cX10_agreed 110 = .ok (.istore 4, 2) := by decide +kernel
theorem dX10_agreed_112 : decode cX10_agreed 112 = .ok (.iinc 5 1, 3) := by decide +kernel
theorem dX10_agreed_115 : decode cX10_agreed 115 = .ok (.goto (-40), 3) := by decide +kernel
theorem dX10_agreed_118 : decode cX10_agreed 118 = .ok (.iload 4, 2) := by decide +kernel
theorem dX10_agreed_120 : decode cX10_agreed 120 = .ok (.ifCond .eq 9, 3) := by decide +kernel
theorem dX10_agreed_123 : decode cX10_agreed 123 = .ok (.iload_n 1, 1) := by decide +kernel
theorem dX10_agreed_124 : decode cX10_agreed 124 = .ok (.iconst 1, 1) := by decide +kernel
theorem dX10_agreed_125 : decode cX10_agreed 125 = .ok (.iadd, 1) := by decide +kernel
theorem dX10_agreed_126 : decode cX10_agreed 126 = .ok (.goto 4, 3) := by decide +kernel
theorem dX10_agreed_129 : decode cX10_agreed 129 = .ok (.iload_n 1, 1) := by decide +kernel
theorem dX10_agreed_130 : decode cX10_agreed 130 = .ok (.istore_n 1, 1) := by decide +kernel
theorem dX10_agreed_131 : decode cX10_agreed 131 = .ok (.iinc 3 1, 3) := by decide +kernel
theorem dX10_agreed_134 : decode cX10_agreed 134 = .ok (.goto (-113), 3) := by decide +kernel
theorem dX10_agreed_137 : decode cX10_agreed 137 = .ok (.iinc 2 1, 3) := by decide +kernel
theorem dX10_agreed_140 : decode cX10_agreed 140 = .ok (.goto (-131), 3) := by decide +kernel
theorem dX10_agreed_143 : decode cX10_agreed 143 = .ok (.iload_n 1, 1) := by decide +kernel
theorem dX10_agreed_144 : decode cX10_agreed 144 = .ok (.ireturn, 1) := by decide +kernel
theorem dJ9_max_7cf53_0 : decode cJ9_max_7cf53 0 = .ok (.iload_n 0, 1) := by decide +kernel
theorem dJ9_max_7cf53_1 : decode cJ9_max_7cf53 1 = .ok (.iload_n 1, 1) := by decide +kernel
theorem dJ9_max_7cf53_2 : decode cJ9_max_7cf53 2 = .ok (.if_icmp .lt 7, 3) := by decide +kernel
theorem dJ9_max_7cf53_5 : decode cJ9_max_7cf53 5 = .ok (.iload_n 0, 1) := by decide +kernel
theorem dJ9_max_7cf53_6 : decode cJ9_max_7cf53 6 = .ok (.goto 4, 3) := by decide +kernel
theorem dJ9_max_7cf53_9 : decode cJ9_max_7cf53 9 = .ok (.iload_n 1, 1) := by decide +kernel
theorem dJ9_max_7cf53_10 : decode cJ9_max_7cf53 10 = .ok (.ireturn, 1) := by decide +kernel
theorem dJ9_min_7cf53_0 : decode cJ9_min_7cf53 0 = .ok (.iload_n 0, 1) := by decide +kernel
theorem dJ9_min_7cf53_1 : decode cJ9_min_7cf53 1 = .ok (.iload_n 1, 1) := by decide +kernel
theorem dJ9_min_7cf53_2 : decode cJ9_min_7cf53 2 = .ok (.if_icmp .gt 7, 3) := by decide +kernel
theorem dJ9_min_7cf53_5 : decode cJ9_min_7cf53 5 = .ok (.iload_n 0, 1) := by decide +kernel
theorem dJ9_min_7cf53_6 : decode cJ9_min_7cf53 6 = .ok (.goto 4, 3) := by decide +kernel
theorem dJ9_min_7cf53_9 : decode cJ9_min_7cf53 9 = .ok (.iload_n 1, 1) := by decide +kernel
theorem dJ9_min_7cf53_10 : decode cJ9_min_7cf53 10 = .ok (.ireturn, 1) := by decide +kernel
theorem dJxa1e45_init_da8c8_0 : decode cJxa1e45_init_da8c8 0 = .ok (.aload_n 0, 1) := by decide +kernel
theorem dJxa1e45_init_da8c8_1 : decode cJxa1e45_init_da8c8 1 = .ok (.invokespecial 1, 3) := by decide +kernel
theorem dJxa1e45_init_da8c8_4 : decode cJxa1e45_init_da8c8 4 = .ok (.return_, 1) := by decide +kernel
theorem dJxc12de_init_da8c8_0 : decode cJxc12de_init_da8c8 0 = .ok (.aload_n 0, 1) := by decide +kernel
theorem dJxc12de_init_da8c8_1 : decode cJxc12de_init_da8c8 1 = .ok (.invokespecial 1, 3) := by decide +kernel
theorem dJxc12de_init_da8c8_4 : decode cJxc12de_init_da8c8 4 = .ok (.aload_n 0, 1) := by decide +kernel
theorem dJxc12de_init_da8c8_5 : decode cJxc12de_init_da8c8 5 = .ok (.iconst 0, 1) := by decide +kernel
theorem dJxc12de_init_da8c8_6 : decode cJxc12de_init_da8c8 6 = .ok (.putfield 7, 3) := by decide +kernel
theorem dJxc12de_init_da8c8_9 : decode cJxc12de_init_da8c8 9 = .ok (.return_, 1) := by decide +kernel
theorem dJx4a65c_init_da8c8_0 : decode cJx4a65c_init_da8c8 0 = .ok (.aload_n 0, 1) := by decide +kernel
theorem dJx4a65c_init_da8c8_1 : decode cJx4a65c_init_da8c8 1 = .ok (.invokespecial 1, 3) := by decide +kernel
theorem dJx4a65c_init_da8c8_4 : decode cJx4a65c_init_da8c8 4 = .ok (.aload_n 0, 1) := by decide +kernel
theorem dJx4a65c_init_da8c8_5 : decode cJx4a65c_init_da8c8 5 = .ok (.getstatic 39, 3) := by decide +kernel
theorem dJx4a65c_init_da8c8_8 : decode cJx4a65c_init_da8c8 8 = .ok (.putfield 9, 3) := by decide +kernel
theorem dJx4a65c_init_da8c8_11 : decode cJx4a65c_init_da8c8 11 = .ok (.return_, 1) := by decide +kernel
theorem dJx4a65c_grow_92f84_0 : decode cJx4a65c_grow_92f84 0 = .ok (.aload_n 0, 1) := by decide +kernel
theorem dJx4a65c_grow_92f84_1 : decode cJx4a65c_grow_92f84 1 = .ok (.getfield 9, 3) := by decide +kernel
theorem dJx4a65c_grow_92f84_4 : decode cJx4a65c_grow_92f84 4 = .ok (.arraylength, 1) := by decide +kernel
theorem dJx4a65c_grow_92f84_5 : decode cJx4a65c_grow_92f84 5 = .ok (.istore_n 2, 1) := by decide +kernel
theorem dJx4a65c_grow_92f84_6 : decode cJx4a65c_grow_92f84 6 = .ok (.iload_n 2, 1) := by decide +kernel
theorem dJx4a65c_grow_92f84_7 : decode cJx4a65c_grow_92f84 7 = .ok (.ifCond .gt 13, 3) := by decide +kernel
theorem dJx4a65c_grow_92f84_10 : decode cJx4a65c_grow_92f84 10 = .ok (.aload_n 0, 1) := by decide +kernel
theorem dJx4a65c_grow_92f84_11 : decode cJx4a65c_grow_92f84 11 = .ok (.getfield 9, 3) := by decide +kernel
theorem dJx4a65c_grow_92f84_14 : decode cJx4a65c_grow_92f84 14 = .ok (.getstatic 39, 3) := by decide +kernel
theorem dJx4a65c_grow_92f84_17 : decode cJx4a65c_grow_92f84 17 = .ok (.if_acmp .eq 28, 3) := by decide +kernel
theorem dJx4a65c_grow_92f84_20 : decode cJx4a65c_grow_92f84 20 = .ok (.iload_n 2, 1) := by decide +kernel
theorem dJx4a65c_grow_92f84_21 : decode cJx4a65c_grow_92f84 21 = .ok (.iload_n 1, 1) := by decide +kernel
theorem dJx4a65c_grow_92f84_22 : decode cJx4a65c_grow_92f84 22 = .ok (.iload_n 2, 1) := by decide +kernel
theorem dJx4a65c_grow_92f84_23 : decode cJx4a65c_grow_92f84 23 = .ok (.isub, 1) := by decide +kernel
theorem dJx4a65c_grow_92f84_24 : decode cJx4a65c_grow_92f84 24 = .ok (.iload_n 2, 1) := by decide +kernel
theorem dJx4a65c_grow_92f84_25 : decode cJx4a65c_grow_92f84 25 = .ok (.iconst 1, 1) := by decide +kernel
theorem dJx4a65c_grow_92f84_26 : decode cJx4a65c_grow_92f84 26 = .ok (.ishr, 1) := by decide +kernel
theorem dJx4a65c_grow_92f84_27 : decode cJx4a65c_grow_92f84 27 = .ok (.invokestatic 73, 3) := by decide +kernel
theorem dJx4a65c_grow_92f84_30 : decode cJx4a65c_grow_92f84 30 = .ok (.istore_n 3, 1) := by decide +kernel
theorem dJx4a65c_grow_92f84_31 : decode cJx4a65c_grow_92f84 31 = .ok (.aload_n 0, 1) := by decide +kernel
theorem dJx4a65c_grow_92f84_32 : decode cJx4a65c_grow_92f84 32 = .ok (.aload_n 0, 1) := by decide +kernel
theorem dJx4a65c_grow_92f84_33 : decode cJx4a65c_grow_92f84 33 = .ok (.getfield 9, 3) := by decide +kernel
theorem dJx4a65c_grow_92f84_36 : decode cJx4a65c_grow_92f84 36 = .ok (.iload_n 3, 1) := by decide +kernel
theorem dJx4a65c_grow_92f84_37 : decode cJx4a65c_grow_92f84 37 = .ok (.invokestatic 66, 3) := by decide +kernel
theorem dJx4a65c_grow_92f84_40 : decode cJx4a65c_grow_92f84 40 = .ok (.dup_x1, 1) := by decide +kernel
theorem dJx4a65c_grow_92f84_41 : decode cJx4a65c_grow_92f84 41 = .ok (.putfield 9, 3) := by decide +kernel
theorem dJx4a65c_grow_92f84_44 : decode cJx4a65c_grow_92f84 44 = .ok (.areturn, 1) := by decide +kernel
theorem dJx4a65c_grow_92f84_45 : decode cJx4a65c_grow_92f84 45 = .ok (.aload_n 0, 1) := by decide +kernel
theorem dJx4a65c_grow_92f84_46 : decode cJx4a65c_grow_92f84 46 = .ok (.bipush 10, 2) := by decide +kernel
theorem dJx4a65c_grow_92f84_48 : decode cJx4a65c_grow_92f84 48 = .ok (.iload_n 1, 1) := by decide +kernel
theorem dJx4a65c_grow_92f84_49 : decode cJx4a65c_grow_92f84 49 = .ok (.invokestatic 79, 3) := by decide +kernel
theorem dJx4a65c_grow_92f84_52 : decode cJx4a65c_grow_92f84 52 = .ok (.anewarray 7, 3) := by decide +kernel
theorem dJx4a65c_grow_92f84_55 : decode cJx4a65c_grow_92f84 55 = .ok (.dup_x1, 1) := by decide +kernel
theorem dJx4a65c_grow_92f84_56 : decode cJx4a65c_grow_92f84 56 = .ok (.putfield 9, 3) := by decide +kernel
theorem dJx4a65c_grow_92f84_59 : decode cJx4a65c_grow_92f84 59 = .ok (.areturn, 1) := by decide +kernel
theorem dJx4a65c_grow_d5877_0 : decode cJx4a65c_grow_d5877 0 = .ok (.aload_n 0, 1) := by decide +kernel
theorem dJx4a65c_grow_d5877_1 : decode cJx4a65c_grow_d5877 1 = .ok (.aload_n 0, 1) := by decide +kernel
theorem dJx4a65c_grow_d5877_2 : decode cJx4a65c_grow_d5877 2 = .ok (.getfield 48, 3) := by decide +kernel
theorem dJx4a65c_grow_d5877_5 : decode cJx4a65c_grow_d5877 5 = .ok (.iconst 1, 1) := by decide +kernel
theorem dJx4a65c_grow_d5877_6 : decode cJx4a65c_grow_d5877 6 = .ok (.iadd, 1) := by decide +kernel
theorem dJx4a65c_grow_d5877_7 : decode cJx4a65c_grow_d5877 7 = .ok (.invokevirtual 69, 3) := by decide +kernel
theorem dJx4a65c_grow_d5877_10 : decode cJx4a65c_grow_d5877 10 = .ok (.areturn, 1) := by decide +kernel
theorem dJx4a65c_size_8abf5_0 : decode cJx4a65c_size_8abf5 0 = .ok (.aload_n 0, 1) := by decide +kernel
theorem dJx4a65c_size_8abf5_1 : decode cJx4a65c_size_8abf5 1 = .ok (.getfield 48, 3) := by decide +kernel
theorem dJx4a65c_size_8abf5_4 : decode cJx4a65c_size_8abf5 4 = .ok (.ireturn, 1) := by decide +kernel
theorem dJx4a65c_elementData_915e3_0 : decode cJx4a65c_elementData_915e3 0 = .ok (.aload_n 0, 1) := by decide +kernel
theorem dJx4a65c_elementData_915e3_1 : decode cJx4a65c_elementData_915e3 1 = .ok (.getfield 9, 3) := by decide +kernel
theorem dJx4a65c_elementData_915e3_4 : decode cJx4a65c_elementData_915e3 4 = .ok (.iload_n 1, 1) := by decide +kernel
theorem dJx4a65c_elementData_915e3_5 : decode cJx4a65c_elementData_915e3 5 = .ok (.aaload, 1) := by decide +kernel
theorem dJx4a65c_elementData_915e3_6 : decode cJx4a65c_elementData_915e3 6 = .ok (.areturn, 1) := by decide +kernel
theorem dJx4a65c_get_915e3_0 : decode cJx4a65c_get_915e3 0 = .ok (.iload_n 1, 1) := by decide +kernel
theorem dJx4a65c_get_915e3_1 : decode cJx4a65c_get_915e3 1 = .ok (.aload_n 0, 1) := by decide +kernel
theorem dJx4a65c_get_915e3_2 : decode cJx4a65c_get_915e3 2 = .ok (.getfield 48, 3) := by decide +kernel
theorem dJx4a65c_get_915e3_5 : decode cJx4a65c_get_915e3 5 = .ok (.invokestatic 118, 3) := by decide +kernel
theorem dJx4a65c_get_915e3_8 : decode cJx4a65c_get_915e3 8 = .ok (.pop, 1) := by decide +kernel
theorem dJx4a65c_get_915e3_9 : decode cJx4a65c_get_915e3 9 = .ok (.aload_n 0, 1) := by decide +kernel
theorem dJx4a65c_get_915e3_10 : decode cJx4a65c_get_915e3 10 = .ok (.iload_n 1, 1) := by decide +kernel
theorem dJx4a65c_get_915e3_11 : decode cJx4a65c_get_915e3 11 = .ok (.invokevirtual 123, 3) := by decide +kernel
theorem dJx4a65c_get_915e3_14 : decode cJx4a65c_get_915e3 14 = .ok (.areturn, 1) := by decide +kernel
theorem dJx4a65c_add_72be8_0 : decode cJx4a65c_add_72be8 0 = .ok (.iload_n 3, 1) := by decide +kernel
theorem dJx4a65c_add_72be8_1 : decode cJx4a65c_add_72be8 1 = .ok (.aload_n 2, 1) := by decide +kernel
theorem dJx4a65c_add_72be8_2 : decode cJx4a65c_add_72be8 2 = .ok (.arraylength, 1) := by decide +kernel
theorem dJx4a65c_add_72be8_3 : decode cJx4a65c_add_72be8 3 = .ok (.if_icmp .ne 8, 3) := by decide +kernel
theorem dJx4a65c_add_72be8_6 : decode cJx4a65c_add_72be8 6 = .ok (.aload_n 0, 1) := by decide +kernel
theorem dJx4a65c_add_72be8_7 : decode cJx4a65c_add_72be8 7 = .ok (.invokevirtual 129, 3) := by decide +kernel
theorem dJx4a65c_add_72be8_10 : decode cJx4a65c_add_72be8 10 = .ok (.astore_n 2, 1) := by decide +kernel
theorem dJx4a65c_add_72be8_11 : decode cJx4a65c_add_72be8 11 = .ok (.aload_n 2, 1) := by decide +kernel
theorem dJx4a65c_add_72be8_12 : decode cJx4a65c_add_72be8 12 = .ok (.iload_n 3, 1) := by decide +kernel
theorem dJx4a65c_add_72be8_13 : decode cJx4a65c_add_72be8 13 = .ok (.aload_n 1, 1) := by decide +kernel
theorem dJx4a65c_add_72be8_14 : decode cJx4a65c_add_72be8 14 = .ok (.aastore, 1) := by decide +kernel
theorem dJx4a65c_add_72be8_15 : decode cJx4a65c_add_72be8 15 = .ok (.aload_n 0, 1) := by decide +kernel
theorem dJx4a65c_add_72be8_16 : decode cJx4a65c_add_72be8 16 = .ok (.iload_n 3, 1) := by decide +kernel
theorem dJx4a65c_add_72be8_17 : decode cJx4a65c_add_72be8 17 = .ok (.iconst 1, 1) := by decide +kernel
theorem dJx4a65c_add_72be8_18 : decode cJx4a65c_add_72be8 18 = .ok (.iadd, 1) := by decide +kernel
theorem dJx4a65c_add_72be8_19 : decode cJx4a65c_add_72be8 19 = .ok (.putfield 48, 3) := by decide +kernel
theorem dJx4a65c_add_72be8_22 : decode cJx4a65c_add_72be8 22 = .ok (.return_, 1) := by decide +kernel
theorem dJx4a65c_add_9ea2d_0 : decode cJx4a65c_add_9ea2d 0 = .ok (.aload_n 0, 1) := by decide +kernel
theorem dJx4a65c_add_9ea2d_1 : decode cJx4a65c_add_9ea2d 1 = .ok (.dup, 1) := by decide +kernel
theorem dJx4a65c_add_9ea2d_2 : decode cJx4a65c_add_9ea2d 2 = .ok (.getfield 63, 3) := by decide +kernel
theorem dJx4a65c_add_9ea2d_5 : decode cJx4a65c_add_9ea2d 5 = .ok (.iconst 1, 1) := by decide +kernel
theorem dJx4a65c_add_9ea2d_6 : decode cJx4a65c_add_9ea2d 6 = .ok (.iadd, 1) := by decide +kernel
theorem dJx4a65c_add_9ea2d_7 : decode cJx4a65c_add_9ea2d 7 = .ok (.putfield 63, 3) := by decide +kernel
theorem dJx4a65c_add_9ea2d_10 : decode cJx4a65c_add_9ea2d 10 = .ok (.aload_n 0, 1) := by decide +kernel
theorem dJx4a65c_add_9ea2d_11 : decode cJx4a65c_add_9ea2d 11 = .ok (.aload_n 1, 1) := by decide +kernel
theorem dJx4a65c_add_9ea2d_12 : decode cJx4a65c_add_9ea2d 12 = .ok (.aload_n 0, 1) := by decide +kernel
theorem dJx4a65c_add_9ea2d_13 : decode cJx4a65c_add_9ea2d 13 = .ok (.getfield 9, 3) := by decide +kernel
theorem dJx4a65c_add_9ea2d_16 : decode cJx4a65c_add_9ea2d 16 = .ok (.aload_n 0, 1) := by decide +kernel
theorem dJx4a65c_add_9ea2d_17 : decode cJx4a65c_add_9ea2d 17 = .ok (.getfield 48, 3) := by decide +kernel
theorem dJx4a65c_add_9ea2d_20 : decode cJx4a65c_add_9ea2d 20 = .ok (.invokevirtual 131, 3) := by decide +kernel
theorem dJx4a65c_add_9ea2d_23 : decode cJx4a65c_add_9ea2d 23 = .ok (.iconst 1, 1) := by decide +kernel
theorem dJx4a65c_add_9ea2d_24 : decode cJx4a65c_add_9ea2d 24 = .ok (.ireturn, 1) := by decide +kernel
theorem dJx4a65c_remove_915e3_0 : decode cJx4a65c_remove_915e3 0 = .ok (.iload_n 1, 1) := by decide +kernel
theorem dJx4a65c_remove_915e3_1 : decode cJx4a65c_remove_915e3 1 = .ok (.aload_n 0, 1) := by decide +kernel
theorem dJx4a65c_remove_915e3_2 : decode cJx4a65c_remove_915e3 2 = .ok (.getfield 48, 3) := by decide +kernel
theorem dJx4a65c_remove_915e3_5 : decode cJx4a65c_remove_915e3 5 = .ok (.invokestatic 118, 3) := by decide +kernel
theorem dJx4a65c_remove_915e3_8 : decode cJx4a65c_remove_915e3 8 = .ok (.pop, 1) := by decide +kernel
theorem dJx4a65c_remove_915e3_9 : decode cJx4a65c_remove_915e3 9 = .ok (.aload_n 0, 1) := by decide +kernel
theorem dJx4a65c_remove_915e3_10 : decode cJx4a65c_remove_915e3 10 = .ok (.getfield 9, 3) := by decide +kernel
theorem dJx4a65c_remove_915e3_13 : decode cJx4a65c_remove_915e3 13 = .ok (.astore_n 2, 1) := by decide +kernel
theorem dJx4a65c_remove_915e3_14 : decode cJx4a65c_remove_915e3 14 = .ok (.aload_n 2, 1) := by decide +kernel
theorem dJx4a65c_remove_915e3_15 : decode cJx4a65c_remove_915e3 15 = .ok (.iload_n 1, 1) := by decide +kernel
theorem dJx4a65c_remove_915e3_16 : decode cJx4a65c_remove_915e3 16 = .ok (.aaload, 1) := by decide +kernel
theorem dJx4a65c_remove_915e3_17 : decode cJx4a65c_remove_915e3 17 = .ok (.astore_n 3, 1) := by decide +kernel
theorem dJx4a65c_remove_915e3_18 : decode cJx4a65c_remove_915e3 18 = .ok (.aload_n 0, 1) := by decide +kernel
theorem dJx4a65c_remove_915e3_19 : decode cJx4a65c_remove_915e3 19 = .ok (.aload_n 2, 1) := by decide +kernel
theorem dJx4a65c_remove_915e3_20 : decode cJx4a65c_remove_915e3 20 = .ok (.iload_n 1, 1) := by decide +kernel
theorem dJx4a65c_remove_915e3_21 : decode cJx4a65c_remove_915e3 21 = .ok (.invokevirtual 144, 3) := by decide +kernel
theorem dJx4a65c_remove_915e3_24 : decode cJx4a65c_remove_915e3 24 = .ok (.aload_n 3, 1) := by decide +kernel
theorem dJx4a65c_remove_915e3_25 : decode cJx4a65c_remove_915e3 25 = .ok (.areturn, 1) := by decide +kernel
theorem dJx4a65c_fastRemove_b59b0_0 : decode cJx4a65c_fastRemove_b59b0 0 = .ok (.aload_n 0, 1) := by decide +kernel
theorem dJx4a65c_fastRemove_b59b0_1 : decode cJx4a65c_fastRemove_b59b0 1 = .ok (.dup, 1) := by decide +kernel
theorem dJx4a65c_fastRemove_b59b0_2 : decode cJx4a65c_fastRemove_b59b0 2 = .ok (.getfield 63, 3) := by decide +kernel
theorem dJx4a65c_fastRemove_b59b0_5 : decode cJx4a65c_fastRemove_b59b0 5 = .ok (.iconst 1, 1) := by decide +kernel
theorem dJx4a65c_fastRemove_b59b0_6 : decode cJx4a65c_fastRemove_b59b0 6 = .ok (.iadd, 1) := by decide +kernel
theorem dJx4a65c_fastRemove_b59b0_7 : decode cJx4a65c_fastRemove_b59b0 7 = .ok (.putfield 63, 3) := by decide +kernel
theorem dJx4a65c_fastRemove_b59b0_10 : decode cJx4a65c_fastRemove_b59b0 10 = .ok (.aload_n 0, 1) := by decide +kernel
theorem dJx4a65c_fastRemove_b59b0_11 : decode cJx4a65c_fastRemove_b59b0 11 = .ok (.getfield 48, 3) := by decide +kernel
theorem dJx4a65c_fastRemove_b59b0_14 : decode cJx4a65c_fastRemove_b59b0 14 = .ok (.iconst 1, 1) := by decide +kernel
theorem dJx4a65c_fastRemove_b59b0_15 : decode cJx4a65c_fastRemove_b59b0 15 = .ok (.isub, 1) := by decide +kernel
theorem dJx4a65c_fastRemove_b59b0_16 : decode cJx4a65c_fastRemove_b59b0 16 = .ok (.dup, 1) := by decide +kernel
theorem dJx4a65c_fastRemove_b59b0_17 : decode cJx4a65c_fastRemove_b59b0 17 = .ok (.istore_n 3, 1) := by decide +kernel
theorem dJx4a65c_fastRemove_b59b0_18 : decode cJx4a65c_fastRemove_b59b0 18 = .ok (.iload_n 2, 1) := by decide +kernel
theorem dJx4a65c_fastRemove_b59b0_19 : decode cJx4a65c_fastRemove_b59b0 19 = .ok (.if_icmp .le 15, 3) := by decide +kernel
theorem dJx4a65c_fastRemove_b59b0_22 : decode cJx4a65c_fastRemove_b59b0 22 = .ok (.aload_n 1, 1) := by decide +kernel
theorem dJx4a65c_fastRemove_b59b0_23 : decode cJx4a65c_fastRemove_b59b0 23 = .ok (.iload_n 2, 1) := by decide +kernel
theorem dJx4a65c_fastRemove_b59b0_24 : decode cJx4a65c_fastRemove_b59b0 24 = .ok (.iconst 1, 1) := by decide +kernel
theorem dJx4a65c_fastRemove_b59b0_25 : decode cJx4a65c_fastRemove_b59b0 25 = .ok (.iadd, 1) := by decide +kernel
theorem dJx4a65c_fastRemove_b59b0_26 : decode cJx4a65c_fastRemove_b59b0 26 = .ok (.aload_n 1, 1) := by decide +kernel
theorem dJx4a65c_fastRemove_b59b0_27 : decode cJx4a65c_fastRemove_b59b0 27 = .ok (.iload_n 2, 1) := by decide +kernel
theorem dJx4a65c_fastRemove_b59b0_28 : decode cJx4a65c_fastRemove_b59b0 28 = .ok (.iload_n 3, 1) := by decide +kernel
theorem dJx4a65c_fastRemove_b59b0_29 : decode cJx4a65c_fastRemove_b59b0 29 = .ok (.iload_n 2, 1) := by decide +kernel
theorem dJx4a65c_fastRemove_b59b0_30 : decode cJx4a65c_fastRemove_b59b0 30 = .ok (.isub, 1) := by decide +kernel
theorem dJx4a65c_fastRemove_b59b0_31 : decode cJx4a65c_fastRemove_b59b0 31 = .ok (.invokestatic 112, 3) := by decide +kernel
theorem dJx4a65c_fastRemove_b59b0_34 : decode cJx4a65c_fastRemove_b59b0 34 = .ok (.aload_n 1, 1) := by decide +kernel
theorem dJx4a65c_fastRemove_b59b0_35 : decode cJx4a65c_fastRemove_b59b0 35 = .ok (.aload_n 0, 1) := by decide +kernel
theorem dJx4a65c_fastRemove_b59b0_36 : decode cJx4a65c_fastRemove_b59b0 36 = .ok (.iload_n 3, 1) := by decide +kernel
theorem dJx4a65c_fastRemove_b59b0_37 : decode cJx4a65c_fastRemove_b59b0 37 = .ok (.dup_x1, 1) := by decide +kernel
theorem dJx4a65c_fastRemove_b59b0_38 : decode cJx4a65c_fastRemove_b59b0 38 = .ok (.putfield 48, 3) := by decide +kernel
theorem dJx4a65c_fastRemove_b59b0_41 : decode cJx4a65c_fastRemove_b59b0 41 = .ok (.aconst_null, 1) := by decide +kernel
theorem dJx4a65c_fastRemove_b59b0_42 : decode cJx4a65c_fastRemove_b59b0 42 = .ok (.aastore, 1) := by decide +kernel
theorem dJx4a65c_fastRemove_b59b0_43 : decode cJx4a65c_fastRemove_b59b0 43 = .ok (.return_, 1) := by decide +kernel
theorem dJx4a65c_clear_da8c8_0 : decode cJx4a65c_clear_da8c8 0 = .ok (.aload_n 0, 1) := by decide +kernel
theorem dJx4a65c_clear_da8c8_1 : decode cJx4a65c_clear_da8c8 1 = .ok (.dup, 1) := by decide +kernel
theorem dJx4a65c_clear_da8c8_2 : decode cJx4a65c_clear_da8c8 2 = .ok (.getfield 63, 3) := by decide +kernel
theorem dJx4a65c_clear_da8c8_5 : decode cJx4a65c_clear_da8c8 5 = .ok (.iconst 1, 1) := by decide +kernel
theorem dJx4a65c_clear_da8c8_6 : decode cJx4a65c_clear_da8c8 6 = .ok (.iadd, 1) := by decide +kernel
theorem dJx4a65c_clear_da8c8_7 : decode cJx4a65c_clear_da8c8 7 = .ok (.putfield 63, 3) := by decide +kernel
theorem dJx4a65c_clear_da8c8_10 : decode cJx4a65c_clear_da8c8 10 = .ok (.aload_n 0, 1) := by decide +kernel
theorem dJx4a65c_clear_da8c8_11 : decode cJx4a65c_clear_da8c8 11 = .ok (.getfield 9, 3) := by decide +kernel
theorem dJx4a65c_clear_da8c8_14 : decode cJx4a65c_clear_da8c8 14 = .ok (.astore_n 1, 1) := by decide +kernel
theorem dJx4a65c_clear_da8c8_15 : decode cJx4a65c_clear_da8c8 15 = .ok (.aload_n 0, 1) := by decide +kernel
theorem dJx4a65c_clear_da8c8_16 : decode cJx4a65c_clear_da8c8 16 = .ok (.getfield 48, 3) := by decide +kernel
theorem dJx4a65c_clear_da8c8_19 : decode cJx4a65c_clear_da8c8 19 = .ok (.istore_n 2, 1) := by decide +kernel
theorem dJx4a65c_clear_da8c8_20 : decode cJx4a65c_clear_da8c8 20 = .ok (.aload_n 0, 1) := by decide +kernel
theorem dJx4a65c_clear_da8c8_21 : decode cJx4a65c_clear_da8c8 21 = .ok (.iconst 0, 1) := by decide +kernel
theorem dJx4a65c_clear_da8c8_22 : decode cJx4a65c_clear_da8c8 22 = .ok (.dup_x1, 1) := by decide +kernel
theorem dJx4a65c_clear_da8c8_23 : decode cJx4a65c_clear_da8c8 23 = .ok (.putfield 48, 3) := by decide +kernel
theorem dJx4a65c_clear_da8c8_26 : decode cJx4a65c_clear_da8c8 26 = .ok (.istore_n 3, 1) := by decide +kernel
theorem dJx4a65c_clear_da8c8_27 : decode cJx4a65c_clear_da8c8 27 = .ok (.iload_n 3, 1) := by decide +kernel
theorem dJx4a65c_clear_da8c8_28 : decode cJx4a65c_clear_da8c8 28 = .ok (.iload_n 2, 1) := by decide +kernel
theorem dJx4a65c_clear_da8c8_29 : decode cJx4a65c_clear_da8c8 29 = .ok (.if_icmp .ge 13, 3) := by decide +kernel
theorem dJx4a65c_clear_da8c8_32 : decode cJx4a65c_clear_da8c8 32 = .ok (.aload_n 1, 1) := by decide +kernel
theorem dJx4a65c_clear_da8c8_33 : decode cJx4a65c_clear_da8c8 33 = .ok (.iload_n 3, 1) := by decide +kernel
theorem dJx4a65c_clear_da8c8_34 : decode cJx4a65c_clear_da8c8 34 = .ok (.aconst_null, 1) := by decide +kernel
theorem dJx4a65c_clear_da8c8_35 : decode cJx4a65c_clear_da8c8 35 = .ok (.aastore, 1) := by decide +kernel
theorem dJx4a65c_clear_da8c8_36 : decode cJx4a65c_clear_da8c8 36 = .ok (.iinc 3 1, 3) := by decide +kernel
theorem dJx4a65c_clear_da8c8_39 : decode cJx4a65c_clear_da8c8 39 = .ok (.goto (-12), 3) := by decide +kernel
theorem dJx4a65c_clear_da8c8_42 : decode cJx4a65c_clear_da8c8 42 = .ok (.return_, 1) := by decide +kernel
theorem dJ7_copyOf_1904c_0 : decode cJ7_copyOf_1904c 0 = .ok (.aload_n 0, 1) := by decide +kernel
theorem dJ7_copyOf_1904c_1 : decode cJ7_copyOf_1904c 1 = .ok (.iload_n 1, 1) := by decide +kernel
theorem dJ7_copyOf_1904c_2 : decode cJ7_copyOf_1904c 2 = .ok (.aload_n 0, 1) := by decide +kernel
theorem dJ7_copyOf_1904c_3 : decode cJ7_copyOf_1904c 3 = .ok (.invokevirtual 86, 3) := by decide +kernel
theorem dJ7_copyOf_1904c_6 : decode cJ7_copyOf_1904c 6 = .ok (.invokestatic 300, 3) := by decide +kernel
theorem dJ7_copyOf_1904c_9 : decode cJ7_copyOf_1904c 9 = .ok (.areturn, 1) := by decide +kernel
theorem dJ7_copyOf_6403c_0 : decode cJ7_copyOf_6403c 0 = .ok (.aload_n 2, 1) := by decide +kernel
theorem dJ7_copyOf_6403c_1 : decode cJ7_copyOf_6403c 1 = .ok (.ldc 110, 2) := by decide +kernel
theorem dJ7_copyOf_6403c_3 : decode cJ7_copyOf_6403c 3 = .ok (.if_acmp .ne 10, 3) := by decide +kernel
theorem dJ7_copyOf_6403c_6 : decode cJ7_copyOf_6403c 6 = .ok (.iload_n 1, 1) := by decide +kernel
theorem dJ7_copyOf_6403c_7 : decode cJ7_copyOf_6403c 7 = .ok (.anewarray 2, 3) := by decide +kernel
theorem dJ7_copyOf_6403c_10 : decode cJ7_copyOf_6403c 10 = .ok (.goto 14, 3) := by decide +kernel
theorem dJ7_copyOf_6403c_13 : decode cJ7_copyOf_6403c 13 = .ok (.aload_n 2, 1) := by decide +kernel
theorem dJ7_copyOf_6403c_14 : decode cJ7_copyOf_6403c 14 = .ok (.invokevirtual 90, 3) := by decide +kernel
theorem dJ7_copyOf_6403c_17 : decode cJ7_copyOf_6403c 17 = .ok (.iload_n 1, 1) := by decide +kernel
theorem dJ7_copyOf_6403c_18 : decode cJ7_copyOf_6403c 18 = .ok (.invokestatic 95, 3) := by decide +kernel
theorem dJ7_copyOf_6403c_21 : decode cJ7_copyOf_6403c 21 = .ok (.checkcast 110, 3) := by decide +kernel
theorem dJ7_copyOf_6403c_24 : decode cJ7_copyOf_6403c 24 = .ok (.astore_n 3, 1) := by decide +kernel
theorem dJ7_copyOf_6403c_25 : decode cJ7_copyOf_6403c 25 = .ok (.aload_n 0, 1) := by decide +kernel
theorem dJ7_copyOf_6403c_26 : decode cJ7_copyOf_6403c 26 = .ok (.iconst 0, 1) := by decide +kernel
theorem dJ7_copyOf_6403c_27 : decode cJ7_copyOf_6403c 27 = .ok (.aload_n 3, 1) := by decide +kernel
theorem dJ7_copyOf_6403c_28 : decode cJ7_copyOf_6403c 28 = .ok (.iconst 0, 1) := by decide +kernel
theorem dJ7_copyOf_6403c_29 : decode cJ7_copyOf_6403c 29 = .ok (.aload_n 0, 1) := by decide +kernel
theorem dJ7_copyOf_6403c_30 : decode cJ7_copyOf_6403c 30 = .ok (.arraylength, 1) := by decide +kernel
theorem dJ7_copyOf_6403c_31 : decode cJ7_copyOf_6403c 31 = .ok (.iload_n 1, 1) := by decide +kernel
theorem dJ7_copyOf_6403c_32 : decode cJ7_copyOf_6403c 32 = .ok (.invokestatic 304, 3) := by decide +kernel
theorem dJ7_copyOf_6403c_35 : decode cJ7_copyOf_6403c 35 = .ok (.invokestatic 150, 3) := by decide +kernel
theorem dJ7_copyOf_6403c_38 : decode cJ7_copyOf_6403c 38 = .ok (.aload_n 3, 1) := by decide +kernel
theorem dJ7_copyOf_6403c_39 : decode cJ7_copyOf_6403c 39 = .ok (.areturn, 1) := by decide +kernel
theorem dJ7_copyOf_59c91_0 : decode cJ7_copyOf_59c91 0 = .ok (.iload_n 1, 1) := by decide +kernel
theorem dJ7_copyOf_59c91_1 : decode cJ7_copyOf_59c91 1 = .ok (.aload_n 0, 1) := by decide +kernel
theorem dJ7_copyOf_59c91_2 : decode cJ7_copyOf_59c91 2 = .ok (.arraylength, 1) := by decide +kernel
theorem dJ7_copyOf_59c91_3 : decode cJ7_copyOf_59c91 3 = .ok (.if_icmp .ne 11, 3) := by decide +kernel
theorem dJ7_copyOf_59c91_6 : decode cJ7_copyOf_59c91 6 = .ok (.aload_n 0, 1) := by decide +kernel
theorem dJ7_copyOf_59c91_7 : decode cJ7_copyOf_59c91 7 = .ok (.invokevirtual 316, 3) := by decide +kernel
theorem dJ7_copyOf_59c91_10 : decode cJ7_copyOf_59c91 10 = .ok (.checkcast 317, 3) := by decide +kernel
theorem dJ7_copyOf_59c91_13 : decode cJ7_copyOf_59c91 13 = .ok (.areturn, 1) := by decide +kernel
theorem dJ7_copyOf_59c91_14 : decode cJ7_copyOf_59c91 14 = .ok (.iload_n 1, 1) := by decide +kernel
theorem dJ7_copyOf_59c91_15 : decode cJ7_copyOf_59c91 15 = .ok (.newarray .int, 2) := by decide +kernel
theorem dJ7_copyOf_59c91_17 : decode cJ7_copyOf_59c91 17 = .ok (.astore_n 2, 1) := by decide +kernel
theorem dJ7_copyOf_59c91_18 : decode cJ7_copyOf_59c91 18 = .ok (.aload_n 0, 1) := by decide +kernel
theorem dJ7_copyOf_59c91_19 : decode cJ7_copyOf_59c91 19 = .ok (.iconst 0, 1) := by decide +kernel
theorem dJ7_copyOf_59c91_20 : decode cJ7_copyOf_59c91 20 = .ok (.aload_n 2, 1) := by decide +kernel
theorem dJ7_copyOf_59c91_21 : decode cJ7_copyOf_59c91 21 = .ok (.iconst 0, 1) := by decide +kernel
theorem dJ7_copyOf_59c91_22 : decode cJ7_copyOf_59c91 22 = .ok (.aload_n 0, 1) := by decide +kernel
theorem dJ7_copyOf_59c91_23 : decode cJ7_copyOf_59c91 23 = .ok (.arraylength, 1) := by decide +kernel
theorem dJ7_copyOf_59c91_24 : decode cJ7_copyOf_59c91 24 = .ok (.iload_n 1, 1) := by decide +kernel
theorem dJ7_copyOf_59c91_25 : decode cJ7_copyOf_59c91 25 = .ok (.invokestatic 304, 3) := by decide +kernel
theorem dJ7_copyOf_59c91_28 : decode cJ7_copyOf_59c91 28 = .ok (.invokestatic 150, 3) := by decide +kernel
theorem dJ7_copyOf_59c91_31 : decode cJ7_copyOf_59c91 31 = .ok (.aload_n 2, 1) := by decide +kernel
theorem dJ7_copyOf_59c91_32 : decode cJ7_copyOf_59c91 32 = .ok (.areturn, 1) := by decide +kernel
theorem dJ15_checkIndex_7cf53_0 : decode cJ15_checkIndex_7cf53 0 = .ok (.iload_n 0, 1) := by decide +kernel
theorem dJ15_checkIndex_7cf53_1 : decode cJ15_checkIndex_7cf53 1 = .ok (.iload_n 1, 1) := by decide +kernel
theorem dJ15_checkIndex_7cf53_2 : decode cJ15_checkIndex_7cf53 2 = .ok (.aconst_null, 1) := by decide +kernel
theorem dJ15_checkIndex_7cf53_3 : decode cJ15_checkIndex_7cf53 3 = .ok (.invokestatic 105, 3) := by decide +kernel
theorem dJ15_checkIndex_7cf53_6 : decode cJ15_checkIndex_7cf53 6 = .ok (.ireturn, 1) := by decide +kernel
theorem dJ8_newLength_cabcc_0 : decode cJ8_newLength_cabcc 0 = .ok (.iload_n 0, 1) := by decide +kernel
theorem dJ8_newLength_cabcc_1 : decode cJ8_newLength_cabcc 1 = .ok (.iload_n 1, 1) := by decide +kernel
theorem dJ8_newLength_cabcc_2 : decode cJ8_newLength_cabcc 2 = .ok (.iload_n 2, 1) := by decide +kernel
theorem dJ8_newLength_cabcc_3 : decode cJ8_newLength_cabcc 3 = .ok (.invokestatic 194, 3) := by decide +kernel
theorem dJ8_newLength_cabcc_6 : decode cJ8_newLength_cabcc 6 = .ok (.iadd, 1) := by decide +kernel
theorem dJ8_newLength_cabcc_7 : decode cJ8_newLength_cabcc 7 = .ok (.istore_n 3, 1) := by decide +kernel
theorem dJ8_newLength_cabcc_8 : decode cJ8_newLength_cabcc 8 = .ok (.iconst 0, 1) := by decide +kernel
theorem dJ8_newLength_cabcc_9 : decode cJ8_newLength_cabcc 9 = .ok (.iload_n 3, 1) := by decide +kernel
theorem dJ8_newLength_cabcc_10 : decode cJ8_newLength_cabcc 10 = .ok (.if_icmp .ge 11, 3) := by decide +kernel
theorem dJ8_newLength_cabcc_13 : decode cJ8_newLength_cabcc 13 = .ok (.iload_n 3, 1) := by decide +kernel
theorem dJ8_newLength_cabcc_14 : decode cJ8_newLength_cabcc 14 = .ok (.ldc 200, 2) := by decide +kernel
theorem dJ8_newLength_cabcc_16 : decode cJ8_newLength_cabcc 16 = .ok (.if_icmp .gt 5, 3) := by decide +kernel
theorem dJ8_newLength_cabcc_19 : decode cJ8_newLength_cabcc 19 = .ok (.iload_n 3, 1) := by decide +kernel
theorem dJ8_newLength_cabcc_20 : decode cJ8_newLength_cabcc 20 = .ok (.ireturn, 1) := by decide +kernel
theorem dJ8_newLength_cabcc_21 : decode cJ8_newLength_cabcc 21 = .ok (.iload_n 0, 1) := by decide +kernel
theorem dJ8_newLength_cabcc_22 : decode cJ8_newLength_cabcc 22 = .ok (.iload_n 1, 1) := by decide +kernel
theorem dJ8_newLength_cabcc_23 : decode cJ8_newLength_cabcc 23 = .ok (.invokestatic 201, 3) := by decide +kernel
theorem dJ8_newLength_cabcc_26 : decode cJ8_newLength_cabcc 26 = .ok (.ireturn, 1) := by decide +kernel
theorem dJ8_hugeLength_7cf53_0 : decode cJ8_hugeLength_7cf53 0 = .ok (.iload_n 0, 1) := by decide +kernel
theorem dJ8_hugeLength_7cf53_1 : decode cJ8_hugeLength_7cf53 1 = .ok (.iload_n 1, 1) := by decide +kernel
theorem dJ8_hugeLength_7cf53_2 : decode cJ8_hugeLength_7cf53 2 = .ok (.iadd, 1) := by decide +kernel
theorem dJ8_hugeLength_7cf53_3 : decode cJ8_hugeLength_7cf53 3 = .ok (.istore_n 2, 1) := by decide +kernel
theorem dJ8_hugeLength_7cf53_4 : decode cJ8_hugeLength_7cf53 4 = .ok (.iload_n 2, 1) := by decide +kernel
theorem dJ8_hugeLength_7cf53_5 : decode cJ8_hugeLength_7cf53 5 = .ok (.ifCond .ge 44, 3) := by decide +kernel
theorem dJ8_hugeLength_7cf53_8 : decode cJ8_hugeLength_7cf53 8 = .ok (.new 204, 3) := by decide +kernel
theorem dJ8_hugeLength_7cf53_11 : decode cJ8_hugeLength_7cf53 11 = .ok (.dup, 1) := by decide +kernel
theorem dJ8_hugeLength_7cf53_12 : decode cJ8_hugeLength_7cf53 12 = .ok (.new 89, 3) := by decide +kernel
theorem dJ8_hugeLength_7cf53_15 : decode cJ8_hugeLength_7cf53 15 = .ok (.dup, 1) := by decide +kernel
theorem dJ8_hugeLength_7cf53_16 : decode cJ8_hugeLength_7cf53 16 = .ok (.invokespecial 91, 3) := by decide +kernel
theorem dJ8_hugeLength_7cf53_19 : decode cJ8_hugeLength_7cf53 19 = .ok (.ldc 206, 2) := by decide +kernel
theorem dJ8_hugeLength_7cf53_21 : decode cJ8_hugeLength_7cf53 21 = .ok (.invokevirtual 94, 3) := by decide +kernel
theorem dJ8_hugeLength_7cf53_24 : decode cJ8_hugeLength_7cf53 24 = .ok (.iload_n 0, 1) := by decide +kernel
theorem dJ8_hugeLength_7cf53_25 : decode cJ8_hugeLength_7cf53 25 = .ok (.invokevirtual 98, 3) := by decide +kernel
theorem dJ8_hugeLength_7cf53_28 : decode cJ8_hugeLength_7cf53 28 = .ok (.ldc 208, 2) := by decide +kernel
theorem dJ8_hugeLength_7cf53_30 : decode cJ8_hugeLength_7cf53 30 = .ok (.invokevirtual 94, 3) := by decide +kernel
theorem dJ8_hugeLength_7cf53_33 : decode cJ8_hugeLength_7cf53 33 = .ok (.iload_n 1, 1) := by decide +kernel
theorem dJ8_hugeLength_7cf53_34 : decode cJ8_hugeLength_7cf53 34 = .ok (.invokevirtual 98, 3) := by decide +kernel
theorem dJ8_hugeLength_7cf53_37 : decode cJ8_hugeLength_7cf53 37 = .ok (.ldc 210, 2) := by decide +kernel
theorem dJ8_hugeLength_7cf53_39 : decode cJ8_hugeLength_7cf53 39 = .ok (.invokevirtual 94, 3) := by decide +kernel
theorem dJ8_hugeLength_7cf53_42 : decode cJ8_hugeLength_7cf53 42 = .ok (.invokevirtual 101, 3) := by decide +kernel
theorem dJ8_hugeLength_7cf53_45 : decode cJ8_hugeLength_7cf53 45 = .ok (.invokespecial 212, 3) := by decide +kernel
theorem dJ8_hugeLength_7cf53_48 : decode cJ8_hugeLength_7cf53 48 = .ok (.athrow, 1) := by decide +kernel
theorem dJ8_hugeLength_7cf53_49 : decode cJ8_hugeLength_7cf53 49 = .ok (.iload_n 2, 1) := by decide +kernel
theorem dJ8_hugeLength_7cf53_50 : decode cJ8_hugeLength_7cf53 50 = .ok (.ldc 200, 2) := by decide +kernel
theorem dJ8_hugeLength_7cf53_52 : decode cJ8_hugeLength_7cf53 52 = .ok (.if_icmp .gt 6, 3) := by decide +kernel
theorem dJ8_hugeLength_7cf53_55 : decode cJ8_hugeLength_7cf53 55 = .ok (.ldc 200, 2) := by decide +kernel
theorem dJ8_hugeLength_7cf53_57 : decode cJ8_hugeLength_7cf53 57 = .ok (.ireturn, 1) := by decide +kernel
theorem dJ8_hugeLength_7cf53_58 : decode cJ8_hugeLength_7cf53 58 = .ok (.iload_n 2, 1) := by decide +kernel
theorem dJ8_hugeLength_7cf53_59 : decode cJ8_hugeLength_7cf53 59 = .ok (.ireturn, 1) := by decide +kernel
theorem dJ3_checkIndex_8e157_0 : decode cJ3_checkIndex_8e157 0 = .ok (.iload_n 0, 1) := by decide +kernel
theorem dJ3_checkIndex_8e157_1 : decode cJ3_checkIndex_8e157 1 = .ok (.ifCond .lt 8, 3) := by decide +kernel
theorem dJ3_checkIndex_8e157_4 : decode cJ3_checkIndex_8e157 4 = .ok (.iload_n 0, 1) := by decide +kernel
theorem dJ3_checkIndex_8e157_5 : decode cJ3_checkIndex_8e157 5 = .ok (.iload_n 1, 1) := by decide +kernel
theorem dJ3_checkIndex_8e157_6 : decode cJ3_checkIndex_8e157 6 = .ok (.if_icmp .lt 10, 3) := by decide +kernel
theorem dJ3_checkIndex_8e157_9 : decode cJ3_checkIndex_8e157 9 = .ok (.aload_n 2, 1) := by decide +kernel
theorem dJ3_checkIndex_8e157_10 : decode cJ3_checkIndex_8e157 10 = .ok (.iload_n 0, 1) := by decide +kernel
theorem dJ3_checkIndex_8e157_11 : decode cJ3_checkIndex_8e157 11 = .ok (.iload_n 1, 1) := by decide +kernel
theorem dJ3_checkIndex_8e157_12 : decode cJ3_checkIndex_8e157 12 = .ok (.invokestatic 95, 3) := by decide +kernel
theorem dJ3_checkIndex_8e157_15 : decode cJ3_checkIndex_8e157 15 = .ok (.athrow, 1) := by decide +kernel
theorem dJ3_checkIndex_8e157_16 : decode cJ3_checkIndex_8e157 16 = .ok (.iload_n 0, 1) := by decide +kernel
theorem dJ3_checkIndex_8e157_17 : decode cJ3_checkIndex_8e157 17 = .ok (.ireturn, 1) := by decide +kernel
theorem dL_suite_0 : decode cL_suite 0 = .ok (.aload_n 3, 1) := by decide +kernel
theorem dL_suite_1 : decode cL_suite 1 = .ok (.iconst 0, 1) := by decide +kernel
theorem dL_suite_2 : decode cL_suite 2 = .ok (.aload_n 0, 1) := by decide +kernel
theorem dL_suite_3 : decode cL_suite 3 = .ok (.iload_n 1, 1) := by decide +kernel
theorem dL_suite_4 : decode cL_suite 4 = .ok (.iload_n 2, 1) := by decide +kernel
theorem dL_suite_5 : decode cL_suite 5 = .ok (.invokevirtual 7, 3) := by decide +kernel
theorem dL_suite_8 : decode cL_suite 8 = .ok (.i2l, 1) := by decide +kernel
theorem dL_suite_9 : decode cL_suite 9 = .ok (.lastore, 1) := by decide +kernel
theorem dL_suite_10 : decode cL_suite 10 = .ok (.goto 15, 3) := by decide +kernel
theorem dL_suite_13 : decode cL_suite 13 = .ok (.astore 4, 2) := by decide +kernel
theorem dL_suite_15 : decode cL_suite 15 = .ok (.iconst 1, 1) := by decide +kernel
theorem dL_suite_16 : decode cL_suite 16 = .ok (.ireturn, 1) := by decide +kernel
theorem dL_suite_17 : decode cL_suite 17 = .ok (.astore 4, 2) := by decide +kernel
theorem dL_suite_19 : decode cL_suite 19 = .ok (.iconst 2, 1) := by decide +kernel
theorem dL_suite_20 : decode cL_suite 20 = .ok (.ireturn, 1) := by decide +kernel
theorem dL_suite_21 : decode cL_suite 21 = .ok (.astore 4, 2) := by decide +kernel
theorem dL_suite_23 : decode cL_suite 23 = .ok (.iconst 3, 1) := by decide +kernel
theorem dL_suite_24 : decode cL_suite 24 = .ok (.ireturn, 1) := by decide +kernel
theorem dL_suite_25 : decode cL_suite 25 = .ok (.iconst 0, 1) := by decide +kernel
theorem dL_suite_26 : decode cL_suite 26 = .ok (.ireturn, 1) := by decide +kernel
theorem dL_range_0 : decode cL_range 0 = .ok (.aload 4, 2) := by decide +kernel
theorem dL_range_2 : decode cL_range 2 = .ok (.iconst 0, 1) := by decide +kernel
theorem dL_range_3 : decode cL_range 3 = .ok (.aload_n 0, 1) := by decide +kernel
theorem dL_range_4 : decode cL_range 4 = .ok (.iload_n 1, 1) := by decide +kernel
theorem dL_range_5 : decode cL_range 5 = .ok (.iload_n 2, 1) := by decide +kernel
theorem dL_range_6 : decode cL_range 6 = .ok (.iload_n 3, 1) := by decide +kernel
theorem dL_range_7 : decode cL_range 7 = .ok (.invokevirtual 19, 3) := by decide +kernel
theorem dL_range_10 : decode cL_range 10 = .ok (.i2l, 1) := by decide +kernel
theorem dL_range_11 : decode cL_range 11 = .ok (.lastore, 1) := by decide +kernel
theorem dL_range_12 : decode cL_range 12 = .ok (.goto 11, 3) := by decide +kernel
theorem dL_range_15 : decode cL_range 15 = .ok (.astore 5, 2) := by decide +kernel
theorem dL_range_17 : decode cL_range 17 = .ok (.iconst 1, 1) := by decide +kernel
theorem dL_range_18 : decode cL_range 18 = .ok (.ireturn, 1) := by decide +kernel
theorem dL_range_19 : decode cL_range 19 = .ok (.astore 5, 2) := by decide +kernel
theorem dL_range_21 : decode cL_range 21 = .ok (.iconst 2, 1) := by decide +kernel
theorem dL_range_22 : decode cL_range 22 = .ok (.ireturn, 1) := by decide +kernel
theorem dL_range_23 : decode cL_range 23 = .ok (.iconst 0, 1) := by decide +kernel
theorem dL_range_24 : decode cL_range 24 = .ok (.ireturn, 1) := by decide +kernel
theorem dL_seed_0 : decode cL_seed 0 = .ok (.aload_n 0, 1) := by decide +kernel
theorem dL_seed_1 : decode cL_seed 1 = .ok (.iload_n 1, 1) := by decide +kernel
theorem dL_seed_2 : decode cL_seed 2 = .ok (.iload_n 2, 1) := by decide +kernel
theorem dL_seed_3 : decode cL_seed 3 = .ok (.invokevirtual 23, 3) := by decide +kernel
theorem dL_seed_6 : decode cL_seed 6 = .ok (.goto 6, 3) := by decide +kernel
theorem dL_seed_9 : decode cL_seed 9 = .ok (.astore_n 3, 1) := by decide +kernel
theorem dL_seed_10 : decode cL_seed 10 = .ok (.iconst 1, 1) := by decide +kernel
theorem dL_seed_11 : decode cL_seed 11 = .ok (.ireturn, 1) := by decide +kernel
theorem dL_seed_12 : decode cL_seed 12 = .ok (.iconst 0, 1) := by decide +kernel
theorem dL_seed_13 : decode cL_seed 13 = .ok (.ireturn, 1) := by decide +kernel
theorem dL_wish_0 : decode cL_wish 0 = .ok (.aload 4, 2) := by decide +kernel
theorem dL_wish_2 : decode cL_wish 2 = .ok (.iconst 0, 1) := by decide +kernel
theorem dL_wish_3 : decode cL_wish 3 = .ok (.aload_n 0, 1) := by decide +kernel
theorem dL_wish_4 : decode cL_wish 4 = .ok (.iload_n 1, 1) := by decide +kernel
theorem dL_wish_5 : decode cL_wish 5 = .ok (.iload_n 2, 1) := by decide +kernel
theorem dL_wish_6 : decode cL_wish 6 = .ok (.iload_n 3, 1) := by decide +kernel
theorem dL_wish_7 : decode cL_wish 7 = .ok (.invokevirtual 27, 3) := by decide +kernel
theorem dL_wish_10 : decode cL_wish 10 = .ok (.i2l, 1) := by decide +kernel
theorem dL_wish_11 : decode cL_wish 11 = .ok (.lastore, 1) := by decide +kernel
theorem dL_wish_12 : decode cL_wish 12 = .ok (.goto 19, 3) := by decide +kernel
theorem dL_wish_15 : decode cL_wish 15 = .ok (.astore 5, 2) := by decide +kernel
theorem dL_wish_17 : decode cL_wish 17 = .ok (.iconst 1, 1) := by decide +kernel
theorem dL_wish_18 : decode cL_wish 18 = .ok (.ireturn, 1) := by decide +kernel
theorem dL_wish_19 : decode cL_wish 19 = .ok (.astore 5, 2) := by decide +kernel
theorem dL_wish_21 : decode cL_wish 21 = .ok (.iconst 2, 1) := by decide +kernel
theorem dL_wish_22 : decode cL_wish 22 = .ok (.ireturn, 1) := by decide +kernel
theorem dL_wish_23 : decode cL_wish 23 = .ok (.astore 5, 2) := by decide +kernel
theorem dL_wish_25 : decode cL_wish 25 = .ok (.iconst 3, 1) := by decide +kernel
theorem dL_wish_26 : decode cL_wish 26 = .ok (.ireturn, 1) := by decide +kernel
theorem dL_wish_27 : decode cL_wish 27 = .ok (.astore 5, 2) := by decide +kernel
theorem dL_wish_29 : decode cL_wish 29 = .ok (.iconst 4, 1) := by decide +kernel
theorem dL_wish_30 : decode cL_wish 30 = .ok (.ireturn, 1) := by decide +kernel
theorem dL_wish_31 : decode cL_wish 31 = .ok (.iconst 0, 1) := by decide +kernel
theorem dL_wish_32 : decode cL_wish 32 = .ok (.ireturn, 1) := by decide +kernel
theorem dL_deliver_0 : decode cL_deliver 0 = .ok (.aload_n 3, 1) := by decide +kernel
theorem dL_deliver_1 : decode cL_deliver 1 = .ok (.iconst 0, 1) := by decide +kernel
theorem dL_deliver_2 : decode cL_deliver 2 = .ok (.aload_n 0, 1) := by decide +kernel
theorem dL_deliver_3 : decode cL_deliver 3 = .ok (.iload_n 1, 1) := by decide +kernel
theorem dL_deliver_4 : decode cL_deliver 4 = .ok (.iload_n 2, 1) := by decide +kernel
theorem dL_deliver_5 : decode cL_deliver 5 = .ok (.invokevirtual 32, 3) := by decide +kernel
theorem dL_deliver_8 : decode cL_deliver 8 = .ok (.i2l, 1) := by decide +kernel
theorem dL_deliver_9 : decode cL_deliver 9 = .ok (.lastore, 1) := by decide +kernel
theorem dL_deliver_10 : decode cL_deliver 10 = .ok (.goto 7, 3) := by decide +kernel
theorem dL_deliver_13 : decode cL_deliver 13 = .ok (.astore 4, 2) := by decide +kernel
theorem dL_deliver_15 : decode cL_deliver 15 = .ok (.iconst 1, 1) := by decide +kernel
theorem dL_deliver_16 : decode cL_deliver 16 = .ok (.ireturn, 1) := by decide +kernel
theorem dL_deliver_17 : decode cL_deliver 17 = .ok (.iconst 0, 1) := by decide +kernel
theorem dL_deliver_18 : decode cL_deliver 18 = .ok (.ireturn, 1) := by decide +kernel
theorem dL_lose_0 : decode cL_lose 0 = .ok (.aload_n 3, 1) := by decide +kernel
theorem dL_lose_1 : decode cL_lose 1 = .ok (.iconst 0, 1) := by decide +kernel
theorem dL_lose_2 : decode cL_lose 2 = .ok (.aload_n 0, 1) := by decide +kernel
theorem dL_lose_3 : decode cL_lose 3 = .ok (.iload_n 1, 1) := by decide +kernel
theorem dL_lose_4 : decode cL_lose 4 = .ok (.iload_n 2, 1) := by decide +kernel
theorem dL_lose_5 : decode cL_lose 5 = .ok (.invokevirtual 35, 3) := by decide +kernel
theorem dL_lose_8 : decode cL_lose 8 = .ok (.i2l, 1) := by decide +kernel
theorem dL_lose_9 : decode cL_lose 9 = .ok (.lastore, 1) := by decide +kernel
theorem dL_lose_10 : decode cL_lose 10 = .ok (.goto 7, 3) := by decide +kernel
theorem dL_lose_13 : decode cL_lose 13 = .ok (.astore 4, 2) := by decide +kernel
theorem dL_lose_15 : decode cL_lose 15 = .ok (.iconst 1, 1) := by decide +kernel
theorem dL_lose_16 : decode cL_lose 16 = .ok (.ireturn, 1) := by decide +kernel
theorem dL_lose_17 : decode cL_lose 17 = .ok (.iconst 0, 1) := by decide +kernel
theorem dL_lose_18 : decode cL_lose 18 = .ok (.ireturn, 1) := by decide +kernel
theorem dL_twice_0 : decode cL_twice 0 = .ok (.aload_n 3, 1) := by decide +kernel
theorem dL_twice_1 : decode cL_twice 1 = .ok (.iconst 0, 1) := by decide +kernel
theorem dL_twice_2 : decode cL_twice 2 = .ok (.aload_n 0, 1) := by decide +kernel
theorem dL_twice_3 : decode cL_twice 3 = .ok (.iload_n 1, 1) := by decide +kernel
theorem dL_twice_4 : decode cL_twice 4 = .ok (.iload_n 2, 1) := by decide +kernel
theorem dL_twice_5 : decode cL_twice 5 = .ok (.invokevirtual 38, 3) := by decide +kernel
theorem dL_twice_8 : decode cL_twice 8 = .ok (.i2l, 1) := by decide +kernel
theorem dL_twice_9 : decode cL_twice 9 = .ok (.lastore, 1) := by decide +kernel
theorem dL_twice_10 : decode cL_twice 10 = .ok (.goto 7, 3) := by decide +kernel
theorem dL_twice_13 : decode cL_twice 13 = .ok (.astore 4, 2) := by decide +kernel
theorem dL_twice_15 : decode cL_twice 15 = .ok (.iconst 1, 1) := by decide +kernel
theorem dL_twice_16 : decode cL_twice 16 = .ok (.ireturn, 1) := by decide +kernel
theorem dL_twice_17 : decode cL_twice 17 = .ok (.iconst 0, 1) := by decide +kernel
theorem dL_twice_18 : decode cL_twice 18 = .ok (.ireturn, 1) := by decide +kernel
theorem dL_tick_0 : decode cL_tick 0 = .ok (.aload_n 2, 1) := by decide +kernel
theorem dL_tick_1 : decode cL_tick 1 = .ok (.iconst 0, 1) := by decide +kernel
theorem dL_tick_2 : decode cL_tick 2 = .ok (.aload_n 0, 1) := by decide +kernel
theorem dL_tick_3 : decode cL_tick 3 = .ok (.iload_n 1, 1) := by decide +kernel
theorem dL_tick_4 : decode cL_tick 4 = .ok (.invokevirtual 41, 3) := by decide +kernel
theorem dL_tick_7 : decode cL_tick 7 = .ok (.i2l, 1) := by decide +kernel
theorem dL_tick_8 : decode cL_tick 8 = .ok (.lastore, 1) := by decide +kernel
theorem dL_tick_9 : decode cL_tick 9 = .ok (.goto 6, 3) := by decide +kernel
theorem dL_tick_12 : decode cL_tick 12 = .ok (.astore_n 3, 1) := by decide +kernel
theorem dL_tick_13 : decode cL_tick 13 = .ok (.iconst 1, 1) := by decide +kernel
theorem dL_tick_14 : decode cL_tick 14 = .ok (.ireturn, 1) := by decide +kernel
theorem dL_tick_15 : decode cL_tick 15 = .ok (.iconst 0, 1) := by decide +kernel
theorem dL_tick_16 : decode cL_tick 16 = .ok (.ireturn, 1) := by decide +kernel
theorem dL_children_0 : decode cL_children 0 = .ok (.aload_n 2, 1) := by decide +kernel
theorem dL_children_1 : decode cL_children 1 = .ok (.iconst 0, 1) := by decide +kernel
theorem dL_children_2 : decode cL_children 2 = .ok (.aload_n 0, 1) := by decide +kernel
theorem dL_children_3 : decode cL_children 3 = .ok (.iload_n 1, 1) := by decide +kernel
theorem dL_children_4 : decode cL_children 4 = .ok (.invokevirtual 45, 3) := by decide +kernel
theorem dL_children_7 : decode cL_children 7 = .ok (.i2l, 1) := by decide +kernel
theorem dL_children_8 : decode cL_children 8 = .ok (.lastore, 1) := by decide +kernel
theorem dL_children_9 : decode cL_children 9 = .ok (.goto 6, 3) := by decide +kernel
theorem dL_children_12 : decode cL_children 12 = .ok (.astore_n 3, 1) := by decide +kernel
theorem dL_children_13 : decode cL_children 13 = .ok (.iconst 1, 1) := by decide +kernel
theorem dL_children_14 : decode cL_children 14 = .ok (.ireturn, 1) := by decide +kernel
theorem dL_children_15 : decode cL_children 15 = .ok (.iconst 0, 1) := by decide +kernel
theorem dL_children_16 : decode cL_children 16 = .ok (.ireturn, 1) := by decide +kernel
theorem dL_child_0 : decode cL_child 0 = .ok (.aload 4, 2) := by decide +kernel
theorem dL_child_2 : decode cL_child 2 = .ok (.iconst 0, 1) := by decide +kernel
theorem dL_child_3 : decode cL_child 3 = .ok (.aload_n 0, 1) := by decide +kernel
theorem dL_child_4 : decode cL_child 4 = .ok (.iload_n 1, 1) := by decide +kernel
theorem dL_child_5 : decode cL_child 5 = .ok (.iload_n 2, 1) := by decide +kernel
theorem dL_child_6 : decode cL_child 6 = .ok (.iload_n 3, 1) := by decide +kernel
theorem dL_child_7 : decode cL_child 7 = .ok (.invokevirtual 48, 3) := by decide +kernel
theorem dL_child_10 : decode cL_child 10 = .ok (.i2l, 1) := by decide +kernel
theorem dL_child_11 : decode cL_child 11 = .ok (.lastore, 1) := by decide +kernel
theorem dL_child_12 : decode cL_child 12 = .ok (.goto 11, 3) := by decide +kernel
theorem dL_child_15 : decode cL_child 15 = .ok (.astore 5, 2) := by decide +kernel
theorem dL_child_17 : decode cL_child 17 = .ok (.iconst 1, 1) := by decide +kernel
theorem dL_child_18 : decode cL_child 18 = .ok (.ireturn, 1) := by decide +kernel
theorem dL_child_19 : decode cL_child 19 = .ok (.astore 5, 2) := by decide +kernel
theorem dL_child_21 : decode cL_child 21 = .ok (.iconst 2, 1) := by decide +kernel
theorem dL_child_22 : decode cL_child 22 = .ok (.ireturn, 1) := by decide +kernel
theorem dL_child_23 : decode cL_child 23 = .ok (.iconst 0, 1) := by decide +kernel
theorem dL_child_24 : decode cL_child 24 = .ok (.ireturn, 1) := by decide +kernel
theorem dL_flying_0 : decode cL_flying 0 = .ok (.aload_n 2, 1) := by decide +kernel
theorem dL_flying_1 : decode cL_flying 1 = .ok (.iconst 0, 1) := by decide +kernel
theorem dL_flying_2 : decode cL_flying 2 = .ok (.aload_n 0, 1) := by decide +kernel
theorem dL_flying_3 : decode cL_flying 3 = .ok (.iload_n 1, 1) := by decide +kernel
theorem dL_flying_4 : decode cL_flying 4 = .ok (.invokevirtual 51, 3) := by decide +kernel
theorem dL_flying_7 : decode cL_flying 7 = .ok (.i2l, 1) := by decide +kernel
theorem dL_flying_8 : decode cL_flying 8 = .ok (.lastore, 1) := by decide +kernel
theorem dL_flying_9 : decode cL_flying 9 = .ok (.goto 6, 3) := by decide +kernel
theorem dL_flying_12 : decode cL_flying 12 = .ok (.astore_n 3, 1) := by decide +kernel
theorem dL_flying_13 : decode cL_flying 13 = .ok (.iconst 1, 1) := by decide +kernel
theorem dL_flying_14 : decode cL_flying 14 = .ok (.ireturn, 1) := by decide +kernel
theorem dL_flying_15 : decode cL_flying 15 = .ok (.iconst 0, 1) := by decide +kernel
theorem dL_flying_16 : decode cL_flying 16 = .ok (.ireturn, 1) := by decide +kernel
theorem dL_packet_0 : decode cL_packet 0 = .ok (.aload 4, 2) := by decide +kernel
theorem dL_packet_2 : decode cL_packet 2 = .ok (.iconst 0, 1) := by decide +kernel
theorem dL_packet_3 : decode cL_packet 3 = .ok (.aload_n 0, 1) := by decide +kernel
theorem dL_packet_4 : decode cL_packet 4 = .ok (.iload_n 1, 1) := by decide +kernel
theorem dL_packet_5 : decode cL_packet 5 = .ok (.iload_n 2, 1) := by decide +kernel
theorem dL_packet_6 : decode cL_packet 6 = .ok (.iload_n 3, 1) := by decide +kernel
theorem dL_packet_7 : decode cL_packet 7 = .ok (.invokevirtual 54, 3) := by decide +kernel
theorem dL_packet_10 : decode cL_packet 10 = .ok (.i2l, 1) := by decide +kernel
theorem dL_packet_11 : decode cL_packet 11 = .ok (.lastore, 1) := by decide +kernel
theorem dL_packet_12 : decode cL_packet 12 = .ok (.goto 11, 3) := by decide +kernel
theorem dL_packet_15 : decode cL_packet 15 = .ok (.astore 5, 2) := by decide +kernel
theorem dL_packet_17 : decode cL_packet 17 = .ok (.iconst 1, 1) := by decide +kernel
theorem dL_packet_18 : decode cL_packet 18 = .ok (.ireturn, 1) := by decide +kernel
theorem dL_packet_19 : decode cL_packet 19 = .ok (.astore 5, 2) := by decide +kernel
theorem dL_packet_21 : decode cL_packet 21 = .ok (.iconst 2, 1) := by decide +kernel
theorem dL_packet_22 : decode cL_packet 22 = .ok (.ireturn, 1) := by decide +kernel
theorem dL_packet_23 : decode cL_packet 23 = .ok (.iconst 0, 1) := by decide +kernel
theorem dL_packet_24 : decode cL_packet 24 = .ok (.ireturn, 1) := by decide +kernel
theorem dL_told_0 : decode cL_told 0 = .ok (.aload_n 3, 1) := by decide +kernel
theorem dL_told_1 : decode cL_told 1 = .ok (.iconst 0, 1) := by decide +kernel
theorem dL_told_2 : decode cL_told 2 = .ok (.aload_n 0, 1) := by decide +kernel
theorem dL_told_3 : decode cL_told 3 = .ok (.iload_n 1, 1) := by decide +kernel
theorem dL_told_4 : decode cL_told 4 = .ok (.iload_n 2, 1) := by decide +kernel
theorem dL_told_5 : decode cL_told 5 = .ok (.invokevirtual 57, 3) := by decide +kernel
theorem dL_told_8 : decode cL_told 8 = .ok (.i2l, 1) := by decide +kernel
theorem dL_told_9 : decode cL_told 9 = .ok (.lastore, 1) := by decide +kernel
theorem dL_told_10 : decode cL_told 10 = .ok (.goto 11, 3) := by decide +kernel
theorem dL_told_13 : decode cL_told 13 = .ok (.astore 4, 2) := by decide +kernel
theorem dL_told_15 : decode cL_told 15 = .ok (.iconst 1, 1) := by decide +kernel
theorem dL_told_16 : decode cL_told 16 = .ok (.ireturn, 1) := by decide +kernel
theorem dL_told_17 : decode cL_told 17 = .ok (.astore 4, 2) := by decide +kernel
theorem dL_told_19 : decode cL_told 19 = .ok (.iconst 2, 1) := by decide +kernel
theorem dL_told_20 : decode cL_told 20 = .ok (.ireturn, 1) := by decide +kernel
theorem dL_told_21 : decode cL_told 21 = .ok (.iconst 0, 1) := by decide +kernel
theorem dL_told_22 : decode cL_told 22 = .ok (.ireturn, 1) := by decide +kernel
