theorem dX10_wish_35 : decode cX10_wish 35 = .ok (.ifCond .lt 13, 3) := by decide +kernel
theorem dX10_wish_38 : decode cX10_wish 38 = .ok (.iload_n 3, 1) := by decide +kernel
theorem dX10_wish_39 : decode cX10_wish 39 = .ok (.aload_n 0, 1) := by decide +kernel
theorem dX10_wish_40 : decode cX10_wish 40 = .ok (.getfield 28, 3) := by decide +kernel
theorem dX10_wish_43 : decode cX10_wish 43 = .ok (.iload_n 1, 1) := by decide +kernel
theorem dX10_wish_44 : decode cX10_wish 44 = .ok (.iaload, 1) := by decide +kernel
theorem dX10_wish_45 : decode cX10_wish 45 = .ok (.if_icmp .lt 7, 3) := by decide +kernel
theorem dX10_wish_48 : decode cX10_wish 48 = .ok (.iconst 1, 1) := by decide +kernel
theorem dX10_wish_49 : decode cX10_wish 49 = .ok (.goto 45, 3) := by decide +kernel
theorem dX10_wish_52 : decode cX10_wish 52 = .ok (.iload_n 2, 1) := by decide +kernel
theorem dX10_wish_53 : decode cX10_wish 53 = .ok (.ifCond .eq 12, 3) := by decide +kernel
theorem dX10_wish_56 : decode cX10_wish 56 = .ok (.iload 4, 2) := by decide +kernel
theorem dX10_wish_58 : decode cX10_wish 58 = .ok (.ifCond .ne 7, 3) := by decide +kernel
theorem dX10_wish_61 : decode cX10_wish 61 = .ok (.iconst 2, 1) := by decide +kernel
theorem dX10_wish_62 : decode cX10_wish 62 = .ok (.goto 32, 3) := by decide +kernel
theorem dX10_wish_65 : decode cX10_wish 65 = .ok (.aload_n 0, 1) := by decide +kernel
theorem dX10_wish_66 : decode cX10_wish 66 = .ok (.getfield 43, 3) := by decide +kernel
theorem dX10_wish_69 : decode cX10_wish 69 = .ok (.iload_n 1, 1) := by decide +kernel
theorem dX10_wish_70 : decode cX10_wish 70 = .ok (.baload, 1) := by decide +kernel
theorem dX10_wish_71 : decode cX10_wish 71 = .ok (.ifCond .eq 7, 3) := by decide +kernel
theorem dX10_wish_74 : decode cX10_wish 74 = .ok (.iconst 3, 1) := by decide +kernel
theorem dX10_wish_75 : decode cX10_wish 75 = .ok (.goto 19, 3) := by decide +kernel
theorem dX10_wish_78 : decode cX10_wish 78 = .ok (.aload_n 0, 1) := by decide +kernel
theorem dX10_wish_79 : decode cX10_wish 79 = .ok (.getfield 34, 3) := by decide +kernel
theorem dX10_wish_82 : decode cX10_wish 82 = .ok (.iload_n 1, 1) := by decide +kernel
theorem dX10_wish_83 : decode cX10_wish 83 = .ok (.iaload, 1) := by decide +kernel
theorem dX10_wish_84 : decode cX10_wish 84 = .ok (.bipush 10, 2) := by decide +kernel
theorem dX10_wish_86 : decode cX10_wish 86 = .ok (.if_icmp .ne 7, 3) := by decide +kernel
theorem dX10_wish_89 : decode cX10_wish 89 = .ok (.iconst 4, 1) := by decide +kernel
theorem dX10_wish_90 : decode cX10_wish 90 = .ok (.goto 4, 3) := by decide +kernel
theorem dX10_wish_93 : decode cX10_wish 93 = .ok (.iconst 0, 1) := by decide +kernel
theorem dX10_wish_94 : decode cX10_wish 94 = .ok (.putfield 83, 3) := by decide +kernel
theorem dX10_wish_97 : decode cX10_wish 97 = .ok (.aload_n 0, 1) := by decide +kernel
theorem dX10_wish_98 : decode cX10_wish 98 = .ok (.getfield 83, 3) := by decide +kernel
theorem dX10_wish_101 : decode cX10_wish 101 = .ok (.ifCond .le 5, 3) := by decide +kernel
theorem dX10_wish_104 : decode cX10_wish 104 = .ok (.iconst 0, 1) := by decide +kernel
theorem dX10_wish_105 : decode cX10_wish 105 = .ok (.ireturn, 1) := by decide +kernel
theorem dX10_wish_106 : decode cX10_wish 106 = .ok (.aload_n 0, 1) := by decide +kernel
theorem dX10_wish_107 : decode cX10_wish 107 = .ok (.iload_n 1, 1) := by decide +kernel
theorem dX10_wish_108 : decode cX10_wish 108 = .ok (.iload_n 2, 1) := by decide +kernel
theorem dX10_wish_109 : decode cX10_wish 109 = .ok (.iload 4, 2) := by decide +kernel
theorem dX10_wish_111 : decode cX10_wish 111 = .ok (.ifCond .eq 13, 3) := by decide +kernel
theorem dX10_wish_114 : decode cX10_wish 114 = .ok (.aload_n 0, 1) := by decide +kernel
theorem dX10_wish_115 : decode cX10_wish 115 = .ok (.iload_n 1, 1) := by decide +kernel
theorem dX10_wish_116 : decode cX10_wish 116 = .ok (.iload_n 3, 1) := by decide +kernel
theorem dX10_wish_117 : decode cX10_wish 117 = .ok (.iconst 0, 1) := by decide +kernel
theorem dX10_wish_118 : decode cX10_wish 118 = .ok (.invokevirtual 96, 3) := by decide +kernel
theorem dX10_wish_121 : decode cX10_wish 121 = .ok (.goto 4, 3) := by decide +kernel
theorem dX10_wish_124 : decode cX10_wish 124 = .ok (.iconst 0, 1) := by decide +kernel
theorem dX10_wish_125 : decode cX10_wish 125 = .ok (.invokevirtual 100, 3) := by decide +kernel
theorem dX10_wish_128 : decode cX10_wish 128 = .ok (.aload_n 0, 1) := by decide +kernel
theorem dX10_wish_129 : decode cX10_wish 129 = .ok (.getfield 34, 3) := by decide +kernel
theorem dX10_wish_132 : decode cX10_wish 132 = .ok (.iload_n 1, 1) := by decide +kernel
theorem dX10_wish_133 : decode cX10_wish 133 = .ok (.iaload, 1) := by decide +kernel
theorem dX10_wish_134 : decode cX10_wish 134 = .ok (.istore 5, 2) := by decide +kernel
theorem dX10_wish_136 : decode cX10_wish 136 = .ok (.aload_n 0, 1) := by decide +kernel
theorem dX10_wish_137 : decode cX10_wish 137 = .ok (.invokevirtual 91, 3) := by decide +kernel
theorem dX10_wish_140 : decode cX10_wish 140 = .ok (.iload 5, 2) := by decide +kernel
theorem dX10_wish_142 : decode cX10_wish 142 = .ok (.ireturn, 1) := by decide +kernel
theorem dX10_takeWishes_0 : decode cX10_takeWishes 0 = .ok (.iconst 0, 1) := by decide +kernel
theorem dX10_takeWishes_1 : decode cX10_takeWishes 1 = .ok (.istore_n 1, 1) := by decide +kernel
theorem dX10_takeWishes_2 : decode cX10_takeWishes 2 = .ok (.iload_n 1, 1) := by decide +kernel
theorem dX10_takeWishes_3 : decode cX10_takeWishes 3 = .ok (.iconst 2, 1) := by decide +kernel
theorem dX10_takeWishes_4 : decode cX10_takeWishes 4 = .ok (.if_icmp .ge 183, 3) := by decide +kernel
theorem dX10_takeWishes_7 : decode cX10_takeWishes 7 = .ok (.aload_n 0, 1) := by decide +kernel
theorem dX10_takeWishes_8 : decode cX10_takeWishes 8 = .ok (.getfield 47, 3) := by decide +kernel
theorem dX10_takeWishes_11 : decode cX10_takeWishes 11 = .ok (.iload_n 1, 1) := by decide +kernel
theorem dX10_takeWishes_12 : decode cX10_takeWishes 12 = .ok (.baload, 1) := by decide +kernel
theorem dX10_takeWishes_13 : decode cX10_takeWishes 13 = .ok (.ifCond .ne 168, 3) := by decide +kernel
theorem dX10_takeWishes_16 : decode cX10_takeWishes 16 = .ok (.aload_n 0, 1) := by decide +kernel
theorem dX10_takeWishes_17 : decode cX10_takeWishes 17 = .ok (.getfield 43, 3) := by decide +kernel
theorem dX10_takeWishes_20 : decode cX10_takeWishes 20 = .ok (.iload_n 1, 1) := by decide +kernel
theorem dX10_takeWishes_21 : decode cX10_takeWishes 21 = .ok (.baload, 1) := by decide +kernel
theorem dX10_takeWishes_22 : decode cX10_takeWishes 22 = .ok (.ifCond .ne 159, 3) := by decide +kernel
theorem dX10_takeWishes_25 : decode cX10_takeWishes 25 = .ok (.aload_n 0, 1) := by decide +kernel
theorem dX10_takeWishes_26 : decode cX10_takeWishes 26 = .ok (.getfield 34, 3) := by decide +kernel
theorem dX10_takeWishes_29 : decode cX10_takeWishes 29 = .ok (.iload_n 1, 1) := by decide +kernel
theorem dX10_takeWishes_30 : decode cX10_takeWishes 30 = .ok (.iaload, 1) := by decide +kernel
theorem dX10_takeWishes_31 : decode cX10_takeWishes 31 = .ok (.ifCond .le 150, 3) := by decide +kernel
theorem dX10_takeWishes_34 : decode cX10_takeWishes 34 = .ok (.aload_n 0, 1) := by decide +kernel
theorem dX10_takeWishes_35 : decode cX10_takeWishes 35 = .ok (.getfield 37, 3) := by decide +kernel
theorem dX10_takeWishes_38 : decode cX10_takeWishes 38 = .ok (.bipush 16, 2) := by decide +kernel
theorem dX10_takeWishes_40 : decode cX10_takeWishes 40 = .ok (.iload_n 1, 1) := by decide +kernel
theorem dX10_takeWishes_41 : decode cX10_takeWishes 41 = .ok (.imul, 1) := by decide +kernel
theorem dX10_takeWishes_42 : decode cX10_takeWishes 42 = .ok (.iaload, 1) := by decide +kernel
theorem dX10_takeWishes_43 : decode cX10_takeWishes 43 = .ok (.istore_n 2, 1) := by decide +kernel
theorem dX10_takeWishes_44 : decode cX10_takeWishes 44 = .ok (.aload_n 0, 1) := by decide +kernel
theorem dX10_takeWishes_45 : decode cX10_takeWishes 45 = .ok (.getfield 40, 3) := by decide +kernel
theorem dX10_takeWishes_48 : decode cX10_takeWishes 48 = .ok (.bipush 16, 2) := by decide +kernel
theorem dX10_takeWishes_50 : decode cX10_takeWishes 50 = .ok (.iload_n 1, 1) := by decide +kernel
theorem dX10_takeWishes_51 : decode cX10_takeWishes 51 = .ok (.imul, 1) := by decide +kernel
theorem dX10_takeWishes_52 : decode cX10_takeWishes 52 = .ok (.iaload, 1) := by decide +kernel
theorem dX10_takeWishes_53 : decode cX10_takeWishes 53 = .ok (.istore_n 3, 1) := by decide +kernel
theorem dX10_takeWishes_54 : decode cX10_takeWishes 54 = .ok (.aload_n 0, 1) := by decide +kernel
theorem dX10_takeWishes_55 : decode cX10_takeWishes 55 = .ok (.getfield 34, 3) := by decide +kernel
theorem dX10_takeWishes_58 : decode cX10_takeWishes 58 = .ok (.iload_n 1, 1) := by decide +kernel
theorem dX10_takeWishes_59 : decode cX10_takeWishes 59 = .ok (.dup2, 1) := by decide +kernel
theorem dX10_takeWishes_60 : decode cX10_takeWishes 60 = .ok (.iaload, 1) := by decide +kernel
theorem dX10_takeWishes_61 : decode cX10_takeWishes 61 = .ok (.iconst 1, 1) := by decide +kernel
theorem dX10_takeWishes_62 : decode cX10_takeWishes 62 = .ok (.isub, 1) := by decide +kernel
theorem dX10_takeWishes_63 : decode cX10_takeWishes 63 = .ok (.iastore, 1) := by decide +kernel
theorem dX10_takeWishes_64 : decode cX10_takeWishes 64 = .ok (.iconst 0, 1) := by decide +kernel
theorem dX10_takeWishes_65 : decode cX10_takeWishes 65 = .ok (.istore 4, 2) := by decide +kernel
theorem dX10_takeWishes_67 : decode cX10_takeWishes 67 = .ok (.iload 4, 2) := by decide +kernel
theorem dX10_takeWishes_69 : decode cX10_takeWishes 69 = .ok (.aload_n 0, 1) := by decide +kernel
theorem dX10_takeWishes_70 : decode cX10_takeWishes 70 = .ok (.getfield 34, 3) := by decide +kernel
theorem dX10_takeWishes_73 : decode cX10_takeWishes 73 = .ok (.iload_n 1, 1) := by decide +kernel
theorem dX10_takeWishes_74 : decode cX10_takeWishes 74 = .ok (.iaload, 1) := by decide +kernel
theorem dX10_takeWishes_75 : decode cX10_takeWishes 75 = .ok (.if_icmp .ge 61, 3) := by decide +kernel
theorem dX10_takeWishes_78 : decode cX10_takeWishes 78 = .ok (.aload_n 0, 1) := by decide +kernel
theorem dX10_takeWishes_79 : decode cX10_takeWishes 79 = .ok (.getfield 37, 3) := by decide +kernel
theorem dX10_takeWishes_82 : decode cX10_takeWishes 82 = .ok (.bipush 16, 2) := by decide +kernel
theorem dX10_takeWishes_84 : decode cX10_takeWishes 84 = .ok (.iload_n 1, 1) := by decide +kernel
theorem dX10_takeWishes_85 : decode cX10_takeWishes 85 = .ok (.imul, 1) := by decide +kernel
theorem dX10_takeWishes_86 : decode cX10_takeWishes 86 = .ok (.iload 4, 2) := by decide +kernel
theorem dX10_takeWishes_88 : decode cX10_takeWishes 88 = .ok (.iadd, 1) := by decide +kernel
theorem dX10_takeWishes_89 : decode cX10_takeWishes 89 = .ok (.aload_n 0, 1) := by decide +kernel
theorem dX10_takeWishes_90 : decode cX10_takeWishes 90 = .ok (.getfield 37, 3) := by decide +kernel
theorem dX10_takeWishes_93 : decode cX10_takeWishes 93 = .ok (.bipush 16, 2) := by decide +kernel
theorem dX10_takeWishes_95 : decode cX10_takeWishes 95 = .ok (.iload_n 1, 1) := by decide +kernel
theorem dX10_takeWishes_96 : decode cX10_takeWishes 96 = .ok (.imul, 1) := by decide +kernel
theorem dX10_takeWishes_97 : decode cX10_takeWishes 97 = .ok (.iload 4, 2) := by decide +kernel
theorem dX10_takeWishes_99 : decode cX10_takeWishes 99 = .ok (.iadd, 1) := by decide +kernel
theorem dX10_takeWishes_100 : decode cX10_takeWishes 100 = .ok (.iconst 1, 1) := by decide +kernel
theorem dX10_takeWishes_101 : decode cX10_takeWishes 101 = .ok (.iadd, 1) := by decide +kernel
theorem dX10_takeWishes_102 : decode cX10_takeWishes 102 = .ok (.iaload, 1) := by decide +kernel
theorem dX10_takeWishes_103 : decode cX10_takeWishes 103 = .ok (.iastore, 1) := by decide +kernel
theorem dX10_takeWishes_104 : decode cX10_takeWishes 104 = .ok (.aload_n 0, 1) := by decide +kernel
theorem dX10_takeWishes_105 : decode cX10_takeWishes 105 = .ok (.getfield 40, 3) := by decide +kernel
theorem dX10_takeWishes_108 : decode cX10_takeWishes 108 = .ok (.bipush 16, 2) := by decide +kernel
theorem dX10_takeWishes_110 : decode cX10_takeWishes 110 = .ok (.iload_n 1, 1) := by decide +kernel
theorem dX10_takeWishes_111 : decode cX10_takeWishes 111 = .ok (.imul, 1) := by decide +kernel
theorem dX10_takeWishes_112 : decode cX10_takeWishes 112 = .ok (.iload 4, 2) := by decide +kernel
theorem dX10_takeWishes_114 : decode cX10_takeWishes 114 = .ok (.iadd, 1) := by decide +kernel
theorem dX10_takeWishes_115 : decode cX10_takeWishes 115 = .ok (.aload_n 0, 1) := by decide +kernel
theorem dX10_takeWishes_116 : decode cX10_takeWishes 116 = .ok (.getfield 40, 3) := by decide +kernel
theorem dX10_takeWishes_119 : decode cX10_takeWishes 119 = .ok (.bipush 16, 2) := by decide +kernel
theorem dX10_takeWishes_121 : decode cX10_takeWishes 121 = .ok (.iload_n 1, 1) := by decide +kernel
theorem dX10_takeWishes_122 : decode cX10_takeWishes 122 = .ok (.imul, 1) := by decide +kernel
theorem dX10_takeWishes_123 : decode cX10_takeWishes 123 = .ok (.iload 4, 2) := by decide +kernel
theorem dX10_takeWishes_125 : decode cX10_takeWishes 125 = .ok (.iadd, 1) := by decide +kernel
theorem dX10_takeWishes_126 : decode cX10_takeWishes 126 = .ok (.iconst 1, 1) := by decide +kernel
theorem dX10_takeWishes_127 : decode cX10_takeWishes 127 = .ok (.iadd, 1) := by decide +kernel
theorem dX10_takeWishes_128 : decode cX10_takeWishes 128 = .ok (.iaload, 1) := by decide +kernel
theorem dX10_takeWishes_129 : decode cX10_takeWishes 129 = .ok (.iastore, 1) := by decide +kernel
theorem dX10_takeWishes_130 : decode cX10_takeWishes 130 = .ok (.iinc 4 1, 3) := by decide +kernel
theorem dX10_takeWishes_133 : decode cX10_takeWishes 133 = .ok (.goto (-66), 3) := by decide +kernel
theorem dX10_takeWishes_136 : decode cX10_takeWishes 136 = .ok (.aload_n 0, 1) := by decide +kernel
theorem dX10_takeWishes_137 : decode cX10_takeWishes 137 = .ok (.iload_n 1, 1) := by decide +kernel
theorem dX10_takeWishes_138 : decode cX10_takeWishes 138 = .ok (.iconst 0, 1) := by decide +kernel
theorem dX10_takeWishes_139 : decode cX10_takeWishes 139 = .ok (.iload_n 3, 1) := by decide +kernel
theorem dX10_takeWishes_140 : decode cX10_takeWishes 140 = .ok (.invokevirtual 104, 3) := by decide +kernel
theorem dX10_takeWishes_143 : decode cX10_takeWishes 143 = .ok (.istore 4, 2) := by decide +kernel
theorem dX10_takeWishes_145 : decode cX10_takeWishes 145 = .ok (.iload_n 2, 1) := by decide +kernel
theorem dX10_takeWishes_146 : decode cX10_takeWishes 146 = .ok (.ifCond .eq 23, 3) := by decide +kernel
theorem dX10_takeWishes_149 : decode cX10_takeWishes 149 = .ok (.iload 4, 2) := by decide +kernel
theorem dX10_takeWishes_151 : decode cX10_takeWishes 151 = .ok (.ifCond .lt 27, 3) := by decide +kernel
theorem dX10_takeWishes_154 : decode cX10_takeWishes 154 = .ok (.iload_n 2, 1) := by decide +kernel
theorem dX10_takeWishes_155 : decode cX10_takeWishes 155 = .ok (.iconst 2, 1) := by decide +kernel
theorem dX10_takeWishes_156 : decode cX10_takeWishes 156 = .ok (.if_icmp .eq 13, 3) := by decide +kernel
theorem dX10_takeWishes_159 : decode cX10_takeWishes 159 = .ok (.aload_n 0, 1) := by decide +kernel
theorem dX10_takeWishes_160 : decode cX10_takeWishes 160 = .ok (.iload_n 1, 1) := by decide +kernel
theorem dX10_takeWishes_161 : decode cX10_takeWishes 161 = .ok (.iconst 5, 1) := by decide +kernel
theorem dX10_takeWishes_162 : decode cX10_takeWishes 162 = .ok (.iload_n 3, 1) := by decide +kernel
theorem dX10_takeWishes_163 : decode cX10_takeWishes 163 = .ok (.invokevirtual 104, 3) := by decide +kernel
theorem dX10_takeWishes_166 : decode cX10_takeWishes 166 = .ok (.ifCond .ge 12, 3) := by decide +kernel
theorem dX10_takeWishes_169 : decode cX10_takeWishes 169 = .ok (.aload_n 0, 1) := by decide +kernel
theorem dX10_takeWishes_170 : decode cX10_takeWishes 170 = .ok (.iload_n 1, 1) := by decide +kernel
theorem dX10_takeWishes_171 : decode cX10_takeWishes 171 = .ok (.iload_n 2, 1) := by decide +kernel
theorem dX10_takeWishes_172 : decode cX10_takeWishes 172 = .ok (.iload_n 3, 1) := by decide +kernel
theorem dX10_takeWishes_173 : decode cX10_takeWishes 173 = .ok (.iload 4, 2) := by decide +kernel
theorem dX10_takeWishes_175 : decode cX10_takeWishes 175 = .ok (.invokevirtual 107, 3) := by decide +kernel
theorem dX10_takeWishes_178 : decode cX10_takeWishes 178 = .ok (.goto (-171), 3) := by decide +kernel
theorem dX10_takeWishes_181 : decode cX10_takeWishes 181 = .ok (.iinc 1 1, 3) := by decide +kernel
theorem dX10_takeWishes_184 : decode cX10_takeWishes 184 = .ok (.goto (-182), 3) := by decide +kernel
theorem dX10_takeWishes_187 : decode cX10_takeWishes 187 = .ok (.return_, 1) := by decide +kernel
theorem dX10_ask_0 : decode cX10_ask 0 = .ok (.aload_n 0, 1) := by decide +kernel
theorem dX10_ask_1 : decode cX10_ask 1 = .ok (.iconst 1, 1) := by decide +kernel
theorem dX10_ask_2 : decode cX10_ask 2 = .ok (.aload_n 0, 1) := by decide +kernel
theorem dX10_ask_3 : decode cX10_ask 3 = .ok (.getfield 62, 3) := by decide +kernel
theorem dX10_ask_6 : decode cX10_ask 6 = .ok (.iload_n 1, 1) := by decide +kernel
theorem dX10_ask_7 : decode cX10_ask 7 = .ok (.iaload, 1) := by decide +kernel
theorem dX10_ask_8 : decode cX10_ask 8 = .ok (.iload_n 2, 1) := by decide +kernel
theorem dX10_ask_9 : decode cX10_ask 9 = .ok (.invokevirtual 111, 3) := by decide +kernel
theorem dX10_ask_12 : decode cX10_ask 12 = .ok (.aload_n 0, 1) := by decide +kernel
theorem dX10_ask_13 : decode cX10_ask 13 = .ok (.getfield 62, 3) := by decide +kernel
theorem dX10_ask_16 : decode cX10_ask 16 = .ok (.iload_n 1, 1) := by decide +kernel
theorem dX10_ask_17 : decode cX10_ask 17 = .ok (.dup2, 1) := by decide +kernel
theorem dX10_ask_18 : decode cX10_ask 18 = .ok (.iaload, 1) := by decide +kernel
theorem dX10_ask_19 : decode cX10_ask 19 = .ok (.iconst 1, 1) := by decide +kernel
theorem dX10_ask_20 : decode cX10_ask 20 = .ok (.iadd, 1) := by decide +kernel
theorem dX10_ask_21 : decode cX10_ask 21 = .ok (.iastore, 1) := by decide +kernel
theorem dX10_ask_22 : decode cX10_ask 22 = .ok (.iload_n 2, 1) := by decide +kernel
theorem dX10_ask_23 : decode cX10_ask 23 = .ok (.iconst 2, 1) := by decide +kernel
theorem dX10_ask_24 : decode cX10_ask 24 = .ok (.if_icmp .eq 25, 3) := by decide +kernel
theorem dX10_ask_27 : decode cX10_ask 27 = .ok (.aload_n 0, 1) := by decide +kernel
theorem dX10_ask_28 : decode cX10_ask 28 = .ok (.getfield 77, 3) := by decide +kernel
theorem dX10_ask_31 : decode cX10_ask 31 = .ok (.iconst 4, 1) := by decide +kernel
theorem dX10_ask_32 : decode cX10_ask 32 = .ok (.aload_n 0, 1) := by decide +kernel
theorem dX10_ask_33 : decode cX10_ask 33 = .ok (.iload_n 1, 1) := by decide +kernel
theorem dX10_ask_34 : decode cX10_ask 34 = .ok (.invokevirtual 114, 3) := by decide +kernel
theorem dX10_ask_37 : decode cX10_ask 37 = .ok (.iastore, 1) := by decide +kernel
theorem dX10_ask_38 : decode cX10_ask 38 = .ok (.aload_n 0, 1) := by decide +kernel
theorem dX10_ask_39 : decode cX10_ask 39 = .ok (.getfield 77, 3) := by decide +kernel
theorem dX10_ask_42 : decode cX10_ask 42 = .ok (.iconst 5, 1) := by decide +kernel
theorem dX10_ask_43 : decode cX10_ask 43 = .ok (.aload_n 0, 1) := by decide +kernel
theorem dX10_ask_44 : decode cX10_ask 44 = .ok (.iload_n 1, 1) := by decide +kernel
theorem dX10_ask_45 : decode cX10_ask 45 = .ok (.invokevirtual 118, 3) := by decide +kernel
theorem dX10_ask_48 : decode cX10_ask 48 = .ok (.iastore, 1) := by decide +kernel
theorem dX10_ask_49 : decode cX10_ask 49 = .ok (.iload_n 2, 1) := by decide +kernel
theorem dX10_ask_50 : decode cX10_ask 50 = .ok (.ifCond .ne 86, 3) := by decide +kernel
theorem dX10_ask_53 : decode cX10_ask 53 = .ok (.aload_n 0, 1) := by decide +kernel
theorem dX10_ask_54 : decode cX10_ask 54 = .ok (.getfield 77, 3) := by decide +kernel
theorem dX10_ask_57 : decode cX10_ask 57 = .ok (.bipush 7, 2) := by decide +kernel
theorem dX10_ask_59 : decode cX10_ask 59 = .ok (.aload_n 0, 1) := by decide +kernel
theorem dX10_ask_60 : decode cX10_ask 60 = .ok (.getfield 16, 3) := by decide +kernel
theorem dX10_ask_63 : decode cX10_ask 63 = .ok (.iload_n 1, 1) := by decide +kernel
theorem dX10_ask_64 : decode cX10_ask 64 = .ok (.iaload, 1) := by decide +kernel
theorem dX10_ask_65 : decode cX10_ask 65 = .ok (.iastore, 1) := by decide +kernel
theorem dX10_ask_66 : decode cX10_ask 66 = .ok (.aload_n 0, 1) := by decide +kernel
theorem dX10_ask_67 : decode cX10_ask 67 = .ok (.getfield 77, 3) := by decide +kernel
theorem dX10_ask_70 : decode cX10_ask 70 = .ok (.bipush 8, 2) := by decide +kernel
theorem dX10_ask_72 : decode cX10_ask 72 = .ok (.aload_n 0, 1) := by decide +kernel
theorem dX10_ask_73 : decode cX10_ask 73 = .ok (.getfield 19, 3) := by decide +kernel
theorem dX10_ask_76 : decode cX10_ask 76 = .ok (.iload_n 1, 1) := by decide +kernel
theorem dX10_ask_77 : decode cX10_ask 77 = .ok (.iaload, 1) := by decide +kernel
theorem dX10_ask_78 : decode cX10_ask 78 = .ok (.iastore, 1) := by decide +kernel
theorem dX10_ask_79 : decode cX10_ask 79 = .ok (.aload_n 0, 1) := by decide +kernel
theorem dX10_ask_80 : decode cX10_ask 80 = .ok (.getfield 77, 3) := by decide +kernel
theorem dX10_ask_83 : decode cX10_ask 83 = .ok (.bipush 10, 2) := by decide +kernel
theorem dX10_ask_85 : decode cX10_ask 85 = .ok (.aload_n 0, 1) := by decide +kernel
theorem dX10_ask_86 : decode cX10_ask 86 = .ok (.getfield 7, 3) := by decide +kernel
theorem dX10_ask_89 : decode cX10_ask 89 = .ok (.iload_n 1, 1) := by decide +kernel
theorem dX10_ask_90 : decode cX10_ask 90 = .ok (.iaload, 1) := by decide +kernel
theorem dX10_ask_91 : decode cX10_ask 91 = .ok (.iastore, 1) := by decide +kernel
theorem dX10_ask_92 : decode cX10_ask 92 = .ok (.iconst 0, 1) := by decide +kernel
theorem dX10_ask_93 : decode cX10_ask 93 = .ok (.istore 5, 2) := by decide +kernel
theorem dX10_ask_95 : decode cX10_ask 95 = .ok (.iload 5, 2) := by decide +kernel
theorem dX10_ask_97 : decode cX10_ask 97 = .ok (.aload_n 0, 1) := by decide +kernel
theorem dX10_ask_98 : decode cX10_ask 98 = .ok (.getfield 7, 3) := by decide +kernel
theorem dX10_ask_101 : decode cX10_ask 101 = .ok (.iload_n 1, 1) := by decide +kernel
theorem dX10_ask_102 : decode cX10_ask 102 = .ok (.iaload, 1) := by decide +kernel
theorem dX10_ask_103 : decode cX10_ask 103 = .ok (.if_icmp .ge 30, 3) := by decide +kernel
theorem dX10_ask_106 : decode cX10_ask 106 = .ok (.aload_n 0, 1) := by decide +kernel
theorem dX10_ask_107 : decode cX10_ask 107 = .ok (.getfield 77, 3) := by decide +kernel
theorem dX10_ask_110 : decode cX10_ask 110 = .ok (.bipush 11, 2) := by decide +kernel
theorem dX10_ask_112 : decode cX10_ask 112 = .ok (.iload 5, 2) := by decide +kernel
theorem dX10_ask_114 : decode cX10_ask 114 = .ok (.iadd, 1) := by decide +kernel
theorem dX10_ask_115 : decode cX10_ask 115 = .ok (.aload_n 0, 1) := by decide +kernel
theorem dX10_ask_116 : decode cX10_ask 116 = .ok (.getfield 13, 3) := by decide +kernel
theorem dX10_ask_119 : decode cX10_ask 119 = .ok (.iconst 4, 1) := by decide +kernel
theorem dX10_ask_120 : decode cX10_ask 120 = .ok (.iload_n 1, 1) := by decide +kernel
theorem dX10_ask_121 : decode cX10_ask 121 = .ok (.imul, 1) := by decide +kernel
theorem dX10_ask_122 : decode cX10_ask 122 = .ok (.iload 5, 2) := by decide +kernel
theorem dX10_ask_124 : decode cX10_ask 124 = .ok (.iadd, 1) := by decide +kernel
theorem dX10_ask_125 : decode cX10_ask 125 = .ok (.iaload, 1) := by decide +kernel
theorem dX10_ask_126 : decode cX10_ask 126 = .ok (.iastore, 1) := by decide +kernel
theorem dX10_ask_127 : decode cX10_ask 127 = .ok (.iinc 5 1, 3) := by decide +kernel
theorem dX10_ask_130 : decode cX10_ask 130 = .ok (.goto (-35), 3) := by decide +kernel
theorem dX10_ask_133 : decode cX10_ask 133 = .ok (.goto 56, 3) := by decide +kernel
theorem dX10_ask_136 : decode cX10_ask 136 = .ok (.aload_n 0, 1) := by decide +kernel
theorem dX10_ask_137 : decode cX10_ask 137 = .ok (.getfield 77, 3) := by decide +kernel
theorem dX10_ask_140 : decode cX10_ask 140 = .ok (.bipush 6, 2) := by decide +kernel
theorem dX10_ask_142 : decode cX10_ask 142 = .ok (.iload_n 3, 1) := by decide +kernel
theorem dX10_ask_143 : decode cX10_ask 143 = .ok (.iastore, 1) := by decide +kernel
theorem dX10_ask_144 : decode cX10_ask 144 = .ok (.aload_n 0, 1) := by decide +kernel
theorem dX10_ask_145 : decode cX10_ask 145 = .ok (.getfield 77, 3) := by decide +kernel
theorem dX10_ask_148 : decode cX10_ask 148 = .ok (.bipush 7, 2) := by decide +kernel
theorem dX10_ask_150 : decode cX10_ask 150 = .ok (.aload_n 0, 1) := by decide +kernel
theorem dX10_ask_151 : decode cX10_ask 151 = .ok (.iload_n 1, 1) := by decide +kernel
theorem dX10_ask_152 : decode cX10_ask 152 = .ok (.iload 4, 2) := by decide +kernel
theorem dX10_ask_154 : decode cX10_ask 154 = .ok (.iconst 3, 1) := by decide +kernel
theorem dX10_ask_155 : decode cX10_ask 155 = .ok (.invokevirtual 96, 3) := by decide +kernel
theorem dX10_ask_158 : decode cX10_ask 158 = .ok (.iastore, 1) := by decide +kernel
theorem dX10_ask_159 : decode cX10_ask 159 = .ok (.aload_n 0, 1) := by decide +kernel
theorem dX10_ask_160 : decode cX10_ask 160 = .ok (.getfield 77, 3) := by decide +kernel
theorem dX10_ask_163 : decode cX10_ask 163 = .ok (.bipush 8, 2) := by decide +kernel
theorem dX10_ask_165 : decode cX10_ask 165 = .ok (.aload_n 0, 1) := by decide +kernel
theorem dX10_ask_166 : decode cX10_ask 166 = .ok (.iload_n 1, 1) := by decide +kernel
theorem dX10_ask_167 : decode cX10_ask 167 = .ok (.iload 4, 2) := by decide +kernel
theorem dX10_ask_169 : decode cX10_ask 169 = .ok (.iconst 4, 1) := by decide +kernel
theorem dX10_ask_170 : decode cX10_ask 170 = .ok (.invokevirtual 96, 3) := by decide +kernel
theorem dX10_ask_173 : decode cX10_ask 173 = .ok (.iastore, 1) := by decide +kernel
theorem dX10_ask_174 : decode cX10_ask 174 = .ok (.aload_n 0, 1) := by decide +kernel
theorem dX10_ask_175 : decode cX10_ask 175 = .ok (.getfield 77, 3) := by decide +kernel
theorem dX10_ask_178 : decode cX10_ask 178 = .ok (.bipush 9, 2) := by decide +kernel
theorem dX10_ask_180 : decode cX10_ask 180 = .ok (.aload_n 0, 1) := by decide +kernel
theorem dX10_ask_181 : decode cX10_ask 181 = .ok (.iload_n 1, 1) := by decide +kernel
theorem dX10_ask_182 : decode cX10_ask 182 = .ok (.iload 4, 2) := by decide +kernel
theorem dX10_ask_184 : decode cX10_ask 184 = .ok (.iconst 2, 1) := by decide +kernel
theorem dX10_ask_185 : decode cX10_ask 185 = .ok (.invokevirtual 96, 3) := by decide +kernel
theorem dX10_ask_188 : decode cX10_ask 188 = .ok (.iastore, 1) := by decide +kernel
theorem dX10_ask_189 : decode cX10_ask 189 = .ok (.iconst 0, 1) := by decide +kernel
theorem dX10_ask_190 : decode cX10_ask 190 = .ok (.istore 5, 2) := by decide +kernel
theorem dX10_ask_192 : decode cX10_ask 192 = .ok (.iload 5, 2) := by decide +kernel
theorem dX10_ask_194 : decode cX10_ask 194 = .ok (.bipush 16, 2) := by decide +kernel
theorem dX10_ask_196 : decode cX10_ask 196 = .ok (.if_icmp .ge 28, 3) := by decide +kernel
theorem dX10_ask_199 : decode cX10_ask 199 = .ok (.aload_n 0, 1) := by decide +kernel
theorem dX10_ask_200 : decode cX10_ask 200 = .ok (.getfield 50, 3) := by decide +kernel
theorem dX10_ask_203 : decode cX10_ask 203 = .ok (.bipush 16, 2) := by decide +kernel
theorem dX10_ask_205 : decode cX10_ask 205 = .ok (.iload_n 1, 1) := by decide +kernel
theorem dX10_ask_206 : decode cX10_ask 206 = .ok (.imul, 1) := by decide +kernel
theorem dX10_ask_207 : decode cX10_ask 207 = .ok (.iload 5, 2) := by decide +kernel
theorem dX10_ask_209 : decode cX10_ask 209 = .ok (.iadd, 1) := by decide +kernel
theorem dX10_ask_210 : decode cX10_ask 210 = .ok (.aload_n 0, 1) := by decide +kernel
theorem dX10_ask_211 : decode cX10_ask 211 = .ok (.getfield 77, 3) := by decide +kernel
theorem dX10_ask_214 : decode cX10_ask 214 = .ok (.iload 5, 2) := by decide +kernel
theorem dX10_ask_216 : decode cX10_ask 216 = .ok (.iaload, 1) := by decide +kernel
theorem dX10_ask_217 : decode cX10_ask 217 = .ok (.iastore, 1) := by decide +kernel
theorem dX10_ask_218 : decode cX10_ask 218 = .ok (.iinc 5 1, 3) := by decide +kernel
theorem dX10_ask_221 : decode cX10_ask 221 = .ok (.goto (-29), 3) := by decide +kernel
theorem dX10_ask_224 : decode cX10_ask 224 = .ok (.aload_n 0, 1) := by decide +kernel
theorem dX10_ask_225 : decode cX10_ask 225 = .ok (.getfield 47, 3) := by decide +kernel
theorem dX10_ask_228 : decode cX10_ask 228 = .ok (.iload_n 1, 1) := by decide +kernel
theorem dX10_ask_229 : decode cX10_ask 229 = .ok (.iconst 1, 1) := by decide +kernel
theorem dX10_ask_230 : decode cX10_ask 230 = .ok (.bastore, 1) := by decide +kernel
theorem dX10_ask_231 : decode cX10_ask 231 = .ok (.aload_n 0, 1) := by decide +kernel
theorem dX10_ask_232 : decode cX10_ask 232 = .ok (.getfield 53, 3) := by decide +kernel
theorem dX10_ask_235 : decode cX10_ask 235 = .ok (.iload_n 1, 1) := by decide +kernel
theorem dX10_ask_236 : decode cX10_ask 236 = .ok (.iconst 1, 1) := by decide +kernel
theorem dX10_ask_237 : decode cX10_ask 237 = .ok (.iastore, 1) := by decide +kernel
theorem dX10_ask_238 : decode cX10_ask 238 = .ok (.aload_n 0, 1) := by decide +kernel
theorem dX10_ask_239 : decode cX10_ask 239 = .ok (.getfield 59, 3) := by decide +kernel
theorem dX10_ask_242 : decode cX10_ask 242 = .ok (.iload_n 1, 1) := by decide +kernel
theorem dX10_ask_243 : decode cX10_ask 243 = .ok (.iconst 4, 1) := by decide +kernel
theorem dX10_ask_244 : decode cX10_ask 244 = .ok (.iastore, 1) := by decide +kernel
theorem dX10_ask_245 : decode cX10_ask 245 = .ok (.aload_n 0, 1) := by decide +kernel
theorem dX10_ask_246 : decode cX10_ask 246 = .ok (.getfield 56, 3) := by decide +kernel
theorem dX10_ask_249 : decode cX10_ask 249 = .ok (.iload_n 1, 1) := by decide +kernel
theorem dX10_ask_250 : decode cX10_ask 250 = .ok (.iconst 4, 1) := by decide +kernel
theorem dX10_ask_251 : decode cX10_ask 251 = .ok (.iastore, 1) := by decide +kernel
theorem dX10_ask_252 : decode cX10_ask 252 = .ok (.aload_n 0, 1) := by decide +kernel
theorem dX10_ask_253 : decode cX10_ask 253 = .ok (.iconst 1, 1) := by decide +kernel
theorem dX10_ask_254 : decode cX10_ask 254 = .ok (.iload_n 1, 1) := by decide +kernel
theorem dX10_ask_255 : decode cX10_ask 255 = .ok (.isub, 1) := by decide +kernel
theorem dX10_ask_256 : decode cX10_ask 256 = .ok (.invokevirtual 121, 3) := by decide +kernel
theorem dX10_ask_259 : decode cX10_ask 259 = .ok (.return_, 1) := by decide +kernel
theorem dX10_blank_0 : decode cX10_blank 0 = .ok (.iconst 0, 1) := by decide +kernel
theorem dX10_blank_1 : decode cX10_blank 1 = .ok (.istore 4, 2) := by decide +kernel
theorem dX10_blank_3 : decode cX10_blank 3 = .ok (.iload 4, 2) := by decide +kernel
theorem dX10_blank_5 : decode cX10_blank 5 = .ok (.bipush 16, 2) := by decide +kernel
theorem dX10_blank_7 : decode cX10_blank 7 = .ok (.if_icmp .ge 17, 3) := by decide +kernel
theorem dX10_blank_10 : decode cX10_blank 10 = .ok (.aload_n 0, 1) := by decide +kernel
theorem dX10_blank_11 : decode cX10_blank 11 = .ok (.getfield 77, 3) := by decide +kernel
theorem dX10_blank_14 : decode cX10_blank 14 = .ok (.iload 4, 2) := by decide +kernel
theorem dX10_blank_16 : decode cX10_blank 16 = .ok (.iconst 0, 1) := by decide +kernel
theorem dX10_blank_17 : decode cX10_blank 17 = .ok (.iastore, 1) := by decide +kernel
theorem dX10_blank_18 : decode cX10_blank 18 = .ok (.iinc 4 1, 3) := by decide +kernel
theorem dX10_blank_21 : decode cX10_blank 21 = .ok (.goto (-18), 3) := by decide +kernel
theorem dX10_blank_24 : decode cX10_blank 24 = .ok (.aload_n 0, 1) := by decide +kernel
theorem dX10_blank_25 : decode cX10_blank 25 = .ok (.getfield 77, 3) := by decide +kernel
theorem dX10_blank_28 : decode cX10_blank 28 = .ok (.iconst 0, 1) := by decide +kernel
theorem dX10_blank_29 : decode cX10_blank 29 = .ok (.iload_n 1, 1) := by decide +kernel
theorem dX10_blank_30 : decode cX10_blank 30 = .ok (.iastore, 1) := by decide +kernel
theorem dX10_blank_31 : decode cX10_blank 31 = .ok (.aload_n 0, 1) := by decide +kernel
theorem dX10_blank_32 : decode cX10_blank 32 = .ok (.getfield 77, 3) := by decide +kernel
theorem dX10_blank_35 : decode cX10_blank 35 = .ok (.iconst 1, 1) := by decide +kernel
theorem dX10_blank_36 : decode cX10_blank 36 = .ok (.iload_n 2, 1) := by decide +kernel
theorem dX10_blank_37 : decode cX10_blank 37 = .ok (.iastore, 1) := by decide +kernel
theorem dX10_blank_38 : decode cX10_blank 38 = .ok (.aload_n 0, 1) := by decide +kernel
theorem dX10_blank_39 : decode cX10_blank 39 = .ok (.getfield 77, 3) := by decide +kernel
theorem dX10_blank_42 : decode cX10_blank 42 = .ok (.iconst 2, 1) := by decide +kernel
theorem dX10_blank_43 : decode cX10_blank 43 = .ok (.iload_n 3, 1) := by decide +kernel
theorem dX10_blank_44 : decode cX10_blank 44 = .ok (.iastore, 1) := by decide +kernel
theorem dX10_blank_45 : decode cX10_blank 45 = .ok (.aload_n 0, 1) := by decide +kernel
theorem dX10_blank_46 : decode cX10_blank 46 = .ok (.getfield 77, 3) := by decide +kernel
theorem dX10_blank_49 : decode cX10_blank 49 = .ok (.iconst 3, 1) := by decide +kernel
theorem dX10_blank_50 : decode cX10_blank 50 = .ok (.iconst 1, 1) := by decide +kernel
theorem dX10_blank_51 : decode cX10_blank 51 = .ok (.iastore, 1) := by decide +kernel
theorem dX10_blank_52 : decode cX10_blank 52 = .ok (.return_, 1) := by decide +kernel
theorem dX10_place_0 : decode cX10_place 0 = .ok (.bipush 16, 2) := by decide +kernel
theorem dX10_place_2 : decode cX10_place 2 = .ok (.bipush 32, 2) := by decide +kernel
theorem dX10_place_4 : decode cX10_place 4 = .ok (.iload_n 1, 1) := by decide +kernel
theorem dX10_place_5 : decode cX10_place 5 = .ok (.imul, 1) := by decide +kernel
theorem dX10_place_6 : decode cX10_place 6 = .ok (.iload_n 2, 1) := by decide +kernel
theorem dX10_place_7 : decode cX10_place 7 = .ok (.iadd, 1) := by decide +kernel
theorem dX10_place_8 : decode cX10_place 8 = .ok (.imul, 1) := by decide +kernel
theorem dX10_place_9 : decode cX10_place 9 = .ok (.ireturn, 1) := by decide +kernel
theorem dX10_fly_0 : decode cX10_fly 0 = .ok (.aload_n 0, 1) := by decide +kernel
theorem dX10_fly_1 : decode cX10_fly 1 = .ok (.getfield 71, 3) := by decide +kernel
theorem dX10_fly_4 : decode cX10_fly 4 = .ok (.iload_n 1, 1) := by decide +kernel
theorem dX10_fly_5 : decode cX10_fly 5 = .ok (.iaload, 1) := by decide +kernel
theorem dX10_fly_6 : decode cX10_fly 6 = .ok (.bipush 30, 2) := by decide +kernel
theorem dX10_fly_8 : decode cX10_fly 8 = .ok (.if_icmp .ne 4, 3) := by decide +kernel
theorem dX10_fly_11 : decode cX10_fly 11 = .ok (.return_, 1) := by decide +kernel
theorem dX10_fly_12 : decode cX10_fly 12 = .ok (.iconst 0, 1) := by decide +kernel
theorem dX10_fly_13 : decode cX10_fly 13 = .ok (.istore_n 2, 1) := by decide +kernel
theorem dX10_fly_14 : decode cX10_fly 14 = .ok (.iload_n 2, 1) := by decide +kernel
theorem dX10_fly_15 : decode cX10_fly 15 = .ok (.bipush 16, 2) := by decide +kernel
theorem dX10_fly_17 : decode cX10_fly 17 = .ok (.if_icmp .ge 33, 3) := by decide +kernel
theorem dX10_fly_20 : decode cX10_fly 20 = .ok (.aload_n 0, 1) := by decide +kernel
theorem dX10_fly_21 : decode cX10_fly 21 = .ok (.getfield 74, 3) := by decide +kernel
theorem dX10_fly_24 : decode cX10_fly 24 = .ok (.aload_n 0, 1) := by decide +kernel
theorem dX10_fly_25 : decode cX10_fly 25 = .ok (.iload_n 1, 1) := by decide +kernel
theorem dX10_fly_26 : decode cX10_fly 26 = .ok (.aload_n 0, 1) := by decide +kernel
theorem dX10_fly_27 : decode cX10_fly 27 = .ok (.getfield 71, 3) := by decide +kernel
theorem dX10_fly_30 : decode cX10_fly 30 = .ok (.iload_n 1, 1) := by decide +kernel
theorem dX10_fly_31 : decode cX10_fly 31 = .ok (.iaload, 1) := by decide +kernel
theorem dX10_fly_32 : decode cX10_fly 32 = .ok (.invokevirtual 125, 3) := by decide +kernel
theorem dX10_fly_35 : decode cX10_fly 35 = .ok (.iload_n 2, 1) := by decide +kernel
theorem dX10_fly_36 : decode cX10_fly 36 = .ok (.iadd, 1) := by decide +kernel
theorem dX10_fly_37 : decode cX10_fly 37 = .ok (.aload_n 0, 1) := by decide +kernel
theorem dX10_fly_38 : decode cX10_fly 38 = .ok (.getfield 77, 3) := by decide +kernel
theorem dX10_fly_41 : decode cX10_fly 41 = .ok (.iload_n 2, 1) := by decide +kernel
theorem dX10_fly_42 : decode cX10_fly 42 = .ok (.iaload, 1) := by decide +kernel
theorem dX10_fly_43 : decode cX10_fly 43 = .ok (.iastore, 1) := by decide +kernel
theorem dX10_fly_44 : decode cX10_fly 44 = .ok (.iinc 2 1, 3) := by decide +kernel
theorem dX10_fly_47 : decode cX10_fly 47 = .ok (.goto (-33), 3) := by decide +kernel
theorem dX10_fly_50 : decode cX10_fly 50 = .ok (.aload_n 0, 1) := by decide +kernel
theorem dX10_fly_51 : decode cX10_fly 51 = .ok (.getfield 71, 3) := by decide +kernel
theorem dX10_fly_54 : decode cX10_fly 54 = .ok (.iload_n 1, 1) := by decide +kernel
theorem dX10_fly_55 : decode cX10_fly 55 = .ok (.dup2, 1) := by decide +kernel
theorem dX10_fly_56 : decode cX10_fly 56 = .ok (.iaload, 1) := by decide +kernel
theorem dX10_fly_57 : decode cX10_fly 57 = .ok (.iconst 1, 1) := by decide +kernel
theorem dX10_fly_58 : decode cX10_fly 58 = .ok (.iadd, 1) := by decide +kernel
theorem dX10_fly_59 : decode cX10_fly 59 = .ok (.iastore, 1) := by decide +kernel
theorem dX10_fly_60 : decode cX10_fly 60 = .ok (.return_, 1) := by decide +kernel
theorem dX10_land_0 : decode cX10_land 0 = .ok (.iconst 0, 1) := by decide +kernel
theorem dX10_land_1 : decode cX10_land 1 = .ok (.istore_n 3, 1) := by decide +kernel
theorem dX10_land_2 : decode cX10_land 2 = .ok (.iload_n 3, 1) := by decide +kernel
theorem dX10_land_3 : decode cX10_land 3 = .ok (.bipush 16, 2) := by decide +kernel
theorem dX10_land_5 : decode cX10_land 5 = .ok (.if_icmp .ge 28, 3) := by decide +kernel
theorem dX10_land_8 : decode cX10_land 8 = .ok (.aload_n 0, 1) := by decide +kernel
theorem dX10_land_9 : decode cX10_land 9 = .ok (.getfield 77, 3) := by decide +kernel
theorem dX10_land_12 : decode cX10_land 12 = .ok (.iload_n 3, 1) := by decide +kernel
theorem dX10_land_13 : decode cX10_land 13 = .ok (.aload_n 0, 1) := by decide +kernel
theorem dX10_land_14 : decode cX10_land 14 = .ok (.getfield 74, 3) := by decide +kernel
theorem dX10_land_17 : decode cX10_land 17 = .ok (.aload_n 0, 1) := by decide +kernel
theorem dX10_land_18 : decode cX10_land 18 = .ok (.iload_n 1, 1) := by decide +kernel
theorem dX10_land_19 : decode cX10_land 19 = .ok (.iload_n 2, 1) := by decide +kernel
theorem dX10_land_20 : decode cX10_land 20 = .ok (.invokevirtual 125, 3) := by decide +kernel
theorem dX10_land_23 : decode cX10_land 23 = .ok (.iload_n 3, 1) := by decide +kernel
theorem dX10_land_24 : decode cX10_land 24 = .ok (.iadd, 1) := by decide +kernel
theorem dX10_land_25 : decode cX10_land 25 = .ok (.iaload, 1) := by decide +kernel
theorem dX10_land_26 : decode cX10_land 26 = .ok (.iastore, 1) := by decide +kernel
theorem dX10_land_27 : decode cX10_land 27 = .ok (.iinc 3 1, 3) := by decide +kernel
theorem dX10_land_30 : decode cX10_land 30 = .ok (.goto (-28), 3) := by decide +kernel
theorem dX10_land_33 : decode cX10_land 33 = .ok (.aload_n 0, 1) := by decide +kernel
theorem dX10_land_34 : decode cX10_land 34 = .ok (.getfield 71, 3) := by decide +kernel
theorem dX10_land_37 : decode cX10_land 37 = .ok (.iload_n 1, 1) := by decide +kernel
theorem dX10_land_38 : decode cX10_land 38 = .ok (.dup2, 1) := by decide +kernel
theorem dX10_land_39 : decode cX10_land 39 = .ok (.iaload, 1) := by decide +kernel
theorem dX10_land_40 : decode cX10_land 40 = .ok (.iconst 1, 1) := by decide +kernel
theorem dX10_land_41 : decode cX10_land 41 = .ok (.isub, 1) := by decide +kernel
theorem dX10_land_42 : decode cX10_land 42 = .ok (.iastore, 1) := by decide +kernel
theorem dX10_land_43 : decode cX10_land 43 = .ok (.aload_n 0, 1) := by decide +kernel
theorem dX10_land_44 : decode cX10_land 44 = .ok (.iload_n 1, 1) := by decide +kernel
theorem dX10_land_45 : decode cX10_land 45 = .ok (.iload_n 2, 1) := by decide +kernel
theorem dX10_land_46 : decode cX10_land 46 = .ok (.invokevirtual 125, 3) := by decide +kernel
theorem dX10_land_49 : decode cX10_land 49 = .ok (.istore_n 3, 1) := by decide +kernel
theorem dX10_land_50 : decode cX10_land 50 = .ok (.iload_n 3, 1) := by decide +kernel
theorem dX10_land_51 : decode cX10_land 51 = .ok (.aload_n 0, 1) := by decide +kernel
theorem dX10_land_52 : decode cX10_land 52 = .ok (.iload_n 1, 1) := by decide +kernel
theorem dX10_land_53 : decode cX10_land 53 = .ok (.aload_n 0, 1) := by decide +kernel
theorem dX10_land_54 : decode cX10_land 54 = .ok (.getfield 71, 3) := by decide +kernel
theorem dX10_land_57 : decode cX10_land 57 = .ok (.iload_n 1, 1) := by decide +kernel
theorem dX10_land_58 : decode cX10_land 58 = .ok (.iaload, 1) := by decide +kernel
theorem dX10_land_59 : decode cX10_land 59 = .ok (.invokevirtual 125, 3) := by decide +kernel
theorem dX10_land_62 : decode cX10_land 62 = .ok (.if_icmp .ge 24, 3) := by decide +kernel
theorem dX10_land_65 : decode cX10_land 65 = .ok (.aload_n 0, 1) := by decide +kernel
theorem dX10_land_66 : decode cX10_land 66 = .ok (.getfield 74, 3) := by decide +kernel
theorem dX10_land_69 : decode cX10_land 69 = .ok (.iload_n 3, 1) := by decide +kernel
theorem dX10_land_70 : decode cX10_land 70 = .ok (.aload_n 0, 1) := by decide +kernel
theorem dX10_land_71 : decode cX10_land 71 = .ok (.getfield 74, 3) := by decide +kernel
theorem dX10_land_74 : decode cX10_land 74 = .ok (.iload_n 3, 1) := by decide +kernel
theorem dX10_land_75 : decode cX10_land 75 = .ok (.bipush 16, 2) := by decide +kernel
theorem dX10_land_77 : decode cX10_land 77 = .ok (.iadd, 1) := by decide +kernel
theorem dX10_land_78 : decode cX10_land 78 = .ok (.iaload, 1) := by decide +kernel
theorem dX10_land_79 : decode cX10_land 79 = .ok (.iastore, 1) := by decide +kernel
theorem dX10_land_80 : decode cX10_land 80 = .ok (.iinc 3 1, 3) := by decide +kernel
theorem dX10_land_83 : decode cX10_land 83 = .ok (.goto (-33), 3) := by decide +kernel
theorem dX10_land_86 : decode cX10_land 86 = .ok (.return_, 1) := by decide +kernel
theorem dX10_isPacket_0 : decode cX10_isPacket 0 = .ok (.iload_n 1, 1) := by decide +kernel
theorem dX10_isPacket_1 : decode cX10_isPacket 1 = .ok (.invokestatic 87, 3) := by decide +kernel
theorem dX10_isPacket_4 : decode cX10_isPacket 4 = .ok (.ifCond .eq 21, 3) := by decide +kernel
theorem dX10_isPacket_7 : decode cX10_isPacket 7 = .ok (.iload_n 2, 1) := by decide +kernel
theorem dX10_isPacket_8 : decode cX10_isPacket 8 = .ok (.ifCond .lt 17, 3) := by decide +kernel
theorem dX10_isPacket_11 : decode cX10_isPacket 11 = .ok (.iload_n 2, 1) := by decide +kernel
theorem dX10_isPacket_12 : decode cX10_isPacket 12 = .ok (.aload_n 0, 1) := by decide +kernel
theorem dX10_isPacket_13 : decode cX10_isPacket 13 = .ok (.getfield 71, 3) := by decide +kernel
theorem dX10_isPacket_16 : decode cX10_isPacket 16 = .ok (.iload_n 1, 1) := by decide +kernel
theorem dX10_isPacket_17 : decode cX10_isPacket 17 = .ok (.iaload, 1) := by decide +kernel
theorem dX10_isPacket_18 : decode cX10_isPacket 18 = .ok (.if_icmp .ge 7, 3) := by decide +kernel
theorem dX10_isPacket_21 : decode cX10_isPacket 21 = .ok (.iconst 1, 1) := by decide +kernel
theorem dX10_isPacket_22 : decode cX10_isPacket 22 = .ok (.goto 4, 3) := by decide +kernel
theorem dX10_isPacket_25 : decode cX10_isPacket 25 = .ok (.iconst 0, 1) := by decide +kernel
theorem dX10_isPacket_26 : decode cX10_isPacket 26 = .ok (.ireturn, 1) := by decide +kernel
theorem dX10_deliver_0 : decode cX10_deliver 0 = .ok (.aload_n 0, 1) := by decide +kernel
theorem dX10_deliver_1 : decode cX10_deliver 1 = .ok (.aload_n 0, 1) := by decide +kernel
theorem dX10_deliver_2 : decode cX10_deliver 2 = .ok (.iload_n 1, 1) := by decide +kernel
theorem dX10_deliver_3 : decode cX10_deliver 3 = .ok (.iload_n 2, 1) := by decide +kernel
theorem dX10_deliver_4 : decode cX10_deliver 4 = .ok (.invokevirtual 129, 3) := by decide +kernel
theorem dX10_deliver_7 : decode cX10_deliver 7 = .ok (.ifCond .eq 7, 3) := by decide +kernel
theorem dX10_deliver_10 : decode cX10_deliver 10 = .ok (.iconst 0, 1) := by decide +kernel
theorem dX10_deliver_11 : decode cX10_deliver 11 = .ok (.goto 4, 3) := by decide +kernel
theorem dX10_deliver_14 : decode cX10_deliver 14 = .ok (.iconst 1, 1) := by decide +kernel
theorem dX10_deliver_15 : decode cX10_deliver 15 = .ok (.putfield 83, 3) := by decide +kernel
theorem dX10_deliver_18 : decode cX10_deliver 18 = .ok (.aload_n 0, 1) := by decide +kernel
theorem dX10_deliver_19 : decode cX10_deliver 19 = .ok (.getfield 83, 3) := by decide +kernel
theorem dX10_deliver_22 : decode cX10_deliver 22 = .ok (.ifCond .le 5, 3) := by decide +kernel
theorem dX10_deliver_25 : decode cX10_deliver 25 = .ok (.iconst 0, 1) := by decide +kernel
theorem dX10_deliver_26 : decode cX10_deliver 26 = .ok (.ireturn, 1) := by decide +kernel
theorem dX10_deliver_27 : decode cX10_deliver 27 = .ok (.aload_n 0, 1) := by decide +kernel
theorem dX10_deliver_28 : decode cX10_deliver 28 = .ok (.iload_n 1, 1) := by decide +kernel
theorem dX10_deliver_29 : decode cX10_deliver 29 = .ok (.iload_n 2, 1) := by decide +kernel
theorem dX10_deliver_30 : decode cX10_deliver 30 = .ok (.invokevirtual 133, 3) := by decide +kernel
theorem dX10_deliver_33 : decode cX10_deliver 33 = .ok (.iconst 0, 1) := by decide +kernel
theorem dX10_deliver_34 : decode cX10_deliver 34 = .ok (.istore_n 3, 1) := by decide +kernel
theorem dX10_deliver_35 : decode cX10_deliver 35 = .ok (.aload_n 0, 1) := by decide +kernel
theorem dX10_deliver_36 : decode cX10_deliver 36 = .ok (.getfield 43, 3) := by decide +kernel
theorem dX10_deliver_39 : decode cX10_deliver 39 = .ok (.iload_n 1, 1) := by decide +kernel
theorem dX10_deliver_40 : decode cX10_deliver 40 = .ok (.baload, 1) := by decide +kernel
theorem dX10_deliver_41 : decode cX10_deliver 41 = .ok (.ifCond .ne 27, 3) := by decide +kernel
theorem dX10_deliver_44 : decode cX10_deliver 44 = .ok (.aload_n 0, 1) := by decide +kernel
theorem dX10_deliver_45 : decode cX10_deliver 45 = .ok (.getfield 77, 3) := by decide +kernel
theorem dX10_deliver_48 : decode cX10_deliver 48 = .ok (.iconst 0, 1) := by decide +kernel
theorem dX10_deliver_49 : decode cX10_deliver 49 = .ok (.iaload, 1) := by decide +kernel
theorem dX10_deliver_50 : decode cX10_deliver 50 = .ok (.iconst 1, 1) := by decide +kernel
theorem dX10_deliver_51 : decode cX10_deliver 51 = .ok (.if_icmp .ne 11, 3) := by decide +kernel
theorem dX10_deliver_54 : decode cX10_deliver 54 = .ok (.aload_n 0, 1) := by decide +kernel
theorem dX10_deliver_55 : decode cX10_deliver 55 = .ok (.iload_n 1, 1) := by decide +kernel
theorem dX10_deliver_56 : decode cX10_deliver 56 = .ok (.invokevirtual 137, 3) := by decide +kernel
theorem dX10_deliver_59 : decode cX10_deliver 59 = .ok (.goto 8, 3) := by decide +kernel
theorem dX10_deliver_62 : decode cX10_deliver 62 = .ok (.aload_n 0, 1) := by decide +kernel
theorem dX10_deliver_63 : decode cX10_deliver 63 = .ok (.iload_n 1, 1) := by decide +kernel
theorem dX10_deliver_64 : decode cX10_deliver 64 = .ok (.invokevirtual 140, 3) := by decide +kernel
theorem dX10_deliver_67 : decode cX10_deliver 67 = .ok (.istore_n 3, 1) := by decide +kernel
theorem dX10_deliver_68 : decode cX10_deliver 68 = .ok (.aload_n 0, 1) := by decide +kernel
theorem dX10_deliver_69 : decode cX10_deliver 69 = .ok (.invokevirtual 91, 3) := by decide +kernel
theorem dX10_deliver_72 : decode cX10_deliver 72 = .ok (.iload_n 3, 1) := by decide +kernel
theorem dX10_deliver_73 : decode cX10_deliver 73 = .ok (.ireturn, 1) := by decide +kernel
theorem dX10_lose_0 : decode cX10_lose 0 = .ok (.aload_n 0, 1) := by decide +kernel
theorem dX10_lose_1 : decode cX10_lose 1 = .ok (.aload_n 0, 1) := by decide +kernel
theorem dX10_lose_2 : decode cX10_lose 2 = .ok (.iload_n 1, 1) := by decide +kernel
theorem dX10_lose_3 : decode cX10_lose 3 = .ok (.iload_n 2, 1) := by decide +kernel
theorem dX10_lose_4 : decode cX10_lose 4 = .ok (.invokevirtual 129, 3) := by decide +kernel
theorem dX10_lose_7 : decode cX10_lose 7 = .ok (.ifCond .eq 7, 3) := by decide +kernel
theorem dX10_lose_10 : decode cX10_lose 10 = .ok (.iconst 0, 1) := by decide +kernel
theorem dX10_lose_11 : decode cX10_lose 11 = .ok (.goto 4, 3) := by decide +kernel
theorem dX10_lose_14 : decode cX10_lose 14 = .ok (.iconst 1, 1) := by decide +kernel
theorem dX10_lose_15 : decode cX10_lose 15 = .ok (.putfield 83, 3) := by decide +kernel
theorem dX10_lose_18 : decode cX10_lose 18 = .ok (.aload_n 0, 1) := by decide +kernel
theorem dX10_lose_19 : decode cX10_lose 19 = .ok (.getfield 83, 3) := by decide +kernel
theorem dX10_lose_22 : decode cX10_lose 22 = .ok (.ifCond .le 5, 3) := by decide +kernel
theorem dX10_lose_25 : decode cX10_lose 25 = .ok (.iconst 0, 1) := by decide +kernel
theorem dX10_lose_26 : decode cX10_lose 26 = .ok (.ireturn, 1) := by decide +kernel
theorem dX10_lose_27 : decode cX10_lose 27 = .ok (.aload_n 0, 1) := by decide +kernel
theorem dX10_lose_28 : decode cX10_lose 28 = .ok (.iload_n 1, 1) := by decide +kernel
theorem dX10_lose_29 : decode cX10_lose 29 = .ok (.iload_n 2, 1) := by decide +kernel
theorem dX10_lose_30 : decode cX10_lose 30 = .ok (.invokevirtual 133, 3) := by decide +kernel
theorem dX10_lose_33 : decode cX10_lose 33 = .ok (.aload_n 0, 1) := by decide +kernel
theorem dX10_lose_34 : decode cX10_lose 34 = .ok (.getfield 71, 3) := by decide +kernel
theorem dX10_lose_37 : decode cX10_lose 37 = .ok (.iload_n 1, 1) := by decide +kernel
theorem dX10_lose_38 : decode cX10_lose 38 = .ok (.iaload, 1) := by decide +kernel
theorem dX10_lose_39 : decode cX10_lose 39 = .ok (.ireturn, 1) := by decide +kernel
theorem dX10_twice_0 : decode cX10_twice 0 = .ok (.aload_n 0, 1) := by decide +kernel
theorem dX10_twice_1 : decode cX10_twice 1 = .ok (.aload_n 0, 1) := by decide +kernel
theorem dX10_twice_2 : decode cX10_twice 2 = .ok (.iload_n 1, 1) := by decide +kernel
theorem dX10_twice_3 : decode cX10_twice 3 = .ok (.iload_n 2, 1) := by decide +kernel
theorem dX10_twice_4 : decode cX10_twice 4 = .ok (.invokevirtual 129, 3) := by decide +kernel
theorem dX10_twice_7 : decode cX10_twice 7 = .ok (.ifCond .eq 7, 3) := by decide +kernel
theorem dX10_twice_10 : decode cX10_twice 10 = .ok (.iconst 0, 1) := by decide +kernel
theorem dX10_twice_11 : decode cX10_twice 11 = .ok (.goto 4, 3) := by decide +kernel
theorem dX10_twice_14 : decode cX10_twice 14 = .ok (.iconst 1, 1) := by decide +kernel
theorem dX10_twice_15 : decode cX10_twice 15 = .ok (.putfield 83, 3) := by decide +kernel
theorem dX10_twice_18 : decode cX10_twice 18 = .ok (.aload_n 0, 1) := by decide +kernel
theorem dX10_twice_19 : decode cX10_twice 19 = .ok (.getfield 83, 3) := by decide +kernel
theorem dX10_twice_22 : decode cX10_twice 22 = .ok (.ifCond .le 5, 3) := by decide +kernel
theorem dX10_twice_25 : decode cX10_twice 25 = .ok (.iconst 0, 1) := by decide +kernel
theorem dX10_twice_26 : decode cX10_twice 26 = .ok (.ireturn, 1) := by decide +kernel
theorem dX10_twice_27 : decode cX10_twice 27 = .ok (.iconst 0, 1) := by decide +kernel
theorem dX10_twice_28 : decode cX10_twice 28 = .ok (.istore_n 3, 1) := by decide +kernel
theorem dX10_twice_29 : decode cX10_twice 29 = .ok (.iload_n 3, 1) := by decide +kernel
theorem dX10_twice_30 : decode cX10_twice 30 = .ok (.bipush 16, 2) := by decide +kernel
theorem dX10_twice_32 : decode cX10_twice 32 = .ok (.if_icmp .ge 28, 3) := by decide +kernel
theorem dX10_twice_35 : decode cX10_twice 35 = .ok (.aload_n 0, 1) := by decide +kernel
theorem dX10_twice_36 : decode cX10_twice 36 = .ok (.getfield 77, 3) := by decide +kernel
theorem dX10_twice_39 : decode cX10_twice 39 = .ok (.iload_n 3, 1) := by decide +kernel
theorem dX10_twice_40 : decode cX10_twice 40 = .ok (.aload_n 0, 1) := by decide +kernel
theorem dX10_twice_41 : decode cX10_twice 41 = .ok (.getfield 74, 3) := by decide +kernel
theorem dX10_twice_44 : decode cX10_twice 44 = .ok (.aload_n 0, 1) := by decide +kernel
theorem dX10_twice_45 : decode cX10_twice 45 = .ok (.iload_n 1, 1) := by decide +kernel
theorem dX10_twice_46 : decode cX10_twice 46 = .ok (.iload_n 2, 1) := by decide +kernel
theorem dX10_twice_47 : decode cX10_twice 47 = .ok (.invokevirtual 125, 3) := by decide +kernel
theorem dX10_twice_50 : decode cX10_twice 50 = .ok (.iload_n 3, 1) := by decide +kernel
theorem dX10_twice_51 : decode cX10_twice 51 = .ok (.iadd, 1) := by decide +kernel
theorem dX10_twice_52 : decode cX10_twice 52 = .ok (.iaload, 1) := by decide +kernel
theorem dX10_twice_53 : decode cX10_twice 53 = .ok (.iastore, 1) := by decide +kernel
theorem dX10_twice_54 : decode cX10_twice 54 = .ok (.iinc 3 1, 3) := by decide +kernel
theorem dX10_twice_57 : decode cX10_twice 57 = .ok (.goto (-28), 3) := by decide +kernel
theorem dX10_twice_60 : decode cX10_twice 60 = .ok (.aload_n 0, 1) := by decide +kernel
theorem dX10_twice_61 : decode cX10_twice 61 = .ok (.iload_n 1, 1) := by decide +kernel
theorem dX10_twice_62 : decode cX10_twice 62 = .ok (.invokevirtual 121, 3) := by decide +kernel
theorem dX10_twice_65 : decode cX10_twice 65 = .ok (.aload_n 0, 1) := by decide +kernel
theorem dX10_twice_66 : decode cX10_twice 66 = .ok (.getfield 71, 3) := by decide +kernel
theorem dX10_twice_69 : decode cX10_twice 69 = .ok (.iload_n 1, 1) := by decide +kernel
theorem dX10_twice_70 : decode cX10_twice 70 = .ok (.iaload, 1) := by decide +kernel
theorem dX10_twice_71 : decode cX10_twice 71 = .ok (.ireturn, 1) := by decide +kernel
theorem dX10_request_0 : decode cX10_request 0 = .ok (.aload_n 0, 1) := by decide +kernel
theorem dX10_request_1 : decode cX10_request 1 = .ok (.getfield 77, 3) := by decide +kernel
theorem dX10_request_4 : decode cX10_request 4 = .ok (.iconst 1, 1) := by decide +kernel
theorem dX10_request_5 : decode cX10_request 5 = .ok (.iaload, 1) := by decide +kernel
theorem dX10_request_6 : decode cX10_request 6 = .ok (.istore_n 2, 1) := by decide +kernel
theorem dX10_request_7 : decode cX10_request 7 = .ok (.iload_n 2, 1) := by decide +kernel
theorem dX10_request_8 : decode cX10_request 8 = .ok (.aload_n 0, 1) := by decide +kernel
theorem dX10_request_9 : decode cX10_request 9 = .ok (.getfield 65, 3) := by decide +kernel
theorem dX10_request_12 : decode cX10_request 12 = .ok (.iload_n 1, 1) := by decide +kernel
theorem dX10_request_13 : decode cX10_request 13 = .ok (.iaload, 1) := by decide +kernel
theorem dX10_request_14 : decode cX10_request 14 = .ok (.iconst 1, 1) := by decide +kernel
theorem dX10_request_15 : decode cX10_request 15 = .ok (.isub, 1) := by decide +kernel
theorem dX10_request_16 : decode cX10_request 16 = .ok (.if_icmp .ne 43, 3) := by decide +kernel
theorem dX10_request_19 : decode cX10_request 19 = .ok (.iconst 0, 1) := by decide +kernel
theorem dX10_request_20 : decode cX10_request 20 = .ok (.istore_n 3, 1) := by decide +kernel
theorem dX10_request_21 : decode cX10_request 21 = .ok (.iload_n 3, 1) := by decide +kernel
theorem dX10_request_22 : decode cX10_request 22 = .ok (.bipush 16, 2) := by decide +kernel
theorem dX10_request_24 : decode cX10_request 24 = .ok (.if_icmp .ge 26, 3) := by decide +kernel
theorem dX10_request_27 : decode cX10_request 27 = .ok (.aload_n 0, 1) := by decide +kernel
theorem dX10_request_28 : decode cX10_request 28 = .ok (.getfield 77, 3) := by decide +kernel
theorem dX10_request_31 : decode cX10_request 31 = .ok (.iload_n 3, 1) := by decide +kernel
theorem dX10_request_32 : decode cX10_request 32 = .ok (.aload_n 0, 1) := by decide +kernel
theorem dX10_request_33 : decode cX10_request 33 = .ok (.getfield 68, 3) := by decide +kernel
theorem dX10_request_36 : decode cX10_request 36 = .ok (.bipush 16, 2) := by decide +kernel
theorem dX10_request_38 : decode cX10_request 38 = .ok (.iload_n 1, 1) := by decide +kernel
theorem dX10_request_39 : decode cX10_request 39 = .ok (.imul, 1) := by decide +kernel
theorem dX10_request_40 : decode cX10_request 40 = .ok (.iload_n 3, 1) := by decide +kernel
theorem dX10_request_41 : decode cX10_request 41 = .ok (.iadd, 1) := by decide +kernel
theorem dX10_request_42 : decode cX10_request 42 = .ok (.iaload, 1) := by decide +kernel
theorem dX10_request_43 : decode cX10_request 43 = .ok (.iastore, 1) := by decide +kernel
theorem dX10_request_44 : decode cX10_request 44 = .ok (.iinc 3 1, 3) := by decide +kernel
theorem dX10_request_47 : decode cX10_request 47 = .ok (.goto (-26), 3) := by decide +kernel
theorem dX10_request_50 : decode cX10_request 50 = .ok (.aload_n 0, 1) := by decide +kernel
theorem dX10_request_51 : decode cX10_request 51 = .ok (.iconst 1, 1) := by decide +kernel
theorem dX10_request_52 : decode cX10_request 52 = .ok (.iload_n 1, 1) := by decide +kernel
theorem dX10_request_53 : decode cX10_request 53 = .ok (.isub, 1) := by decide +kernel
theorem dX10_request_54 : decode cX10_request 54 = .ok (.invokevirtual 121, 3) := by decide +kernel
theorem dX10_request_57 : decode cX10_request 57 = .ok (.iconst 2, 1) := by decide +kernel
theorem dX10_request_58 : decode cX10_request 58 = .ok (.ireturn, 1) := by decide +kernel
theorem dX10_request_59 : decode cX10_request 59 = .ok (.iload_n 2, 1) := by decide +kernel
theorem dX10_request_60 : decode cX10_request 60 = .ok (.aload_n 0, 1) := by decide +kernel
theorem dX10_request_61 : decode cX10_request 61 = .ok (.getfield 65, 3) := by decide +kernel
theorem dX10_request_64 : decode cX10_request 64 = .ok (.iload_n 1, 1) := by decide +kernel
theorem dX10_request_65 : decode cX10_request 65 = .ok (.iaload, 1) := by decide +kernel
theorem dX10_request_66 : decode cX10_request 66 = .ok (.if_icmp .eq 5, 3) := by decide +kernel
theorem dX10_request_69 : decode cX10_request 69 = .ok (.iconst 0, 1) := by decide +kernel
theorem dX10_request_70 : decode cX10_request 70 = .ok (.ireturn, 1) := by decide +kernel
theorem dX10_request_71 : decode cX10_request 71 = .ok (.aload_n 0, 1) := by decide +kernel
theorem dX10_request_72 : decode cX10_request 72 = .ok (.getfield 65, 3) := by decide +kernel
theorem dX10_request_75 : decode cX10_request 75 = .ok (.iload_n 1, 1) := by decide +kernel
theorem dX10_request_76 : decode cX10_request 76 = .ok (.dup2, 1) := by decide +kernel
theorem dX10_request_77 : decode cX10_request 77 = .ok (.iaload, 1) := by decide +kernel
theorem dX10_request_78 : decode cX10_request 78 = .ok (.iconst 1, 1) := by decide +kernel
theorem dX10_request_79 : decode cX10_request 79 = .ok (.iadd, 1) := by decide +kernel
theorem dX10_request_80 : decode cX10_request 80 = .ok (.iastore, 1) := by decide +kernel
theorem dX10_request_81 : decode cX10_request 81 = .ok (.aload_n 0, 1) := by decide +kernel
theorem dX10_request_82 : decode cX10_request 82 = .ok (.getfield 77, 3) := by decide +kernel
theorem dX10_request_85 : decode cX10_request 85 = .ok (.iconst 2, 1) := by decide +kernel
theorem dX10_request_86 : decode cX10_request 86 = .ok (.iaload, 1) := by decide +kernel
theorem dX10_request_87 : decode cX10_request 87 = .ok (.istore_n 3, 1) := by decide +kernel
theorem dX10_request_88 : decode cX10_request 88 = .ok (.iload_n 3, 1) := by decide +kernel
theorem dX10_request_89 : decode cX10_request 89 = .ok (.ifCond .ne 11, 3) := by decide +kernel
theorem dX10_request_92 : decode cX10_request 92 = .ok (.aload_n 0, 1) := by decide +kernel
theorem dX10_request_93 : decode cX10_request 93 = .ok (.iload_n 1, 1) := by decide +kernel
theorem dX10_request_94 : decode cX10_request 94 = .ok (.invokevirtual 143, 3) := by decide +kernel
theorem dX10_request_97 : decode cX10_request 97 = .ok (.goto 41, 3) := by decide +kernel
theorem dX10_request_100 : decode cX10_request 100 = .ok (.iload_n 3, 1) := by decide +kernel
theorem dX10_request_101 : decode cX10_request 101 = .ok (.iconst 1, 1) := by decide +kernel
theorem dX10_request_102 : decode cX10_request 102 = .ok (.if_icmp .ne 11, 3) := by decide +kernel
theorem dX10_request_105 : decode cX10_request 105 = .ok (.aload_n 0, 1) := by decide +kernel
theorem dX10_request_106 : decode cX10_request 106 = .ok (.iload_n 1, 1) := by decide +kernel
theorem dX10_request_107 : decode cX10_request 107 = .ok (.invokevirtual 146, 3) := by decide +kernel
theorem dX10_request_110 : decode cX10_request 110 = .ok (.goto 28, 3) := by decide +kernel
theorem dX10_request_113 : decode cX10_request 113 = .ok (.aload_n 0, 1) := by decide +kernel
theorem dX10_request_114 : decode cX10_request 114 = .ok (.iload_n 1, 1) := by decide +kernel
theorem dX10_request_115 : decode cX10_request 115 = .ok (.aload_n 0, 1) := by decide +kernel
theorem dX10_request_116 : decode cX10_request 116 = .ok (.iload_n 1, 1) := by decide +kernel
theorem dX10_request_117 : decode cX10_request 117 = .ok (.iconst 1, 1) := by decide +kernel
theorem dX10_request_118 : decode cX10_request 118 = .ok (.aload_n 0, 1) := by decide +kernel
theorem dX10_request_119 : decode cX10_request 119 = .ok (.getfield 77, 3) := by decide +kernel
theorem dX10_request_122 : decode cX10_request 122 = .ok (.bipush 6, 2) := by decide +kernel
theorem dX10_request_124 : decode cX10_request 124 = .ok (.iaload, 1) := by decide +kernel
theorem dX10_request_125 : decode cX10_request 125 = .ok (.invokevirtual 104, 3) := by decide +kernel
theorem dX10_request_128 : decode cX10_request 128 = .ok (.invokevirtual 149, 3) := by decide +kernel
theorem dX10_request_131 : decode cX10_request 131 = .ok (.aload_n 0, 1) := by decide +kernel
theorem dX10_request_132 : decode cX10_request 132 = .ok (.iconst 0, 1) := by decide +kernel
theorem dX10_request_133 : decode cX10_request 133 = .ok (.iload_n 2, 1) := by decide +kernel
theorem dX10_request_134 : decode cX10_request 134 = .ok (.iconst 2, 1) := by decide +kernel
theorem dX10_request_135 : decode cX10_request 135 = .ok (.invokevirtual 111, 3) := by decide +kernel
theorem dX10_request_138 : decode cX10_request 138 = .ok (.iconst 0, 1) := by decide +kernel
theorem dX10_request_139 : decode cX10_request 139 = .ok (.istore 4, 2) := by decide +kernel
theorem dX10_request_141 : decode cX10_request 141 = .ok (.iload 4, 2) := by decide +kernel
theorem dX10_request_143 : decode cX10_request 143 = .ok (.bipush 16, 2) := by decide +kernel
theorem dX10_request_145 : decode cX10_request 145 = .ok (.if_icmp .ge 28, 3) := by decide +kernel
theorem dX10_request_148 : decode cX10_request 148 = .ok (.aload_n 0, 1) := by decide +kernel
theorem dX10_request_149 : decode cX10_request 149 = .ok (.getfield 68, 3) := by decide +kernel
theorem dX10_request_152 : decode cX10_request 152 = .ok (.bipush 16, 2) := by decide +kernel
theorem dX10_request_154 : decode cX10_request 154 = .ok (.iload_n 1, 1) := by decide +kernel
theorem dX10_request_155 : decode cX10_request 155 = .ok (.imul, 1) := by decide +kernel
theorem dX10_request_156 : decode cX10_request 156 = .ok (.iload 4, 2) := by decide +kernel
theorem dX10_request_158 : decode cX10_request 158 = .ok (.iadd, 1) := by decide +kernel
theorem dX10_request_159 : decode cX10_request 159 = .ok (.aload_n 0, 1) := by decide +kernel
theorem dX10_request_160 : decode cX10_request 160 = .ok (.getfield 77, 3) := by decide +kernel
theorem dX10_request_163 : decode cX10_request 163 = .ok (.iload 4, 2) := by decide +kernel
theorem dX10_request_165 : decode cX10_request 165 = .ok (.iaload, 1) := by decide +kernel
theorem dX10_request_166 : decode cX10_request 166 = .ok (.iastore, 1) := by decide +kernel
theorem dX10_request_167 : decode cX10_request 167 = .ok (.iinc 4 1, 3) := by decide +kernel
theorem dX10_request_170 : decode cX10_request 170 = .ok (.goto (-29), 3) := by decide +kernel
theorem dX10_request_173 : decode cX10_request 173 = .ok (.aload_n 0, 1) := by decide +kernel
theorem dX10_request_174 : decode cX10_request 174 = .ok (.iconst 1, 1) := by decide +kernel
theorem dX10_request_175 : decode cX10_request 175 = .ok (.iload_n 1, 1) := by decide +kernel
theorem dX10_request_176 : decode cX10_request 176 = .ok (.isub, 1) := by decide +kernel
theorem dX10_request_177 : decode cX10_request 177 = .ok (.invokevirtual 121, 3) := by decide +kernel
theorem dX10_request_180 : decode cX10_request 180 = .ok (.iconst 1, 1) := by decide +kernel
theorem dX10_request_181 : decode cX10_request 181 = .ok (.ireturn, 1) := by decide +kernel
theorem dX10_answerOpen_0 : decode cX10_answerOpen 0 = .ok (.aload_n 0, 1) := by decide +kernel
theorem dX10_answerOpen_1 : decode cX10_answerOpen 1 = .ok (.getfield 77, 3) := by decide +kernel
theorem dX10_answerOpen_4 : decode cX10_answerOpen 4 = .ok (.iconst 1, 1) := by decide +kernel
theorem dX10_answerOpen_5 : decode cX10_answerOpen 5 = .ok (.iaload, 1) := by decide +kernel
theorem dX10_answerOpen_6 : decode cX10_answerOpen 6 = .ok (.istore_n 2, 1) := by decide +kernel
theorem dX10_answerOpen_7 : decode cX10_answerOpen 7 = .ok (.iconst 0, 1) := by decide +kernel
theorem dX10_answerOpen_8 : decode cX10_answerOpen 8 = .ok (.istore_n 3, 1) := by decide +kernel
theorem dX10_answerOpen_9 : decode cX10_answerOpen 9 = .ok (.iconst 0, 1) := by decide +kernel
theorem dX10_answerOpen_10 : decode cX10_answerOpen 10 = .ok (.istore 4, 2) := by decide +kernel
theorem dX10_answerOpen_12 : decode cX10_answerOpen 12 = .ok (.iload 4, 2) := by decide +kernel
theorem dX10_answerOpen_14 : decode cX10_answerOpen 14 = .ok (.aload_n 0, 1) := by decide +kernel
theorem dX10_answerOpen_15 : decode cX10_answerOpen 15 = .ok (.getfield 77, 3) := by decide +kernel
theorem dX10_answerOpen_18 : decode cX10_answerOpen 18 = .ok (.bipush 10, 2) := by decide +kernel
theorem dX10_answerOpen_20 : decode cX10_answerOpen 20 = .ok (.iaload, 1) := by decide +kernel
theorem dX10_answerOpen_21 : decode cX10_answerOpen 21 = .ok (.if_icmp .ge 72, 3) := by decide +kernel
theorem dX10_answerOpen_24 : decode cX10_answerOpen 24 = .ok (.iconst 0, 1) := by decide +kernel
theorem dX10_answerOpen_25 : decode cX10_answerOpen 25 = .ok (.istore 5, 2) := by decide +kernel
theorem dX10_answerOpen_27 : decode cX10_answerOpen 27 = .ok (.iload 5, 2) := by decide +kernel
theorem dX10_answerOpen_29 : decode cX10_answerOpen 29 = .ok (.aload_n 0, 1) := by decide +kernel
theorem dX10_answerOpen_30 : decode cX10_answerOpen 30 = .ok (.getfield 7, 3) := by decide +kernel
theorem dX10_answerOpen_33 : decode cX10_answerOpen 33 = .ok (.iload_n 1, 1) := by decide +kernel
theorem dX10_answerOpen_34 : decode cX10_answerOpen 34 = .ok (.iaload, 1) := by decide +kernel
theorem dX10_answerOpen_35 : decode cX10_answerOpen 35 = .ok (.if_icmp .ge 52, 3) := by decide +kernel
theorem dX10_answerOpen_38 : decode cX10_answerOpen 38 = .ok (.iload_n 3, 1) := by decide +kernel
theorem dX10_answerOpen_39 : decode cX10_answerOpen 39 = .ok (.ifCond .ne 40, 3) := by decide +kernel
theorem dX10_answerOpen_42 : decode cX10_answerOpen 42 = .ok (.aload_n 0, 1) := by decide +kernel
theorem dX10_answerOpen_43 : decode cX10_answerOpen 43 = .ok (.getfield 77, 3) := by decide +kernel
theorem dX10_answerOpen_46 : decode cX10_answerOpen 46 = .ok (.bipush 11, 2) := by decide +kernel
theorem dX10_answerOpen_48 : decode cX10_answerOpen 48 = .ok (.iload 4, 2) := by decide +kernel
theorem dX10_answerOpen_50 : decode cX10_answerOpen 50 = .ok (.iadd, 1) := by decide +kernel
theorem dX10_answerOpen_51 : decode cX10_answerOpen 51 = .ok (.iaload, 1) := by decide +kernel
theorem dX10_answerOpen_52 : decode cX10_answerOpen 52 = .ok (.aload_n 0, 1) := by decide +kernel
theorem dX10_answerOpen_53 : decode cX10_answerOpen 53 = .ok (.getfield 13, 3) := by decide +kernel
theorem dX10_answerOpen_56 : decode cX10_answerOpen 56 = .ok (.iconst 4, 1) := by decide +kernel
theorem dX10_answerOpen_57 : decode cX10_answerOpen 57 = .ok (.iload_n 1, 1) := by decide +kernel
theorem dX10_answerOpen_58 : decode cX10_answerOpen 58 = .ok (.imul, 1) := by decide +kernel
theorem dX10_answerOpen_59 : decode cX10_answerOpen 59 = .ok (.iload 5, 2) := by decide +kernel
theorem dX10_answerOpen_61 : decode cX10_answerOpen 61 = .ok (.iadd, 1) := by decide +kernel
theorem dX10_answerOpen_62 : decode cX10_answerOpen 62 = .ok (.iaload, 1) := by decide +kernel
theorem dX10_answerOpen_63 : decode cX10_answerOpen 63 = .ok (.if_icmp .ne 16, 3) := by decide +kernel
theorem dX10_answerOpen_66 : decode cX10_answerOpen 66 = .ok (.aload_n 0, 1) := by decide +kernel
theorem dX10_answerOpen_67 : decode cX10_answerOpen 67 = .ok (.getfield 77, 3) := by decide +kernel
theorem dX10_answerOpen_70 : decode cX10_answerOpen 70 = .ok (.bipush 11, 2) := by decide +kernel
theorem dX10_answerOpen_72 : decode cX10_answerOpen 72 = .ok (.iload 4, 2) := by decide +kernel
theorem dX10_answerOpen_74 : decode cX10_answerOpen 74 = .ok (.iadd, 1) := by decide +kernel
theorem dX10_answerOpen_75 : decode cX10_answerOpen 75 = .ok (.iaload, 1) := by decide +kernel
theorem dX10_answerOpen_76 : decode cX10_answerOpen 76 = .ok (.goto 4, 3) := by decide +kernel
theorem dX10_answerOpen_79 : decode cX10_answerOpen 79 = .ok (.iload_n 3, 1) := by decide +kernel
theorem dX10_answerOpen_80 : decode cX10_answerOpen 80 = .ok (.istore_n 3, 1) := by decide +kernel
theorem dX10_answerOpen_81 : decode cX10_answerOpen 81 = .ok (.iinc 5 1, 3) := by decide +kernel
theorem dX10_answerOpen_84 : decode cX10_answerOpen 84 = .ok (.goto (-57), 3) := by decide +kernel
theorem dX10_answerOpen_87 : decode cX10_answerOpen 87 = .ok (.iinc 4 1, 3) := by decide +kernel
theorem dX10_answerOpen_90 : decode cX10_answerOpen 90 = .ok (.goto (-78), 3) := by decide +kernel
theorem dX10_answerOpen_93 : decode cX10_answerOpen 93 = .ok (.aload_n 0, 1) := by decide +kernel
theorem dX10_answerOpen_94 : decode cX10_answerOpen 94 = .ok (.getfield 77, 3) := by decide +kernel
theorem dX10_answerOpen_97 : decode cX10_answerOpen 97 = .ok (.bipush 7, 2) := by decide +kernel
theorem dX10_answerOpen_99 : decode cX10_answerOpen 99 = .ok (.iaload, 1) := by decide +kernel
theorem dX10_answerOpen_100 : decode cX10_answerOpen 100 = .ok (.aload_n 0, 1) := by decide +kernel
theorem dX10_answerOpen_101 : decode cX10_answerOpen 101 = .ok (.getfield 16, 3) := by decide +kernel
theorem dX10_answerOpen_104 : decode cX10_answerOpen 104 = .ok (.iload_n 1, 1) := by decide +kernel
theorem dX10_answerOpen_105 : decode cX10_answerOpen 105 = .ok (.iaload, 1) := by decide +kernel
theorem dX10_answerOpen_106 : decode cX10_answerOpen 106 = .ok (.if_icmp .le 13, 3) := by decide +kernel
theorem dX10_answerOpen_109 : decode cX10_answerOpen 109 = .ok (.aload_n 0, 1) := by decide +kernel
theorem dX10_answerOpen_110 : decode cX10_answerOpen 110 = .ok (.getfield 77, 3) := by decide +kernel
theorem dX10_answerOpen_113 : decode cX10_answerOpen 113 = .ok (.bipush 7, 2) := by decide +kernel
theorem dX10_answerOpen_115 : decode cX10_answerOpen 115 = .ok (.iaload, 1) := by decide +kernel
theorem dX10_answerOpen_116 : decode cX10_answerOpen 116 = .ok (.goto 9, 3) := by decide +kernel
theorem dX10_answerOpen_119 : decode cX10_answerOpen 119 = .ok (.aload_n 0, 1) := by decide +kernel
theorem dX10_answerOpen_120 : decode cX10_answerOpen 120 = .ok (.getfield 16, 3) := by decide +kernel
theorem dX10_answerOpen_123 : decode cX10_answerOpen 123 = .ok (.iload_n 1, 1) := by decide +kernel
theorem dX10_answerOpen_124 : decode cX10_answerOpen 124 = .ok (.iaload, 1) := by decide +kernel
theorem dX10_answerOpen_125 : decode cX10_answerOpen 125 = .ok (.istore 4, 2) := by decide +kernel
theorem dX10_answerOpen_127 : decode cX10_answerOpen 127 = .ok (.aload_n 0, 1) := by decide +kernel
theorem dX10_answerOpen_128 : decode cX10_answerOpen 128 = .ok (.getfield 77, 3) := by decide +kernel
theorem dX10_answerOpen_131 : decode cX10_answerOpen 131 = .ok (.bipush 8, 2) := by decide +kernel
theorem dX10_answerOpen_133 : decode cX10_answerOpen 133 = .ok (.iaload, 1) := by decide +kernel
theorem dX10_answerOpen_134 : decode cX10_answerOpen 134 = .ok (.aload_n 0, 1) := by decide +kernel
theorem dX10_answerOpen_135 : decode cX10_answerOpen 135 = .ok (.getfield 19, 3) := by decide +kernel
theorem dX10_answerOpen_138 : decode cX10_answerOpen 138 = .ok (.iload_n 1, 1) := by decide +kernel
theorem dX10_answerOpen_139 : decode cX10_answerOpen 139 = .ok (.iaload, 1) := by decide +kernel
theorem dX10_answerOpen_140 : decode cX10_answerOpen 140 = .ok (.if_icmp .ge 13, 3) := by decide +kernel
theorem dX10_answerOpen_143 : decode cX10_answerOpen 143 = .ok (.aload_n 0, 1) := by decide +kernel
theorem dX10_answerOpen_144 : decode cX10_answerOpen 144 = .ok (.getfield 77, 3) := by decide +kernel
theorem dX10_answerOpen_147 : decode cX10_answerOpen 147 = .ok (.bipush 8, 2) := by decide +kernel
theorem dX10_answerOpen_149 : decode cX10_answerOpen 149 = .ok (.iaload, 1) := by decide +kernel
theorem dX10_answerOpen_150 : decode cX10_answerOpen 150 = .ok (.goto 9, 3) := by decide +kernel
theorem dX10_answerOpen_153 : decode cX10_answerOpen 153 = .ok (.aload_n 0, 1) := by decide +kernel
theorem dX10_answerOpen_154 : decode cX10_answerOpen 154 = .ok (.getfield 19, 3) := by decide +kernel
theorem dX10_answerOpen_157 : decode cX10_answerOpen 157 = .ok (.iload_n 1, 1) := by decide +kernel
theorem dX10_answerOpen_158 : decode cX10_answerOpen 158 = .ok (.iaload, 1) := by decide +kernel
theorem dX10_answerOpen_159 : decode cX10_answerOpen 159 = .ok (.istore 5, 2) := by decide +kernel
theorem dX10_answerOpen_161 : decode cX10_answerOpen 161 = .ok (.aload_n 0, 1) := by decide +kernel
theorem dX10_answerOpen_162 : decode cX10_answerOpen 162 = .ok (.getfield 77, 3) := by decide +kernel
theorem dX10_answerOpen_165 : decode cX10_answerOpen 165 = .ok (.iconst 4, 1) := by decide +kernel
theorem dX10_answerOpen_166 : decode cX10_answerOpen 166 = .ok (.iaload, 1) := by decide +kernel
theorem dX10_answerOpen_167 : decode cX10_answerOpen 167 = .ok (.istore 6, 2) := by decide +kernel
theorem dX10_answerOpen_169 : decode cX10_answerOpen 169 = .ok (.aload_n 0, 1) := by decide +kernel
theorem dX10_answerOpen_170 : decode cX10_answerOpen 170 = .ok (.getfield 77, 3) := by decide +kernel
theorem dX10_answerOpen_173 : decode cX10_answerOpen 173 = .ok (.iconst 5, 1) := by decide +kernel
theorem dX10_answerOpen_174 : decode cX10_answerOpen 174 = .ok (.iaload, 1) := by decide +kernel
theorem dX10_answerOpen_175 : decode cX10_answerOpen 175 = .ok (.istore 7, 2) := by decide +kernel
theorem dX10_answerOpen_177 : decode cX10_answerOpen 177 = .ok (.aload_n 0, 1) := by decide +kernel
theorem dX10_answerOpen_178 : decode cX10_answerOpen 178 = .ok (.iconst 0, 1) := by decide +kernel
theorem dX10_answerOpen_179 : decode cX10_answerOpen 179 = .ok (.iload_n 2, 1) := by decide +kernel
theorem dX10_answerOpen_180 : decode cX10_answerOpen 180 = .ok (.iconst 0, 1) := by decide +kernel
theorem dX10_answerOpen_181 : decode cX10_answerOpen 181 = .ok (.invokevirtual 111, 3) := by decide +kernel
theorem dX10_answerOpen_184 : decode cX10_answerOpen 184 = .ok (.iload_n 3, 1) := by decide +kernel
theorem dX10_answerOpen_185 : decode cX10_answerOpen 185 = .ok (.ifCond .eq 21, 3) := by decide +kernel
theorem dX10_answerOpen_188 : decode cX10_answerOpen 188 = .ok (.iload 4, 2) := by decide +kernel
theorem dX10_answerOpen_190 : decode cX10_answerOpen 190 = .ok (.iload 5, 2) := by decide +kernel
theorem dX10_answerOpen_192 : decode cX10_answerOpen 192 = .ok (.if_icmp .gt 14, 3) := by decide +kernel
theorem dX10_answerOpen_195 : decode cX10_answerOpen 195 = .ok (.aload_n 0, 1) := by decide +kernel
theorem dX10_answerOpen_196 : decode cX10_answerOpen 196 = .ok (.getfield 28, 3) := by decide +kernel
theorem dX10_answerOpen_199 : decode cX10_answerOpen 199 = .ok (.iload_n 1, 1) := by decide +kernel
theorem dX10_answerOpen_200 : decode cX10_answerOpen 200 = .ok (.iaload, 1) := by decide +kernel
theorem dX10_answerOpen_201 : decode cX10_answerOpen 201 = .ok (.bipush 16, 2) := by decide +kernel
theorem dX10_answerOpen_203 : decode cX10_answerOpen 203 = .ok (.if_icmp .ne 11, 3) := by decide +kernel
theorem dX10_answerOpen_206 : decode cX10_answerOpen 206 = .ok (.aload_n 0, 1) := by decide +kernel
theorem dX10_answerOpen_207 : decode cX10_answerOpen 207 = .ok (.getfield 77, 3) := by decide +kernel
theorem dX10_answerOpen_210 : decode cX10_answerOpen 210 = .ok (.iconst 3, 1) := by decide +kernel
theorem dX10_answerOpen_211 : decode cX10_answerOpen 211 = .ok (.iconst 0, 1) := by decide +kernel
theorem dX10_answerOpen_212 : decode cX10_answerOpen 212 = .ok (.iastore, 1) := by decide +kernel
theorem dX10_answerOpen_213 : decode cX10_answerOpen 213 = .ok (.return_, 1) := by decide +kernel
theorem dX10_answerOpen_214 : decode cX10_answerOpen 214 = .ok (.aload_n 0, 1) := by decide +kernel
theorem dX10_answerOpen_215 : decode cX10_answerOpen 215 = .ok (.getfield 77, 3) := by decide +kernel
theorem dX10_answerOpen_218 : decode cX10_answerOpen 218 = .ok (.iconst 4, 1) := by decide +kernel
theorem dX10_answerOpen_219 : decode cX10_answerOpen 219 = .ok (.aload_n 0, 1) := by decide +kernel
theorem dX10_answerOpen_220 : decode cX10_answerOpen 220 = .ok (.iload_n 1, 1) := by decide +kernel
theorem dX10_answerOpen_221 : decode cX10_answerOpen 221 = .ok (.invokevirtual 114, 3) := by decide +kernel
theorem dX10_answerOpen_224 : decode cX10_answerOpen 224 = .ok (.iastore, 1) := by decide +kernel
theorem dX10_answerOpen_225 : decode cX10_answerOpen 225 = .ok (.aload_n 0, 1) := by decide +kernel
theorem dX10_answerOpen_226 : decode cX10_answerOpen 226 = .ok (.getfield 77, 3) := by decide +kernel
theorem dX10_answerOpen_229 : decode cX10_answerOpen 229 = .ok (.iconst 5, 1) := by decide +kernel
theorem dX10_answerOpen_230 : decode cX10_answerOpen 230 = .ok (.aload_n 0, 1) := by decide +kernel
theorem dX10_answerOpen_231 : decode cX10_answerOpen 231 = .ok (.iload_n 1, 1) := by decide +kernel
theorem dX10_answerOpen_232 : decode cX10_answerOpen 232 = .ok (.invokevirtual 118, 3) := by decide +kernel
theorem dX10_answerOpen_235 : decode cX10_answerOpen 235 = .ok (.iastore, 1) := by decide +kernel
theorem dX10_answerOpen_236 : decode cX10_answerOpen 236 = .ok (.aload_n 0, 1) := by decide +kernel
theorem dX10_answerOpen_237 : decode cX10_answerOpen 237 = .ok (.getfield 77, 3) := by decide +kernel
theorem dX10_answerOpen_240 : decode cX10_answerOpen 240 = .ok (.bipush 7, 2) := by decide +kernel
theorem dX10_answerOpen_242 : decode cX10_answerOpen 242 = .ok (.iload 4, 2) := by decide +kernel
theorem dX10_answerOpen_244 : decode cX10_answerOpen 244 = .ok (.iastore, 1) := by decide +kernel
theorem dX10_answerOpen_245 : decode cX10_answerOpen 245 = .ok (.aload_n 0, 1) := by decide +kernel
theorem dX10_answerOpen_246 : decode cX10_answerOpen 246 = .ok (.getfield 77, 3) := by decide +kernel
theorem dX10_answerOpen_249 : decode cX10_answerOpen 249 = .ok (.bipush 8, 2) := by decide +kernel
theorem dX10_answerOpen_251 : decode cX10_answerOpen 251 = .ok (.iload 5, 2) := by decide +kernel
theorem dX10_answerOpen_253 : decode cX10_answerOpen 253 = .ok (.iastore, 1) := by decide +kernel
theorem dX10_answerOpen_254 : decode cX10_answerOpen 254 = .ok (.aload_n 0, 1) := by decide +kernel
theorem dX10_answerOpen_255 : decode cX10_answerOpen 255 = .ok (.getfield 77, 3) := by decide +kernel
theorem dX10_answerOpen_258 : decode cX10_answerOpen 258 = .ok (.bipush 9, 2) := by decide +kernel
theorem dX10_answerOpen_260 : decode cX10_answerOpen 260 = .ok (.iload_n 3, 1) := by decide +kernel
theorem dX10_answerOpen_261 : decode cX10_answerOpen 261 = .ok (.iastore, 1) := by decide +kernel
theorem dX10_answerOpen_262 : decode cX10_answerOpen 262 = .ok (.aload_n 0, 1) := by decide +kernel
theorem dX10_answerOpen_263 : decode cX10_answerOpen 263 = .ok (.iload_n 1, 1) := by decide +kernel
theorem dX10_answerOpen_264 : decode cX10_answerOpen 264 = .ok (.aload_n 0, 1) := by decide +kernel
theorem dX10_answerOpen_265 : decode cX10_answerOpen 265 = .ok (.getfield 77, 3) := by decide +kernel
theorem dX10_answerOpen_268 : decode cX10_answerOpen 268 = .ok (.iconst 4, 1) := by decide +kernel
theorem dX10_answerOpen_269 : decode cX10_answerOpen 269 = .ok (.iaload, 1) := by decide +kernel
theorem dX10_answerOpen_270 : decode cX10_answerOpen 270 = .ok (.iload 6, 2) := by decide +kernel
theorem dX10_answerOpen_272 : decode cX10_answerOpen 272 = .ok (.iload_n 3, 1) := by decide +kernel
theorem dX10_answerOpen_273 : decode cX10_answerOpen 273 = .ok (.iload 4, 2) := by decide +kernel
theorem dX10_answerOpen_275 : decode cX10_answerOpen 275 = .ok (.iload 5, 2) := by decide +kernel
theorem dX10_answerOpen_277 : decode cX10_answerOpen 277 = .ok (.iconst 0, 1) := by decide +kernel
theorem dX10_answerOpen_278 : decode cX10_answerOpen 278 = .ok (.iconst 0, 1) := by decide +kernel
theorem dX10_answerOpen_279 : decode cX10_answerOpen 279 = .ok (.iload 7, 2) := by decide +kernel
theorem dX10_answerOpen_281 : decode cX10_answerOpen 281 = .ok (.aload_n 0, 1) := by decide +kernel
theorem dX10_answerOpen_282 : decode cX10_answerOpen 282 = .ok (.getfield 77, 3) := by decide +kernel
theorem dX10_answerOpen_285 : decode cX10_answerOpen 285 = .ok (.iconst 5, 1) := by decide +kernel
theorem dX10_answerOpen_286 : decode cX10_answerOpen 286 = .ok (.iaload, 1) := by decide +kernel
theorem dX10_answerOpen_287 : decode cX10_answerOpen 287 = .ok (.if_icmp .ge 8, 3) := by decide +kernel
theorem dX10_answerOpen_290 : decode cX10_answerOpen 290 = .ok (.iload 7, 2) := by decide +kernel
theorem dX10_answerOpen_292 : decode cX10_answerOpen 292 = .ok (.goto 9, 3) := by decide +kernel
theorem dX10_answerOpen_295 : decode cX10_answerOpen 295 = .ok (.aload_n 0, 1) := by decide +kernel
theorem dX10_answerOpen_296 : decode cX10_answerOpen 296 = .ok (.getfield 77, 3) := by decide +kernel
theorem dX10_answerOpen_299 : decode cX10_answerOpen 299 = .ok (.iconst 5, 1) := by decide +kernel
theorem dX10_answerOpen_300 : decode cX10_answerOpen 300 = .ok (.iaload, 1) := by decide +kernel
theorem dX10_answerOpen_301 : decode cX10_answerOpen 301 = .ok (.invokevirtual 152, 3) := by decide +kernel
theorem dX10_answerOpen_304 : decode cX10_answerOpen 304 = .ok (.return_, 1) := by decide +kernel
theorem dX10_answerRenew_0 : decode cX10_answerRenew 0 = .ok (.aload_n 0, 1) := by decide +kernel
theorem dX10_answerRenew_1 : decode cX10_answerRenew 1 = .ok (.getfield 77, 3) := by decide +kernel
theorem dX10_answerRenew_4 : decode cX10_answerRenew 4 = .ok (.iconst 1, 1) := by decide +kernel
theorem dX10_answerRenew_5 : decode cX10_answerRenew 5 = .ok (.iaload, 1) := by decide +kernel
theorem dX10_answerRenew_6 : decode cX10_answerRenew 6 = .ok (.istore_n 2, 1) := by decide +kernel
theorem dX10_answerRenew_7 : decode cX10_answerRenew 7 = .ok (.aload_n 0, 1) := by decide +kernel
theorem dX10_answerRenew_8 : decode cX10_answerRenew 8 = .ok (.iload_n 1, 1) := by decide +kernel
theorem dX10_answerRenew_9 : decode cX10_answerRenew 9 = .ok (.iconst 1, 1) := by decide +kernel
theorem dX10_answerRenew_10 : decode cX10_answerRenew 10 = .ok (.aload_n 0, 1) := by decide +kernel
theorem dX10_answerRenew_11 : decode cX10_answerRenew 11 = .ok (.getfield 77, 3) := by decide +kernel
theorem dX10_answerRenew_14 : decode cX10_answerRenew 14 = .ok (.bipush 6, 2) := by decide +kernel
theorem dX10_answerRenew_16 : decode cX10_answerRenew 16 = .ok (.iaload, 1) := by decide +kernel
theorem dX10_answerRenew_17 : decode cX10_answerRenew 17 = .ok (.invokevirtual 104, 3) := by decide +kernel
theorem dX10_answerRenew_20 : decode cX10_answerRenew 20 = .ok (.istore_n 3, 1) := by decide +kernel
theorem dX10_answerRenew_21 : decode cX10_answerRenew 21 = .ok (.aload_n 0, 1) := by decide +kernel
theorem dX10_answerRenew_22 : decode cX10_answerRenew 22 = .ok (.getfield 77, 3) := by decide +kernel
theorem dX10_answerRenew_25 : decode cX10_answerRenew 25 = .ok (.iconst 4, 1) := by decide +kernel
theorem dX10_answerRenew_26 : decode cX10_answerRenew 26 = .ok (.iaload, 1) := by decide +kernel
theorem dX10_answerRenew_27 : decode cX10_answerRenew 27 = .ok (.istore 4, 2) := by decide +kernel
theorem dX10_answerRenew_29 : decode cX10_answerRenew 29 = .ok (.aload_n 0, 1) := by decide +kernel
theorem dX10_answerRenew_30 : decode cX10_answerRenew 30 = .ok (.getfield 77, 3) := by decide +kernel
theorem dX10_answerRenew_33 : decode cX10_answerRenew 33 = .ok (.iconst 5, 1) := by decide +kernel
theorem dX10_answerRenew_34 : decode cX10_answerRenew 34 = .ok (.iaload, 1) := by decide +kernel
theorem dX10_answerRenew_35 : decode cX10_answerRenew 35 = .ok (.istore 5, 2) := by decide +kernel
theorem dX10_answerRenew_37 : decode cX10_answerRenew 37 = .ok (.aload_n 0, 1) := by decide +kernel
theorem dX10_answerRenew_38 : decode cX10_answerRenew 38 = .ok (.iconst 0, 1) := by decide +kernel
theorem dX10_answerRenew_39 : decode cX10_answerRenew 39 = .ok (.iload_n 2, 1) := by decide +kernel
theorem dX10_answerRenew_40 : decode cX10_answerRenew 40 = .ok (.iconst 1, 1) := by decide +kernel
theorem dX10_answerRenew_41 : decode cX10_answerRenew 41 = .ok (.invokevirtual 111, 3) := by decide +kernel
theorem dX10_answerRenew_44 : decode cX10_answerRenew 44 = .ok (.iload_n 3, 1) := by decide +kernel
theorem dX10_answerRenew_45 : decode cX10_answerRenew 45 = .ok (.ifCond .lt 30, 3) := by decide +kernel
theorem dX10_answerRenew_48 : decode cX10_answerRenew 48 = .ok (.aload_n 0, 1) := by decide +kernel
theorem dX10_answerRenew_49 : decode cX10_answerRenew 49 = .ok (.iload_n 1, 1) := by decide +kernel
theorem dX10_answerRenew_50 : decode cX10_answerRenew 50 = .ok (.aload_n 0, 1) := by decide +kernel
theorem dX10_answerRenew_51 : decode cX10_answerRenew 51 = .ok (.iload_n 1, 1) := by decide +kernel
theorem dX10_answerRenew_52 : decode cX10_answerRenew 52 = .ok (.iload_n 3, 1) := by decide +kernel
theorem dX10_answerRenew_53 : decode cX10_answerRenew 53 = .ok (.iconst 0, 1) := by decide +kernel
theorem dX10_answerRenew_54 : decode cX10_answerRenew 54 = .ok (.invokevirtual 96, 3) := by decide +kernel
theorem dX10_answerRenew_57 : decode cX10_answerRenew 57 = .ok (.iconst 1, 1) := by decide +kernel
theorem dX10_answerRenew_58 : decode cX10_answerRenew 58 = .ok (.invokevirtual 156, 3) := by decide +kernel
theorem dX10_answerRenew_61 : decode cX10_answerRenew 61 = .ok (.ifCond .ge 14, 3) := by decide +kernel
theorem dX10_answerRenew_64 : decode cX10_answerRenew 64 = .ok (.aload_n 0, 1) := by decide +kernel
theorem dX10_answerRenew_65 : decode cX10_answerRenew 65 = .ok (.getfield 28, 3) := by decide +kernel
theorem dX10_answerRenew_68 : decode cX10_answerRenew 68 = .ok (.iload_n 1, 1) := by decide +kernel
theorem dX10_answerRenew_69 : decode cX10_answerRenew 69 = .ok (.iaload, 1) := by decide +kernel
theorem dX10_answerRenew_70 : decode cX10_answerRenew 70 = .ok (.bipush 16, 2) := by decide +kernel
theorem dX10_answerRenew_72 : decode cX10_answerRenew 72 = .ok (.if_icmp .ne 11, 3) := by decide +kernel
theorem dX10_answerRenew_75 : decode cX10_answerRenew 75 = .ok (.aload_n 0, 1) := by decide +kernel
theorem dX10_answerRenew_76 : decode cX10_answerRenew 76 = .ok (.getfield 77, 3) := by decide +kernel
theorem dX10_answerRenew_79 : decode cX10_answerRenew 79 = .ok (.iconst 3, 1) := by decide +kernel
theorem dX10_answerRenew_80 : decode cX10_answerRenew 80 = .ok (.iconst 0, 1) := by decide +kernel
theorem dX10_answerRenew_81 : decode cX10_answerRenew 81 = .ok (.iastore, 1) := by decide +kernel
theorem dX10_answerRenew_82 : decode cX10_answerRenew 82 = .ok (.return_, 1) := by decide +kernel
theorem dX10_answerRenew_83 : decode cX10_answerRenew 83 = .ok (.aload_n 0, 1) := by decide +kernel
theorem dX10_answerRenew_84 : decode cX10_answerRenew 84 = .ok (.getfield 77, 3) := by decide +kernel
theorem dX10_answerRenew_87 : decode cX10_answerRenew 87 = .ok (.iconst 4, 1) := by decide +kernel
theorem dX10_answerRenew_88 : decode cX10_answerRenew 88 = .ok (.aload_n 0, 1) := by decide +kernel
theorem dX10_answerRenew_89 : decode cX10_answerRenew 89 = .ok (.iload_n 1, 1) := by decide +kernel
theorem dX10_answerRenew_90 : decode cX10_answerRenew 90 = .ok (.invokevirtual 114, 3) := by decide +kernel
theorem dX10_answerRenew_93 : decode cX10_answerRenew 93 = .ok (.iastore, 1) := by decide +kernel
theorem dX10_answerRenew_94 : decode cX10_answerRenew 94 = .ok (.aload_n 0, 1) := by decide +kernel
theorem dX10_answerRenew_95 : decode cX10_answerRenew 95 = .ok (.getfield 77, 3) := by decide +kernel
theorem dX10_answerRenew_98 : decode cX10_answerRenew 98 = .ok (.iconst 5, 1) := by decide +kernel
theorem dX10_answerRenew_99 : decode cX10_answerRenew 99 = .ok (.aload_n 0, 1) := by decide +kernel
theorem dX10_answerRenew_100 : decode cX10_answerRenew 100 = .ok (.iload_n 1, 1) := by decide +kernel
theorem dX10_answerRenew_101 : decode cX10_answerRenew 101 = .ok (.invokevirtual 118, 3) := by decide +kernel
theorem dX10_answerRenew_104 : decode cX10_answerRenew 104 = .ok (.iastore, 1) := by decide +kernel
theorem dX10_answerRenew_105 : decode cX10_answerRenew 105 = .ok (.aload_n 0, 1) := by decide +kernel
theorem dX10_answerRenew_106 : decode cX10_answerRenew 106 = .ok (.iload_n 1, 1) := by decide +kernel
theorem dX10_answerRenew_107 : decode cX10_answerRenew 107 = .ok (.aload_n 0, 1) := by decide +kernel
theorem dX10_answerRenew_108 : decode cX10_answerRenew 108 = .ok (.getfield 77, 3) := by decide +kernel
theorem dX10_answerRenew_111 : decode cX10_answerRenew 111 = .ok (.iconst 4, 1) := by decide +kernel
theorem dX10_answerRenew_112 : decode cX10_answerRenew 112 = .ok (.iaload, 1) := by decide +kernel
theorem dX10_answerRenew_113 : decode cX10_answerRenew 113 = .ok (.iload 4, 2) := by decide +kernel
theorem dX10_answerRenew_115 : decode cX10_answerRenew 115 = .ok (.aload_n 0, 1) := by decide +kernel
theorem dX10_answerRenew_116 : decode cX10_answerRenew 116 = .ok (.iload_n 1, 1) := by decide +kernel
theorem dX10_answerRenew_117 : decode cX10_answerRenew 117 = .ok (.iload_n 3, 1) := by decide +kernel
theorem dX10_answerRenew_118 : decode cX10_answerRenew 118 = .ok (.iconst 2, 1) := by decide +kernel
theorem dX10_answerRenew_119 : decode cX10_answerRenew 119 = .ok (.invokevirtual 96, 3) := by decide +kernel
theorem dX10_answerRenew_122 : decode cX10_answerRenew 122 = .ok (.aload_n 0, 1) := by decide +kernel
theorem dX10_answerRenew_123 : decode cX10_answerRenew 123 = .ok (.iload_n 1, 1) := by decide +kernel
theorem dX10_answerRenew_124 : decode cX10_answerRenew 124 = .ok (.iload_n 3, 1) := by decide +kernel
theorem dX10_answerRenew_125 : decode cX10_answerRenew 125 = .ok (.iconst 3, 1) := by decide +kernel
theorem dX10_answerRenew_126 : decode cX10_answerRenew 126 = .ok (.invokevirtual 96, 3) := by decide +kernel
theorem dX10_answerRenew_129 : decode cX10_answerRenew 129 = .ok (.aload_n 0, 1) := by decide +kernel
theorem dX10_answerRenew_130 : decode cX10_answerRenew 130 = .ok (.iload_n 1, 1) := by decide +kernel
theorem dX10_answerRenew_131 : decode cX10_answerRenew 131 = .ok (.iload_n 3, 1) := by decide +kernel
theorem dX10_answerRenew_132 : decode cX10_answerRenew 132 = .ok (.iconst 4, 1) := by decide +kernel
theorem dX10_answerRenew_133 : decode cX10_answerRenew 133 = .ok (.invokevirtual 96, 3) := by decide +kernel
theorem dX10_answerRenew_136 : decode cX10_answerRenew 136 = .ok (.aload_n 0, 1) := by decide +kernel
theorem dX10_answerRenew_137 : decode cX10_answerRenew 137 = .ok (.iload_n 1, 1) := by decide +kernel
theorem dX10_answerRenew_138 : decode cX10_answerRenew 138 = .ok (.iload_n 3, 1) := by decide +kernel
theorem dX10_answerRenew_139 : decode cX10_answerRenew 139 = .ok (.iconst 0, 1) := by decide +kernel
theorem dX10_answerRenew_140 : decode cX10_answerRenew 140 = .ok (.invokevirtual 96, 3) := by decide +kernel
theorem dX10_answerRenew_143 : decode cX10_answerRenew 143 = .ok (.iconst 0, 1) := by decide +kernel
theorem dX10_answerRenew_144 : decode cX10_answerRenew 144 = .ok (.iload 5, 2) := by decide +kernel
theorem dX10_answerRenew_146 : decode cX10_answerRenew 146 = .ok (.aload_n 0, 1) := by decide +kernel
theorem dX10_answerRenew_147 : decode cX10_answerRenew 147 = .ok (.getfield 77, 3) := by decide +kernel
theorem dX10_answerRenew_150 : decode cX10_answerRenew 150 = .ok (.iconst 5, 1) := by decide +kernel
theorem dX10_answerRenew_151 : decode cX10_answerRenew 151 = .ok (.iaload, 1) := by decide +kernel
theorem dX10_answerRenew_152 : decode cX10_answerRenew 152 = .ok (.if_icmp .ge 8, 3) := by decide +kernel
theorem dX10_answerRenew_155 : decode cX10_answerRenew 155 = .ok (.iload 5, 2) := by decide +kernel
theorem dX10_answerRenew_157 : decode cX10_answerRenew 157 = .ok (.goto 9, 3) := by decide +kernel
theorem dX10_answerRenew_160 : decode cX10_answerRenew 160 = .ok (.aload_n 0, 1) := by decide +kernel
theorem dX10_answerRenew_161 : decode cX10_answerRenew 161 = .ok (.getfield 77, 3) := by decide +kernel
theorem dX10_answerRenew_164 : decode cX10_answerRenew 164 = .ok (.iconst 5, 1) := by decide +kernel
theorem dX10_answerRenew_165 : decode cX10_answerRenew 165 = .ok (.iaload, 1) := by decide +kernel
theorem dX10_answerRenew_166 : decode cX10_answerRenew 166 = .ok (.invokevirtual 152, 3) := by decide +kernel
theorem dX10_answerRenew_169 : decode cX10_answerRenew 169 = .ok (.return_, 1) := by decide +kernel
theorem dX10_answer_0 : decode cX10_answer 0 = .ok (.bipush 16, 2) := by decide +kernel
theorem dX10_answer_2 : decode cX10_answer 2 = .ok (.iload_n 1, 1) := by decide +kernel
theorem dX10_answer_3 : decode cX10_answer 3 = .ok (.imul, 1) := by decide +kernel
theorem dX10_answer_4 : decode cX10_answer 4 = .ok (.istore_n 2, 1) := by decide +kernel
theorem dX10_answer_5 : decode cX10_answer 5 = .ok (.aload_n 0, 1) := by decide +kernel
theorem dX10_answer_6 : decode cX10_answer 6 = .ok (.getfield 47, 3) := by decide +kernel
theorem dX10_answer_9 : decode cX10_answer 9 = .ok (.iload_n 1, 1) := by decide +kernel
theorem dX10_answer_10 : decode cX10_answer 10 = .ok (.baload, 1) := by decide +kernel
theorem dX10_answer_11 : decode cX10_answer 11 = .ok (.ifCond .eq 20, 3) := by decide +kernel
theorem dX10_answer_14 : decode cX10_answer 14 = .ok (.aload_n 0, 1) := by decide +kernel
theorem dX10_answer_15 : decode cX10_answer 15 = .ok (.getfield 50, 3) := by decide +kernel
theorem dX10_answer_18 : decode cX10_answer 18 = .ok (.iload_n 2, 1) := by decide +kernel
theorem dX10_answer_19 : decode cX10_answer 19 = .ok (.iconst 1, 1) := by decide +kernel
theorem dX10_answer_20 : decode cX10_answer 20 = .ok (.iadd, 1) := by decide +kernel
theorem dX10_answer_21 : decode cX10_answer 21 = .ok (.iaload, 1) := by decide +kernel
theorem dX10_answer_22 : decode cX10_answer 22 = .ok (.aload_n 0, 1) := by decide +kernel
theorem dX10_answer_23 : decode cX10_answer 23 = .ok (.getfield 77, 3) := by decide +kernel
theorem dX10_answer_26 : decode cX10_answer 26 = .ok (.iconst 1, 1) := by decide +kernel
theorem dX10_answer_27 : decode cX10_answer 27 = .ok (.iaload, 1) := by decide +kernel
theorem dX10_answer_28 : decode cX10_answer 28 = .ok (.if_icmp .eq 5, 3) := by decide +kernel
theorem dX10_answer_31 : decode cX10_answer 31 = .ok (.iconst 0, 1) := by decide +kernel
theorem dX10_answer_32 : decode cX10_answer 32 = .ok (.ireturn, 1) := by decide +kernel
theorem dX10_answer_33 : decode cX10_answer 33 = .ok (.aload_n 0, 1) := by decide +kernel
theorem dX10_answer_34 : decode cX10_answer 34 = .ok (.getfield 47, 3) := by decide +kernel
theorem dX10_answer_37 : decode cX10_answer 37 = .ok (.iload_n 1, 1) := by decide +kernel
theorem dX10_answer_38 : decode cX10_answer 38 = .ok (.iconst 0, 1) := by decide +kernel
theorem dX10_answer_39 : decode cX10_answer 39 = .ok (.bastore, 1) := by decide +kernel
theorem dX10_answer_40 : decode cX10_answer 40 = .ok (.aload_n 0, 1) := by decide +kernel
theorem dX10_answer_41 : decode cX10_answer 41 = .ok (.getfield 50, 3) := by decide +kernel
theorem dX10_answer_44 : decode cX10_answer 44 = .ok (.iload_n 2, 1) := by decide +kernel
theorem dX10_answer_45 : decode cX10_answer 45 = .ok (.iconst 2, 1) := by decide +kernel
theorem dX10_answer_46 : decode cX10_answer 46 = .ok (.iadd, 1) := by decide +kernel
theorem dX10_answer_47 : decode cX10_answer 47 = .ok (.iaload, 1) := by decide +kernel
theorem dX10_answer_48 : decode cX10_answer 48 = .ok (.istore_n 3, 1) := by decide +kernel
theorem dX10_answer_49 : decode cX10_answer 49 = .ok (.aload_n 0, 1) := by decide +kernel
theorem dX10_answer_50 : decode cX10_answer 50 = .ok (.getfield 77, 3) := by decide +kernel
theorem dX10_answer_53 : decode cX10_answer 53 = .ok (.iconst 5, 1) := by decide +kernel
theorem dX10_answer_54 : decode cX10_answer 54 = .ok (.iaload, 1) := by decide +kernel
theorem dX10_answer_55 : decode cX10_answer 55 = .ok (.aload_n 0, 1) := by decide +kernel
theorem dX10_answer_56 : decode cX10_answer 56 = .ok (.getfield 50, 3) := by decide +kernel
theorem dX10_answer_59 : decode cX10_answer 59 = .ok (.iload_n 2, 1) := by decide +kernel
theorem dX10_answer_60 : decode cX10_answer 60 = .ok (.iconst 5, 1) := by decide +kernel
theorem dX10_answer_61 : decode cX10_answer 61 = .ok (.iadd, 1) := by decide +kernel
theorem dX10_answer_62 : decode cX10_answer 62 = .ok (.iaload, 1) := by decide +kernel
theorem dX10_answer_63 : decode cX10_answer 63 = .ok (.if_icmp .ge 12, 3) := by decide +kernel
theorem dX10_answer_66 : decode cX10_answer 66 = .ok (.aload_n 0, 1) := by decide +kernel
theorem dX10_answer_67 : decode cX10_answer 67 = .ok (.getfield 77, 3) := by decide +kernel
theorem dX10_answer_70 : decode cX10_answer 70 = .ok (.iconst 5, 1) := by decide +kernel
theorem dX10_answer_71 : decode cX10_answer 71 = .ok (.iaload, 1) := by decide +kernel
theorem dX10_answer_72 : decode cX10_answer 72 = .ok (.goto 11, 3) := by decide +kernel
theorem dX10_answer_75 : decode cX10_answer 75 = .ok (.aload_n 0, 1) := by decide +kernel
theorem dX10_answer_76 : decode cX10_answer 76 = .ok (.getfield 50, 3) := by decide +kernel
theorem dX10_answer_79 : decode cX10_answer 79 = .ok (.iload_n 2, 1) := by decide +kernel
theorem dX10_answer_80 : decode cX10_answer 80 = .ok (.iconst 5, 1) := by decide +kernel
theorem dX10_answer_81 : decode cX10_answer 81 = .ok (.iadd, 1) := by decide +kernel
theorem dX10_answer_82 : decode cX10_answer 82 = .ok (.iaload, 1) := by decide +kernel
theorem dX10_answer_83 : decode cX10_answer 83 = .ok (.istore 4, 2) := by decide +kernel
theorem dX10_answer_85 : decode cX10_answer 85 = .ok (.iload_n 3, 1) := by decide +kernel
theorem dX10_answer_86 : decode cX10_answer 86 = .ok (.iconst 2, 1) := by decide +kernel
theorem dX10_answer_87 : decode cX10_answer 87 = .ok (.if_icmp .ne 26, 3) := by decide +kernel
theorem dX10_answer_90 : decode cX10_answer 90 = .ok (.aload_n 0, 1) := by decide +kernel
theorem dX10_answer_91 : decode cX10_answer 91 = .ok (.iload_n 1, 1) := by decide +kernel
theorem dX10_answer_92 : decode cX10_answer 92 = .ok (.aload_n 0, 1) := by decide +kernel
theorem dX10_answer_93 : decode cX10_answer 93 = .ok (.iload_n 1, 1) := by decide +kernel
theorem dX10_answer_94 : decode cX10_answer 94 = .ok (.iconst 0, 1) := by decide +kernel
theorem dX10_answer_95 : decode cX10_answer 95 = .ok (.aload_n 0, 1) := by decide +kernel
theorem dX10_answer_96 : decode cX10_answer 96 = .ok (.getfield 50, 3) := by decide +kernel
theorem dX10_answer_99 : decode cX10_answer 99 = .ok (.iload_n 2, 1) := by decide +kernel
theorem dX10_answer_100 : decode cX10_answer 100 = .ok (.bipush 6, 2) := by decide +kernel
theorem dX10_answer_102 : decode cX10_answer 102 = .ok (.iadd, 1) := by decide +kernel
theorem dX10_answer_103 : decode cX10_answer 103 = .ok (.iaload, 1) := by decide +kernel
theorem dX10_answer_104 : decode cX10_answer 104 = .ok (.invokevirtual 104, 3) := by decide +kernel
theorem dX10_answer_107 : decode cX10_answer 107 = .ok (.invokevirtual 149, 3) := by decide +kernel
theorem dX10_answer_110 : decode cX10_answer 110 = .ok (.goto 93, 3) := by decide +kernel
theorem dX10_answer_113 : decode cX10_answer 113 = .ok (.aload_n 0, 1) := by decide +kernel
theorem dX10_answer_114 : decode cX10_answer 114 = .ok (.getfield 77, 3) := by decide +kernel
theorem dX10_answer_117 : decode cX10_answer 117 = .ok (.iconst 3, 1) := by decide +kernel
theorem dX10_answer_118 : decode cX10_answer 118 = .ok (.iaload, 1) := by decide +kernel
theorem dX10_answer_119 : decode cX10_answer 119 = .ok (.iconst 1, 1) := by decide +kernel
theorem dX10_answer_120 : decode cX10_answer 120 = .ok (.if_icmp .ne 65, 3) := by decide +kernel
