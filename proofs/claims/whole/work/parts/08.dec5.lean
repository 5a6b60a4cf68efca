theorem dc_M_round_205 : decode cd_M_round 205 = .ok (.iload 4, 2) := by decide +kernel
theorem dc_M_round_207 : decode cd_M_round 207 = .ok (.invokevirtual 163, 3) := by decide +kernel
theorem dc_M_round_210 : decode cd_M_round 210 = .ok (.goto 20, 3) := by decide +kernel
theorem dc_M_round_213 : decode cd_M_round 213 = .ok (.aload_n 0, 1) := by decide +kernel
theorem dc_M_round_214 : decode cd_M_round 214 = .ok (.getfield 65, 3) := by decide +kernel
theorem dc_M_round_217 : decode cd_M_round 217 = .ok (.iload 6, 2) := by decide +kernel
theorem dc_M_round_219 : decode cd_M_round 219 = .ok (.baload, 1) := by decide +kernel
theorem dc_M_round_220 : decode cd_M_round 220 = .ok (.ifCond .eq 10, 3) := by decide +kernel
theorem dc_M_round_223 : decode cd_M_round 223 = .ok (.aload_n 0, 1) := by decide +kernel
theorem dc_M_round_224 : decode cd_M_round 224 = .ok (.iload 4, 2) := by decide +kernel
theorem dc_M_round_226 : decode cd_M_round 226 = .ok (.iload_n 3, 1) := by decide +kernel
theorem dc_M_round_227 : decode cd_M_round 227 = .ok (.invokevirtual 163, 3) := by decide +kernel
theorem dc_M_round_230 : decode cd_M_round 230 = .ok (.iinc 3 1, 3) := by decide +kernel
theorem dc_M_round_233 : decode cd_M_round 233 = .ok (.goto (-173), 3) := by decide +kernel
theorem dc_M_round_236 : decode cd_M_round 236 = .ok (.return_, 1) := by decide +kernel
theorem dc_M_anyOpen_0 : decode cd_M_anyOpen 0 = .ok (.iconst 0, 1) := by decide +kernel
theorem dc_M_anyOpen_1 : decode cd_M_anyOpen 1 = .ok (.istore_n 2, 1) := by decide +kernel
theorem dc_M_anyOpen_2 : decode cd_M_anyOpen 2 = .ok (.iconst 0, 1) := by decide +kernel
theorem dc_M_anyOpen_3 : decode cd_M_anyOpen 3 = .ok (.istore_n 3, 1) := by decide +kernel
theorem dc_M_anyOpen_4 : decode cd_M_anyOpen 4 = .ok (.iload_n 3, 1) := by decide +kernel
theorem dc_M_anyOpen_5 : decode cd_M_anyOpen 5 = .ok (.bipush 36, 2) := by decide +kernel
theorem dc_M_anyOpen_7 : decode cd_M_anyOpen 7 = .ok (.if_icmp .ge 32, 3) := by decide +kernel
theorem dc_M_anyOpen_10 : decode cd_M_anyOpen 10 = .ok (.aload_n 0, 1) := by decide +kernel
theorem dc_M_anyOpen_11 : decode cd_M_anyOpen 11 = .ok (.getfield 62, 3) := by decide +kernel
theorem dc_M_anyOpen_14 : decode cd_M_anyOpen 14 = .ok (.iload_n 3, 1) := by decide +kernel
theorem dc_M_anyOpen_15 : decode cd_M_anyOpen 15 = .ok (.iconst 3, 1) := by decide +kernel
theorem dc_M_anyOpen_16 : decode cd_M_anyOpen 16 = .ok (.idiv, 1) := by decide +kernel
theorem dc_M_anyOpen_17 : decode cd_M_anyOpen 17 = .ok (.iaload, 1) := by decide +kernel
theorem dc_M_anyOpen_18 : decode cd_M_anyOpen 18 = .ok (.iload_n 1, 1) := by decide +kernel
theorem dc_M_anyOpen_19 : decode cd_M_anyOpen 19 = .ok (.if_icmp .ne 14, 3) := by decide +kernel
theorem dc_M_anyOpen_22 : decode cd_M_anyOpen 22 = .ok (.aload_n 0, 1) := by decide +kernel
theorem dc_M_anyOpen_23 : decode cd_M_anyOpen 23 = .ok (.getfield 13, 3) := by decide +kernel
theorem dc_M_anyOpen_26 : decode cd_M_anyOpen 26 = .ok (.iload_n 3, 1) := by decide +kernel
theorem dc_M_anyOpen_27 : decode cd_M_anyOpen 27 = .ok (.baload, 1) := by decide +kernel
theorem dc_M_anyOpen_28 : decode cd_M_anyOpen 28 = .ok (.ifCond .eq 5, 3) := by decide +kernel
theorem dc_M_anyOpen_31 : decode cd_M_anyOpen 31 = .ok (.iconst 1, 1) := by decide +kernel
theorem dc_M_anyOpen_32 : decode cd_M_anyOpen 32 = .ok (.istore_n 2, 1) := by decide +kernel
theorem dc_M_anyOpen_33 : decode cd_M_anyOpen 33 = .ok (.iinc 3 1, 3) := by decide +kernel
theorem dc_M_anyOpen_36 : decode cd_M_anyOpen 36 = .ok (.goto (-32), 3) := by decide +kernel
theorem dc_M_anyOpen_39 : decode cd_M_anyOpen 39 = .ok (.iload_n 2, 1) := by decide +kernel
theorem dc_M_anyOpen_40 : decode cd_M_anyOpen 40 = .ok (.ireturn, 1) := by decide +kernel
theorem dc_M_clean_0 : decode cd_M_clean 0 = .ok (.iconst 0, 1) := by decide +kernel
theorem dc_M_clean_1 : decode cd_M_clean 1 = .ok (.istore_n 2, 1) := by decide +kernel
theorem dc_M_clean_2 : decode cd_M_clean 2 = .ok (.iload_n 2, 1) := by decide +kernel
theorem dc_M_clean_3 : decode cd_M_clean 3 = .ok (.bipush 12, 2) := by decide +kernel
theorem dc_M_clean_5 : decode cd_M_clean 5 = .ok (.if_icmp .ge 182, 3) := by decide +kernel
theorem dc_M_clean_8 : decode cd_M_clean 8 = .ok (.aload_n 0, 1) := by decide +kernel
theorem dc_M_clean_9 : decode cd_M_clean 9 = .ok (.getfield 62, 3) := by decide +kernel
theorem dc_M_clean_12 : decode cd_M_clean 12 = .ok (.iload_n 2, 1) := by decide +kernel
theorem dc_M_clean_13 : decode cd_M_clean 13 = .ok (.iaload, 1) := by decide +kernel
theorem dc_M_clean_14 : decode cd_M_clean 14 = .ok (.iload_n 1, 1) := by decide +kernel
theorem dc_M_clean_15 : decode cd_M_clean 15 = .ok (.if_icmp .eq 6, 3) := by decide +kernel
theorem dc_M_clean_18 : decode cd_M_clean 18 = .ok (.goto 163, 3) := by decide +kernel
theorem dc_M_clean_21 : decode cd_M_clean 21 = .ok (.iconst 4, 1) := by decide +kernel
theorem dc_M_clean_22 : decode cd_M_clean 22 = .ok (.iload_n 2, 1) := by decide +kernel
theorem dc_M_clean_23 : decode cd_M_clean 23 = .ok (.imul, 1) := by decide +kernel
theorem dc_M_clean_24 : decode cd_M_clean 24 = .ok (.istore_n 3, 1) := by decide +kernel
theorem dc_M_clean_25 : decode cd_M_clean 25 = .ok (.iload_n 3, 1) := by decide +kernel
theorem dc_M_clean_26 : decode cd_M_clean 26 = .ok (.iconst 4, 1) := by decide +kernel
theorem dc_M_clean_27 : decode cd_M_clean 27 = .ok (.iload_n 2, 1) := by decide +kernel
theorem dc_M_clean_28 : decode cd_M_clean 28 = .ok (.imul, 1) := by decide +kernel
theorem dc_M_clean_29 : decode cd_M_clean 29 = .ok (.iconst 4, 1) := by decide +kernel
theorem dc_M_clean_30 : decode cd_M_clean 30 = .ok (.iadd, 1) := by decide +kernel
theorem dc_M_clean_31 : decode cd_M_clean 31 = .ok (.if_icmp .ge 26, 3) := by decide +kernel
theorem dc_M_clean_34 : decode cd_M_clean 34 = .ok (.aload_n 0, 1) := by decide +kernel
theorem dc_M_clean_35 : decode cd_M_clean 35 = .ok (.getfield 68, 3) := by decide +kernel
theorem dc_M_clean_38 : decode cd_M_clean 38 = .ok (.iload_n 3, 1) := by decide +kernel
theorem dc_M_clean_39 : decode cd_M_clean 39 = .ok (.iaload, 1) := by decide +kernel
theorem dc_M_clean_40 : decode cd_M_clean 40 = .ok (.iconst (-1), 1) := by decide +kernel
theorem dc_M_clean_41 : decode cd_M_clean 41 = .ok (.if_icmp .ne 10, 3) := by decide +kernel
theorem dc_M_clean_44 : decode cd_M_clean 44 = .ok (.aload_n 0, 1) := by decide +kernel
theorem dc_M_clean_45 : decode cd_M_clean 45 = .ok (.getfield 68, 3) := by decide +kernel
theorem dc_M_clean_48 : decode cd_M_clean 48 = .ok (.iload_n 3, 1) := by decide +kernel
theorem dc_M_clean_49 : decode cd_M_clean 49 = .ok (.iconst 1, 1) := by decide +kernel
theorem dc_M_clean_50 : decode cd_M_clean 50 = .ok (.iastore, 1) := by decide +kernel
theorem dc_M_clean_51 : decode cd_M_clean 51 = .ok (.iinc 3 1, 3) := by decide +kernel
theorem dc_M_clean_54 : decode cd_M_clean 54 = .ok (.goto (-29), 3) := by decide +kernel
theorem dc_M_clean_57 : decode cd_M_clean 57 = .ok (.aload_n 0, 1) := by decide +kernel
theorem dc_M_clean_58 : decode cd_M_clean 58 = .ok (.getfield 110, 3) := by decide +kernel
theorem dc_M_clean_61 : decode cd_M_clean 61 = .ok (.iload_n 2, 1) := by decide +kernel
theorem dc_M_clean_62 : decode cd_M_clean 62 = .ok (.iconst 0, 1) := by decide +kernel
theorem dc_M_clean_63 : decode cd_M_clean 63 = .ok (.iastore, 1) := by decide +kernel
theorem dc_M_clean_64 : decode cd_M_clean 64 = .ok (.aload_n 0, 1) := by decide +kernel
theorem dc_M_clean_65 : decode cd_M_clean 65 = .ok (.getfield 38, 3) := by decide +kernel
theorem dc_M_clean_68 : decode cd_M_clean 68 = .ok (.iload_n 2, 1) := by decide +kernel
theorem dc_M_clean_69 : decode cd_M_clean 69 = .ok (.aload_n 0, 1) := by decide +kernel
theorem dc_M_clean_70 : decode cd_M_clean 70 = .ok (.getfield 41, 3) := by decide +kernel
theorem dc_M_clean_73 : decode cd_M_clean 73 = .ok (.iload_n 2, 1) := by decide +kernel
theorem dc_M_clean_74 : decode cd_M_clean 74 = .ok (.aload_n 0, 1) := by decide +kernel
theorem dc_M_clean_75 : decode cd_M_clean 75 = .ok (.getfield 44, 3) := by decide +kernel
theorem dc_M_clean_78 : decode cd_M_clean 78 = .ok (.iload_n 2, 1) := by decide +kernel
theorem dc_M_clean_79 : decode cd_M_clean 79 = .ok (.iconst 0, 1) := by decide +kernel
theorem dc_M_clean_80 : decode cd_M_clean 80 = .ok (.dup_x2, 1) := by decide +kernel
theorem dc_M_clean_81 : decode cd_M_clean 81 = .ok (.bastore, 1) := by decide +kernel
theorem dc_M_clean_82 : decode cd_M_clean 82 = .ok (.dup_x2, 1) := by decide +kernel
theorem dc_M_clean_83 : decode cd_M_clean 83 = .ok (.bastore, 1) := by decide +kernel
theorem dc_M_clean_84 : decode cd_M_clean 84 = .ok (.bastore, 1) := by decide +kernel
theorem dc_M_clean_85 : decode cd_M_clean 85 = .ok (.aload_n 0, 1) := by decide +kernel
theorem dc_M_clean_86 : decode cd_M_clean 86 = .ok (.getfield 47, 3) := by decide +kernel
theorem dc_M_clean_89 : decode cd_M_clean 89 = .ok (.bipush 8, 2) := by decide +kernel
theorem dc_M_clean_91 : decode cd_M_clean 91 = .ok (.iload_n 2, 1) := by decide +kernel
theorem dc_M_clean_92 : decode cd_M_clean 92 = .ok (.imul, 1) := by decide +kernel
theorem dc_M_clean_93 : decode cd_M_clean 93 = .ok (.bipush 6, 2) := by decide +kernel
theorem dc_M_clean_95 : decode cd_M_clean 95 = .ok (.iadd, 1) := by decide +kernel
theorem dc_M_clean_96 : decode cd_M_clean 96 = .ok (.bipush 100, 2) := by decide +kernel
theorem dc_M_clean_98 : decode cd_M_clean 98 = .ok (.iastore, 1) := by decide +kernel
theorem dc_M_clean_99 : decode cd_M_clean 99 = .ok (.aload_n 0, 1) := by decide +kernel
theorem dc_M_clean_100 : decode cd_M_clean 100 = .ok (.getfield 47, 3) := by decide +kernel
theorem dc_M_clean_103 : decode cd_M_clean 103 = .ok (.bipush 8, 2) := by decide +kernel
theorem dc_M_clean_105 : decode cd_M_clean 105 = .ok (.iload_n 2, 1) := by decide +kernel
theorem dc_M_clean_106 : decode cd_M_clean 106 = .ok (.imul, 1) := by decide +kernel
theorem dc_M_clean_107 : decode cd_M_clean 107 = .ok (.bipush 7, 2) := by decide +kernel
theorem dc_M_clean_109 : decode cd_M_clean 109 = .ok (.iadd, 1) := by decide +kernel
theorem dc_M_clean_110 : decode cd_M_clean 110 = .ok (.iconst (-1), 1) := by decide +kernel
theorem dc_M_clean_111 : decode cd_M_clean 111 = .ok (.iastore, 1) := by decide +kernel
theorem dc_M_clean_112 : decode cd_M_clean 112 = .ok (.aload_n 0, 1) := by decide +kernel
theorem dc_M_clean_113 : decode cd_M_clean 113 = .ok (.getfield 50, 3) := by decide +kernel
theorem dc_M_clean_116 : decode cd_M_clean 116 = .ok (.iload_n 2, 1) := by decide +kernel
theorem dc_M_clean_117 : decode cd_M_clean 117 = .ok (.aload_n 0, 1) := by decide +kernel
theorem dc_M_clean_118 : decode cd_M_clean 118 = .ok (.getfield 53, 3) := by decide +kernel
theorem dc_M_clean_121 : decode cd_M_clean 121 = .ok (.iload_n 2, 1) := by decide +kernel
theorem dc_M_clean_122 : decode cd_M_clean 122 = .ok (.aload_n 0, 1) := by decide +kernel
theorem dc_M_clean_123 : decode cd_M_clean 123 = .ok (.getfield 56, 3) := by decide +kernel
theorem dc_M_clean_126 : decode cd_M_clean 126 = .ok (.iload_n 2, 1) := by decide +kernel
theorem dc_M_clean_127 : decode cd_M_clean 127 = .ok (.aload_n 0, 1) := by decide +kernel
theorem dc_M_clean_128 : decode cd_M_clean 128 = .ok (.getfield 59, 3) := by decide +kernel
theorem dc_M_clean_131 : decode cd_M_clean 131 = .ok (.iload_n 2, 1) := by decide +kernel
theorem dc_M_clean_132 : decode cd_M_clean 132 = .ok (.iconst (-1), 1) := by decide +kernel
theorem dc_M_clean_133 : decode cd_M_clean 133 = .ok (.dup_x2, 1) := by decide +kernel
theorem dc_M_clean_134 : decode cd_M_clean 134 = .ok (.iastore, 1) := by decide +kernel
theorem dc_M_clean_135 : decode cd_M_clean 135 = .ok (.dup_x2, 1) := by decide +kernel
theorem dc_M_clean_136 : decode cd_M_clean 136 = .ok (.iastore, 1) := by decide +kernel
theorem dc_M_clean_137 : decode cd_M_clean 137 = .ok (.dup_x2, 1) := by decide +kernel
theorem dc_M_clean_138 : decode cd_M_clean 138 = .ok (.iastore, 1) := by decide +kernel
theorem dc_M_clean_139 : decode cd_M_clean 139 = .ok (.iastore, 1) := by decide +kernel
theorem dc_M_clean_140 : decode cd_M_clean 140 = .ok (.iconst 0, 1) := by decide +kernel
theorem dc_M_clean_141 : decode cd_M_clean 141 = .ok (.istore_n 3, 1) := by decide +kernel
theorem dc_M_clean_142 : decode cd_M_clean 142 = .ok (.iload_n 3, 1) := by decide +kernel
theorem dc_M_clean_143 : decode cd_M_clean 143 = .ok (.iconst 3, 1) := by decide +kernel
theorem dc_M_clean_144 : decode cd_M_clean 144 = .ok (.if_icmp .ge 37, 3) := by decide +kernel
theorem dc_M_clean_147 : decode cd_M_clean 147 = .ok (.aload_n 0, 1) := by decide +kernel
theorem dc_M_clean_148 : decode cd_M_clean 148 = .ok (.getfield 13, 3) := by decide +kernel
theorem dc_M_clean_151 : decode cd_M_clean 151 = .ok (.iconst 3, 1) := by decide +kernel
theorem dc_M_clean_152 : decode cd_M_clean 152 = .ok (.iload_n 2, 1) := by decide +kernel
theorem dc_M_clean_153 : decode cd_M_clean 153 = .ok (.imul, 1) := by decide +kernel
theorem dc_M_clean_154 : decode cd_M_clean 154 = .ok (.iload_n 3, 1) := by decide +kernel
theorem dc_M_clean_155 : decode cd_M_clean 155 = .ok (.iadd, 1) := by decide +kernel
theorem dc_M_clean_156 : decode cd_M_clean 156 = .ok (.aload_n 0, 1) := by decide +kernel
theorem dc_M_clean_157 : decode cd_M_clean 157 = .ok (.getfield 7, 3) := by decide +kernel
theorem dc_M_clean_160 : decode cd_M_clean 160 = .ok (.iconst 3, 1) := by decide +kernel
theorem dc_M_clean_161 : decode cd_M_clean 161 = .ok (.iload_n 2, 1) := by decide +kernel
theorem dc_M_clean_162 : decode cd_M_clean 162 = .ok (.imul, 1) := by decide +kernel
theorem dc_M_clean_163 : decode cd_M_clean 163 = .ok (.iload_n 3, 1) := by decide +kernel
theorem dc_M_clean_164 : decode cd_M_clean 164 = .ok (.iadd, 1) := by decide +kernel
theorem dc_M_clean_165 : decode cd_M_clean 165 = .ok (.iaload, 1) := by decide +kernel
theorem dc_M_clean_166 : decode cd_M_clean 166 = .ok (.ifCond .lt 7, 3) := by decide +kernel
theorem dc_M_clean_169 : decode cd_M_clean 169 = .ok (.iconst 1, 1) := by decide +kernel
theorem dc_M_clean_170 : decode cd_M_clean 170 = .ok (.goto 4, 3) := by decide +kernel
theorem dc_M_clean_173 : decode cd_M_clean 173 = .ok (.iconst 0, 1) := by decide +kernel
theorem dc_M_clean_174 : decode cd_M_clean 174 = .ok (.bastore, 1) := by decide +kernel
theorem dc_M_clean_175 : decode cd_M_clean 175 = .ok (.iinc 3 1, 3) := by decide +kernel
theorem dc_M_clean_178 : decode cd_M_clean 178 = .ok (.goto (-36), 3) := by decide +kernel
theorem dc_M_clean_181 : decode cd_M_clean 181 = .ok (.iinc 2 1, 3) := by decide +kernel
theorem dc_M_clean_184 : decode cd_M_clean 184 = .ok (.goto (-182), 3) := by decide +kernel
theorem dc_M_clean_187 : decode cd_M_clean 187 = .ok (.return_, 1) := by decide +kernel
theorem dc_M_child_0 : decode cd_M_child 0 = .ok (.iload_n 2, 1) := by decide +kernel
theorem dc_M_child_1 : decode cd_M_child 1 = .ok (.istore_n 3, 1) := by decide +kernel
theorem dc_M_child_2 : decode cd_M_child 2 = .ok (.iload_n 3, 1) := by decide +kernel
theorem dc_M_child_3 : decode cd_M_child 3 = .ok (.iconst 3, 1) := by decide +kernel
theorem dc_M_child_4 : decode cd_M_child 4 = .ok (.if_icmp .ge 41, 3) := by decide +kernel
theorem dc_M_child_7 : decode cd_M_child 7 = .ok (.aload_n 0, 1) := by decide +kernel
theorem dc_M_child_8 : decode cd_M_child 8 = .ok (.getfield 7, 3) := by decide +kernel
theorem dc_M_child_11 : decode cd_M_child 11 = .ok (.iconst 3, 1) := by decide +kernel
theorem dc_M_child_12 : decode cd_M_child 12 = .ok (.iload_n 1, 1) := by decide +kernel
theorem dc_M_child_13 : decode cd_M_child 13 = .ok (.imul, 1) := by decide +kernel
theorem dc_M_child_14 : decode cd_M_child 14 = .ok (.iload_n 3, 1) := by decide +kernel
theorem dc_M_child_15 : decode cd_M_child 15 = .ok (.iadd, 1) := by decide +kernel
theorem dc_M_child_16 : decode cd_M_child 16 = .ok (.iaload, 1) := by decide +kernel
theorem dc_M_child_17 : decode cd_M_child 17 = .ok (.istore 4, 2) := by decide +kernel
theorem dc_M_child_19 : decode cd_M_child 19 = .ok (.iload 4, 2) := by decide +kernel
theorem dc_M_child_21 : decode cd_M_child 21 = .ok (.ifCond .lt 18, 3) := by decide +kernel
theorem dc_M_child_24 : decode cd_M_child 24 = .ok (.aload_n 0, 1) := by decide +kernel
theorem dc_M_child_25 : decode cd_M_child 25 = .ok (.getfield 50, 3) := by decide +kernel
theorem dc_M_child_28 : decode cd_M_child 28 = .ok (.iload 4, 2) := by decide +kernel
theorem dc_M_child_30 : decode cd_M_child 30 = .ok (.iconst 3, 1) := by decide +kernel
theorem dc_M_child_31 : decode cd_M_child 31 = .ok (.idiv, 1) := by decide +kernel
theorem dc_M_child_32 : decode cd_M_child 32 = .ok (.iaload, 1) := by decide +kernel
theorem dc_M_child_33 : decode cd_M_child 33 = .ok (.iload_n 1, 1) := by decide +kernel
theorem dc_M_child_34 : decode cd_M_child 34 = .ok (.if_icmp .ne 5, 3) := by decide +kernel
theorem dc_M_child_37 : decode cd_M_child 37 = .ok (.iload_n 3, 1) := by decide +kernel
theorem dc_M_child_38 : decode cd_M_child 38 = .ok (.ireturn, 1) := by decide +kernel
theorem dc_M_child_39 : decode cd_M_child 39 = .ok (.iinc 3 1, 3) := by decide +kernel
theorem dc_M_child_42 : decode cd_M_child 42 = .ok (.goto (-40), 3) := by decide +kernel
theorem dc_M_child_45 : decode cd_M_child 45 = .ok (.iconst (-1), 1) := by decide +kernel
theorem dc_M_child_46 : decode cd_M_child 46 = .ok (.ireturn, 1) := by decide +kernel
theorem dc_M_giveNumbers_0 : decode cd_M_giveNumbers 0 = .ok (.iload_n 1, 1) := by decide +kernel
theorem dc_M_giveNumbers_1 : decode cd_M_giveNumbers 1 = .ok (.istore_n 2, 1) := by decide +kernel
theorem dc_M_giveNumbers_2 : decode cd_M_giveNumbers 2 = .ok (.iconst 0, 1) := by decide +kernel
theorem dc_M_giveNumbers_3 : decode cd_M_giveNumbers 3 = .ok (.istore_n 3, 1) := by decide +kernel
theorem dc_M_giveNumbers_4 : decode cd_M_giveNumbers 4 = .ok (.iconst 0, 1) := by decide +kernel
theorem dc_M_giveNumbers_5 : decode cd_M_giveNumbers 5 = .ok (.istore 4, 2) := by decide +kernel
theorem dc_M_giveNumbers_7 : decode cd_M_giveNumbers 7 = .ok (.iload_n 2, 1) := by decide +kernel
theorem dc_M_giveNumbers_8 : decode cd_M_giveNumbers 8 = .ok (.ifCond .lt 107, 3) := by decide +kernel
theorem dc_M_giveNumbers_11 : decode cd_M_giveNumbers 11 = .ok (.aload_n 0, 1) := by decide +kernel
theorem dc_M_giveNumbers_12 : decode cd_M_giveNumbers 12 = .ok (.iload_n 2, 1) := by decide +kernel
theorem dc_M_giveNumbers_13 : decode cd_M_giveNumbers 13 = .ok (.iload_n 3, 1) := by decide +kernel
theorem dc_M_giveNumbers_14 : decode cd_M_giveNumbers 14 = .ok (.invokevirtual 166, 3) := by decide +kernel
theorem dc_M_giveNumbers_17 : decode cd_M_giveNumbers 17 = .ok (.istore 5, 2) := by decide +kernel
theorem dc_M_giveNumbers_19 : decode cd_M_giveNumbers 19 = .ok (.iload 5, 2) := by decide +kernel
theorem dc_M_giveNumbers_21 : decode cd_M_giveNumbers 21 = .ok (.ifCond .lt 22, 3) := by decide +kernel
theorem dc_M_giveNumbers_24 : decode cd_M_giveNumbers 24 = .ok (.aload_n 0, 1) := by decide +kernel
theorem dc_M_giveNumbers_25 : decode cd_M_giveNumbers 25 = .ok (.getfield 7, 3) := by decide +kernel
theorem dc_M_giveNumbers_28 : decode cd_M_giveNumbers 28 = .ok (.iconst 3, 1) := by decide +kernel
theorem dc_M_giveNumbers_29 : decode cd_M_giveNumbers 29 = .ok (.iload_n 2, 1) := by decide +kernel
theorem dc_M_giveNumbers_30 : decode cd_M_giveNumbers 30 = .ok (.imul, 1) := by decide +kernel
theorem dc_M_giveNumbers_31 : decode cd_M_giveNumbers 31 = .ok (.iload 5, 2) := by decide +kernel
theorem dc_M_giveNumbers_33 : decode cd_M_giveNumbers 33 = .ok (.iadd, 1) := by decide +kernel
theorem dc_M_giveNumbers_34 : decode cd_M_giveNumbers 34 = .ok (.iaload, 1) := by decide +kernel
theorem dc_M_giveNumbers_35 : decode cd_M_giveNumbers 35 = .ok (.iconst 3, 1) := by decide +kernel
theorem dc_M_giveNumbers_36 : decode cd_M_giveNumbers 36 = .ok (.idiv, 1) := by decide +kernel
theorem dc_M_giveNumbers_37 : decode cd_M_giveNumbers 37 = .ok (.istore_n 2, 1) := by decide +kernel
theorem dc_M_giveNumbers_38 : decode cd_M_giveNumbers 38 = .ok (.iconst 0, 1) := by decide +kernel
theorem dc_M_giveNumbers_39 : decode cd_M_giveNumbers 39 = .ok (.istore_n 3, 1) := by decide +kernel
theorem dc_M_giveNumbers_40 : decode cd_M_giveNumbers 40 = .ok (.goto (-33), 3) := by decide +kernel
theorem dc_M_giveNumbers_43 : decode cd_M_giveNumbers 43 = .ok (.aload_n 0, 1) := by decide +kernel
theorem dc_M_giveNumbers_44 : decode cd_M_giveNumbers 44 = .ok (.getfield 53, 3) := by decide +kernel
theorem dc_M_giveNumbers_47 : decode cd_M_giveNumbers 47 = .ok (.iload_n 2, 1) := by decide +kernel
theorem dc_M_giveNumbers_48 : decode cd_M_giveNumbers 48 = .ok (.iload 4, 2) := by decide +kernel
theorem dc_M_giveNumbers_50 : decode cd_M_giveNumbers 50 = .ok (.iastore, 1) := by decide +kernel
theorem dc_M_giveNumbers_51 : decode cd_M_giveNumbers 51 = .ok (.iinc 4 1, 3) := by decide +kernel
theorem dc_M_giveNumbers_54 : decode cd_M_giveNumbers 54 = .ok (.aload_n 0, 1) := by decide +kernel
theorem dc_M_giveNumbers_55 : decode cd_M_giveNumbers 55 = .ok (.getfield 50, 3) := by decide +kernel
theorem dc_M_giveNumbers_58 : decode cd_M_giveNumbers 58 = .ok (.iload_n 2, 1) := by decide +kernel
theorem dc_M_giveNumbers_59 : decode cd_M_giveNumbers 59 = .ok (.iaload, 1) := by decide +kernel
theorem dc_M_giveNumbers_60 : decode cd_M_giveNumbers 60 = .ok (.istore 6, 2) := by decide +kernel
theorem dc_M_giveNumbers_62 : decode cd_M_giveNumbers 62 = .ok (.iconst 0, 1) := by decide +kernel
theorem dc_M_giveNumbers_63 : decode cd_M_giveNumbers 63 = .ok (.istore_n 3, 1) := by decide +kernel
theorem dc_M_giveNumbers_64 : decode cd_M_giveNumbers 64 = .ok (.iload 6, 2) := by decide +kernel
theorem dc_M_giveNumbers_66 : decode cd_M_giveNumbers 66 = .ok (.ifCond .lt 40, 3) := by decide +kernel
theorem dc_M_giveNumbers_69 : decode cd_M_giveNumbers 69 = .ok (.aload_n 0, 1) := by decide +kernel
theorem dc_M_giveNumbers_70 : decode cd_M_giveNumbers 70 = .ok (.getfield 7, 3) := by decide +kernel
theorem dc_M_giveNumbers_73 : decode cd_M_giveNumbers 73 = .ok (.iconst 3, 1) := by decide +kernel
theorem dc_M_giveNumbers_74 : decode cd_M_giveNumbers 74 = .ok (.iload 6, 2) := by decide +kernel
theorem dc_M_giveNumbers_76 : decode cd_M_giveNumbers 76 = .ok (.imul, 1) := by decide +kernel
theorem dc_M_giveNumbers_77 : decode cd_M_giveNumbers 77 = .ok (.iload_n 3, 1) := by decide +kernel
theorem dc_M_giveNumbers_78 : decode cd_M_giveNumbers 78 = .ok (.iadd, 1) := by decide +kernel
theorem dc_M_giveNumbers_79 : decode cd_M_giveNumbers 79 = .ok (.iaload, 1) := by decide +kernel
theorem dc_M_giveNumbers_80 : decode cd_M_giveNumbers 80 = .ok (.ifCond .lt 20, 3) := by decide +kernel
theorem dc_M_giveNumbers_83 : decode cd_M_giveNumbers 83 = .ok (.aload_n 0, 1) := by decide +kernel
theorem dc_M_giveNumbers_84 : decode cd_M_giveNumbers 84 = .ok (.getfield 7, 3) := by decide +kernel
theorem dc_M_giveNumbers_87 : decode cd_M_giveNumbers 87 = .ok (.iconst 3, 1) := by decide +kernel
theorem dc_M_giveNumbers_88 : decode cd_M_giveNumbers 88 = .ok (.iload 6, 2) := by decide +kernel
theorem dc_M_giveNumbers_90 : decode cd_M_giveNumbers 90 = .ok (.imul, 1) := by decide +kernel
theorem dc_M_giveNumbers_91 : decode cd_M_giveNumbers 91 = .ok (.iload_n 3, 1) := by decide +kernel
theorem dc_M_giveNumbers_92 : decode cd_M_giveNumbers 92 = .ok (.iadd, 1) := by decide +kernel
theorem dc_M_giveNumbers_93 : decode cd_M_giveNumbers 93 = .ok (.iaload, 1) := by decide +kernel
theorem dc_M_giveNumbers_94 : decode cd_M_giveNumbers 94 = .ok (.iconst 3, 1) := by decide +kernel
theorem dc_M_giveNumbers_95 : decode cd_M_giveNumbers 95 = .ok (.idiv, 1) := by decide +kernel
theorem dc_M_giveNumbers_96 : decode cd_M_giveNumbers 96 = .ok (.iload_n 2, 1) := by decide +kernel
theorem dc_M_giveNumbers_97 : decode cd_M_giveNumbers 97 = .ok (.if_icmp .eq 9, 3) := by decide +kernel
theorem dc_M_giveNumbers_100 : decode cd_M_giveNumbers 100 = .ok (.iinc 3 1, 3) := by decide +kernel
theorem dc_M_giveNumbers_103 : decode cd_M_giveNumbers 103 = .ok (.goto (-39), 3) := by decide +kernel
theorem dc_M_giveNumbers_106 : decode cd_M_giveNumbers 106 = .ok (.iinc 3 1, 3) := by decide +kernel
theorem dc_M_giveNumbers_109 : decode cd_M_giveNumbers 109 = .ok (.iload 6, 2) := by decide +kernel
theorem dc_M_giveNumbers_111 : decode cd_M_giveNumbers 111 = .ok (.istore_n 2, 1) := by decide +kernel
theorem dc_M_giveNumbers_112 : decode cd_M_giveNumbers 112 = .ok (.goto (-105), 3) := by decide +kernel
theorem dc_M_giveNumbers_115 : decode cd_M_giveNumbers 115 = .ok (.return_, 1) := by decide +kernel
theorem dc_M_settle_0 : decode cd_M_settle 0 = .ok (.iconst (-1), 1) := by decide +kernel
theorem dc_M_settle_1 : decode cd_M_settle 1 = .ok (.istore_n 3, 1) := by decide +kernel
theorem dc_M_settle_2 : decode cd_M_settle 2 = .ok (.iconst (-1), 1) := by decide +kernel
theorem dc_M_settle_3 : decode cd_M_settle 3 = .ok (.istore 4, 2) := by decide +kernel
theorem dc_M_settle_5 : decode cd_M_settle 5 = .ok (.iconst 0, 1) := by decide +kernel
theorem dc_M_settle_6 : decode cd_M_settle 6 = .ok (.istore 5, 2) := by decide +kernel
theorem dc_M_settle_8 : decode cd_M_settle 8 = .ok (.iload 5, 2) := by decide +kernel
theorem dc_M_settle_10 : decode cd_M_settle 10 = .ok (.bipush 12, 2) := by decide +kernel
theorem dc_M_settle_12 : decode cd_M_settle 12 = .ok (.if_icmp .ge 37, 3) := by decide +kernel
theorem dc_M_settle_15 : decode cd_M_settle 15 = .ok (.aload_n 0, 1) := by decide +kernel
theorem dc_M_settle_16 : decode cd_M_settle 16 = .ok (.getfield 62, 3) := by decide +kernel
theorem dc_M_settle_19 : decode cd_M_settle 19 = .ok (.iload 5, 2) := by decide +kernel
theorem dc_M_settle_21 : decode cd_M_settle 21 = .ok (.iaload, 1) := by decide +kernel
theorem dc_M_settle_22 : decode cd_M_settle 22 = .ok (.iload_n 1, 1) := by decide +kernel
theorem dc_M_settle_23 : decode cd_M_settle 23 = .ok (.if_icmp .ne 20, 3) := by decide +kernel
theorem dc_M_settle_26 : decode cd_M_settle 26 = .ok (.iload_n 2, 1) := by decide +kernel
theorem dc_M_settle_27 : decode cd_M_settle 27 = .ok (.ifCond .eq 16, 3) := by decide +kernel
theorem dc_M_settle_30 : decode cd_M_settle 30 = .ok (.aload_n 0, 1) := by decide +kernel
theorem dc_M_settle_31 : decode cd_M_settle 31 = .ok (.getfield 50, 3) := by decide +kernel
theorem dc_M_settle_34 : decode cd_M_settle 34 = .ok (.iload 5, 2) := by decide +kernel
theorem dc_M_settle_36 : decode cd_M_settle 36 = .ok (.iaload, 1) := by decide +kernel
theorem dc_M_settle_37 : decode cd_M_settle 37 = .ok (.ifCond .ge 6, 3) := by decide +kernel
theorem dc_M_settle_40 : decode cd_M_settle 40 = .ok (.iload 5, 2) := by decide +kernel
theorem dc_M_settle_42 : decode cd_M_settle 42 = .ok (.istore_n 3, 1) := by decide +kernel
theorem dc_M_settle_43 : decode cd_M_settle 43 = .ok (.iinc 5 1, 3) := by decide +kernel
theorem dc_M_settle_46 : decode cd_M_settle 46 = .ok (.goto (-38), 3) := by decide +kernel
theorem dc_M_settle_49 : decode cd_M_settle 49 = .ok (.iload_n 2, 1) := by decide +kernel
theorem dc_M_settle_50 : decode cd_M_settle 50 = .ok (.ifCond .eq 8, 3) := by decide +kernel
theorem dc_M_settle_53 : decode cd_M_settle 53 = .ok (.aload_n 0, 1) := by decide +kernel
theorem dc_M_settle_54 : decode cd_M_settle 54 = .ok (.iload_n 3, 1) := by decide +kernel
theorem dc_M_settle_55 : decode cd_M_settle 55 = .ok (.invokevirtual 170, 3) := by decide +kernel
theorem dc_M_settle_58 : decode cd_M_settle 58 = .ok (.iconst 0, 1) := by decide +kernel
theorem dc_M_settle_59 : decode cd_M_settle 59 = .ok (.istore 5, 2) := by decide +kernel
theorem dc_M_settle_61 : decode cd_M_settle 61 = .ok (.iload 5, 2) := by decide +kernel
theorem dc_M_settle_63 : decode cd_M_settle 63 = .ok (.bipush 12, 2) := by decide +kernel
theorem dc_M_settle_65 : decode cd_M_settle 65 = .ok (.if_icmp .ge 60, 3) := by decide +kernel
theorem dc_M_settle_68 : decode cd_M_settle 68 = .ok (.aload_n 0, 1) := by decide +kernel
theorem dc_M_settle_69 : decode cd_M_settle 69 = .ok (.getfield 62, 3) := by decide +kernel
theorem dc_M_settle_72 : decode cd_M_settle 72 = .ok (.iload 5, 2) := by decide +kernel
theorem dc_M_settle_74 : decode cd_M_settle 74 = .ok (.iaload, 1) := by decide +kernel
theorem dc_M_settle_75 : decode cd_M_settle 75 = .ok (.iload_n 1, 1) := by decide +kernel
theorem dc_M_settle_76 : decode cd_M_settle 76 = .ok (.if_icmp .ne 43, 3) := by decide +kernel
theorem dc_M_settle_79 : decode cd_M_settle 79 = .ok (.iload_n 2, 1) := by decide +kernel
theorem dc_M_settle_80 : decode cd_M_settle 80 = .ok (.ifCond .eq 39, 3) := by decide +kernel
theorem dc_M_settle_83 : decode cd_M_settle 83 = .ok (.aload_n 0, 1) := by decide +kernel
theorem dc_M_settle_84 : decode cd_M_settle 84 = .ok (.getfield 35, 3) := by decide +kernel
theorem dc_M_settle_87 : decode cd_M_settle 87 = .ok (.iload 5, 2) := by decide +kernel
theorem dc_M_settle_89 : decode cd_M_settle 89 = .ok (.baload, 1) := by decide +kernel
theorem dc_M_settle_90 : decode cd_M_settle 90 = .ok (.ifCond .eq 29, 3) := by decide +kernel
theorem dc_M_settle_93 : decode cd_M_settle 93 = .ok (.iload 4, 2) := by decide +kernel
theorem dc_M_settle_95 : decode cd_M_settle 95 = .ok (.ifCond .lt 20, 3) := by decide +kernel
theorem dc_M_settle_98 : decode cd_M_settle 98 = .ok (.aload_n 0, 1) := by decide +kernel
theorem dc_M_settle_99 : decode cd_M_settle 99 = .ok (.getfield 53, 3) := by decide +kernel
theorem dc_M_settle_102 : decode cd_M_settle 102 = .ok (.iload 5, 2) := by decide +kernel
theorem dc_M_settle_104 : decode cd_M_settle 104 = .ok (.iaload, 1) := by decide +kernel
theorem dc_M_settle_105 : decode cd_M_settle 105 = .ok (.aload_n 0, 1) := by decide +kernel
theorem dc_M_settle_106 : decode cd_M_settle 106 = .ok (.getfield 53, 3) := by decide +kernel
theorem dc_M_settle_109 : decode cd_M_settle 109 = .ok (.iload 4, 2) := by decide +kernel
theorem dc_M_settle_111 : decode cd_M_settle 111 = .ok (.iaload, 1) := by decide +kernel
theorem dc_M_settle_112 : decode cd_M_settle 112 = .ok (.if_icmp .le 7, 3) := by decide +kernel
theorem dc_M_settle_115 : decode cd_M_settle 115 = .ok (.iload 5, 2) := by decide +kernel
theorem dc_M_settle_117 : decode cd_M_settle 117 = .ok (.istore 4, 2) := by decide +kernel
theorem dc_M_settle_119 : decode cd_M_settle 119 = .ok (.iinc 5 1, 3) := by decide +kernel
theorem dc_M_settle_122 : decode cd_M_settle 122 = .ok (.goto (-61), 3) := by decide +kernel
theorem dc_M_settle_125 : decode cd_M_settle 125 = .ok (.iconst 0, 1) := by decide +kernel
theorem dc_M_settle_126 : decode cd_M_settle 126 = .ok (.istore 5, 2) := by decide +kernel
theorem dc_M_settle_128 : decode cd_M_settle 128 = .ok (.iload 5, 2) := by decide +kernel
theorem dc_M_settle_130 : decode cd_M_settle 130 = .ok (.bipush 12, 2) := by decide +kernel
theorem dc_M_settle_132 : decode cd_M_settle 132 = .ok (.if_icmp .ge 68, 3) := by decide +kernel
theorem dc_M_settle_135 : decode cd_M_settle 135 = .ok (.aload_n 0, 1) := by decide +kernel
theorem dc_M_settle_136 : decode cd_M_settle 136 = .ok (.getfield 62, 3) := by decide +kernel
theorem dc_M_settle_139 : decode cd_M_settle 139 = .ok (.iload 5, 2) := by decide +kernel
theorem dc_M_settle_141 : decode cd_M_settle 141 = .ok (.iaload, 1) := by decide +kernel
theorem dc_M_settle_142 : decode cd_M_settle 142 = .ok (.iload_n 1, 1) := by decide +kernel
theorem dc_M_settle_143 : decode cd_M_settle 143 = .ok (.if_icmp .eq 6, 3) := by decide +kernel
theorem dc_M_settle_146 : decode cd_M_settle 146 = .ok (.goto 48, 3) := by decide +kernel
theorem dc_M_settle_149 : decode cd_M_settle 149 = .ok (.aload_n 0, 1) := by decide +kernel
theorem dc_M_settle_150 : decode cd_M_settle 150 = .ok (.getfield 56, 3) := by decide +kernel
theorem dc_M_settle_153 : decode cd_M_settle 153 = .ok (.iload 5, 2) := by decide +kernel
theorem dc_M_settle_155 : decode cd_M_settle 155 = .ok (.iload_n 3, 1) := by decide +kernel
theorem dc_M_settle_156 : decode cd_M_settle 156 = .ok (.iastore, 1) := by decide +kernel
theorem dc_M_settle_157 : decode cd_M_settle 157 = .ok (.aload_n 0, 1) := by decide +kernel
theorem dc_M_settle_158 : decode cd_M_settle 158 = .ok (.getfield 59, 3) := by decide +kernel
theorem dc_M_settle_161 : decode cd_M_settle 161 = .ok (.iload 5, 2) := by decide +kernel
theorem dc_M_settle_163 : decode cd_M_settle 163 = .ok (.iload 4, 2) := by decide +kernel
theorem dc_M_settle_165 : decode cd_M_settle 165 = .ok (.iastore, 1) := by decide +kernel
theorem dc_M_settle_166 : decode cd_M_settle 166 = .ok (.aload_n 0, 1) := by decide +kernel
theorem dc_M_settle_167 : decode cd_M_settle 167 = .ok (.getfield 44, 3) := by decide +kernel
theorem dc_M_settle_170 : decode cd_M_settle 170 = .ok (.iload 5, 2) := by decide +kernel
theorem dc_M_settle_172 : decode cd_M_settle 172 = .ok (.iload_n 2, 1) := by decide +kernel
theorem dc_M_settle_173 : decode cd_M_settle 173 = .ok (.ifCond .ne 7, 3) := by decide +kernel
theorem dc_M_settle_176 : decode cd_M_settle 176 = .ok (.iconst 1, 1) := by decide +kernel
theorem dc_M_settle_177 : decode cd_M_settle 177 = .ok (.goto 4, 3) := by decide +kernel
theorem dc_M_settle_180 : decode cd_M_settle 180 = .ok (.iconst 0, 1) := by decide +kernel
theorem dc_M_settle_181 : decode cd_M_settle 181 = .ok (.bastore, 1) := by decide +kernel
theorem dc_M_settle_182 : decode cd_M_settle 182 = .ok (.iload_n 2, 1) := by decide +kernel
theorem dc_M_settle_183 : decode cd_M_settle 183 = .ok (.ifCond .ne 11, 3) := by decide +kernel
theorem dc_M_settle_186 : decode cd_M_settle 186 = .ok (.aload_n 0, 1) := by decide +kernel
theorem dc_M_settle_187 : decode cd_M_settle 187 = .ok (.getfield 50, 3) := by decide +kernel
theorem dc_M_settle_190 : decode cd_M_settle 190 = .ok (.iload 5, 2) := by decide +kernel
theorem dc_M_settle_192 : decode cd_M_settle 192 = .ok (.iconst (-1), 1) := by decide +kernel
theorem dc_M_settle_193 : decode cd_M_settle 193 = .ok (.iastore, 1) := by decide +kernel
theorem dc_M_settle_194 : decode cd_M_settle 194 = .ok (.iinc 5 1, 3) := by decide +kernel
theorem dc_M_settle_197 : decode cd_M_settle 197 = .ok (.goto (-69), 3) := by decide +kernel
theorem dc_M_settle_200 : decode cd_M_settle 200 = .ok (.return_, 1) := by decide +kernel
theorem dc_M_resetBus_0 : decode cd_M_resetBus 0 = .ok (.aload_n 0, 1) := by decide +kernel
theorem dc_M_resetBus_1 : decode cd_M_resetBus 1 = .ok (.dup, 1) := by decide +kernel
theorem dc_M_resetBus_2 : decode cd_M_resetBus 2 = .ok (.getfield 174, 3) := by decide +kernel
theorem dc_M_resetBus_5 : decode cd_M_resetBus 5 = .ok (.iconst 1, 1) := by decide +kernel
theorem dc_M_resetBus_6 : decode cd_M_resetBus 6 = .ok (.iadd, 1) := by decide +kernel
theorem dc_M_resetBus_7 : decode cd_M_resetBus 7 = .ok (.putfield 174, 3) := by decide +kernel
theorem dc_M_resetBus_10 : decode cd_M_resetBus 10 = .ok (.aload_n 0, 1) := by decide +kernel
theorem dc_M_resetBus_11 : decode cd_M_resetBus 11 = .ok (.iload_n 1, 1) := by decide +kernel
theorem dc_M_resetBus_12 : decode cd_M_resetBus 12 = .ok (.invokevirtual 177, 3) := by decide +kernel
theorem dc_M_resetBus_15 : decode cd_M_resetBus 15 = .ok (.iconst 1, 1) := by decide +kernel
theorem dc_M_resetBus_16 : decode cd_M_resetBus 16 = .ok (.istore_n 2, 1) := by decide +kernel
theorem dc_M_resetBus_17 : decode cd_M_resetBus 17 = .ok (.iload_n 2, 1) := by decide +kernel
theorem dc_M_resetBus_18 : decode cd_M_resetBus 18 = .ok (.bipush 24, 2) := by decide +kernel
theorem dc_M_resetBus_20 : decode cd_M_resetBus 20 = .ok (.if_icmp .gt 23, 3) := by decide +kernel
theorem dc_M_resetBus_23 : decode cd_M_resetBus 23 = .ok (.aload_n 0, 1) := by decide +kernel
theorem dc_M_resetBus_24 : decode cd_M_resetBus 24 = .ok (.iload_n 1, 1) := by decide +kernel
theorem dc_M_resetBus_25 : decode cd_M_resetBus 25 = .ok (.invokevirtual 180, 3) := by decide +kernel
theorem dc_M_resetBus_28 : decode cd_M_resetBus 28 = .ok (.ifCond .eq 15, 3) := by decide +kernel
theorem dc_M_resetBus_31 : decode cd_M_resetBus 31 = .ok (.aload_n 0, 1) := by decide +kernel
theorem dc_M_resetBus_32 : decode cd_M_resetBus 32 = .ok (.iload_n 1, 1) := by decide +kernel
theorem dc_M_resetBus_33 : decode cd_M_resetBus 33 = .ok (.iload_n 2, 1) := by decide +kernel
theorem dc_M_resetBus_34 : decode cd_M_resetBus 34 = .ok (.invokevirtual 184, 3) := by decide +kernel
theorem dc_M_resetBus_37 : decode cd_M_resetBus 37 = .ok (.iinc 2 1, 3) := by decide +kernel
theorem dc_M_resetBus_40 : decode cd_M_resetBus 40 = .ok (.goto (-23), 3) := by decide +kernel
theorem dc_M_resetBus_43 : decode cd_M_resetBus 43 = .ok (.aload_n 0, 1) := by decide +kernel
theorem dc_M_resetBus_44 : decode cd_M_resetBus 44 = .ok (.iload_n 1, 1) := by decide +kernel
theorem dc_M_resetBus_45 : decode cd_M_resetBus 45 = .ok (.aload_n 0, 1) := by decide +kernel
theorem dc_M_resetBus_46 : decode cd_M_resetBus 46 = .ok (.iload_n 1, 1) := by decide +kernel
theorem dc_M_resetBus_47 : decode cd_M_resetBus 47 = .ok (.invokevirtual 180, 3) := by decide +kernel
theorem dc_M_resetBus_50 : decode cd_M_resetBus 50 = .ok (.ifCond .ne 7, 3) := by decide +kernel
theorem dc_M_resetBus_53 : decode cd_M_resetBus 53 = .ok (.iconst 1, 1) := by decide +kernel
theorem dc_M_resetBus_54 : decode cd_M_resetBus 54 = .ok (.goto 4, 3) := by decide +kernel
theorem dc_M_resetBus_57 : decode cd_M_resetBus 57 = .ok (.iconst 0, 1) := by decide +kernel
theorem dc_M_resetBus_58 : decode cd_M_resetBus 58 = .ok (.invokevirtual 187, 3) := by decide +kernel
theorem dc_M_resetBus_61 : decode cd_M_resetBus 61 = .ok (.return_, 1) := by decide +kernel
theorem dc_M_sender_0 : decode cd_M_sender 0 = .ok (.iconst (-1), 1) := by decide +kernel
theorem dc_M_sender_1 : decode cd_M_sender 1 = .ok (.istore_n 3, 1) := by decide +kernel
theorem dc_M_sender_2 : decode cd_M_sender 2 = .ok (.iconst 0, 1) := by decide +kernel
theorem dc_M_sender_3 : decode cd_M_sender 3 = .ok (.istore 4, 2) := by decide +kernel
theorem dc_M_sender_5 : decode cd_M_sender 5 = .ok (.iload 4, 2) := by decide +kernel
theorem dc_M_sender_7 : decode cd_M_sender 7 = .ok (.bipush 12, 2) := by decide +kernel
theorem dc_M_sender_9 : decode cd_M_sender 9 = .ok (.if_icmp .ge 70, 3) := by decide +kernel
theorem dc_M_sender_12 : decode cd_M_sender 12 = .ok (.aload_n 0, 1) := by decide +kernel
theorem dc_M_sender_13 : decode cd_M_sender 13 = .ok (.getfield 62, 3) := by decide +kernel
theorem dc_M_sender_16 : decode cd_M_sender 16 = .ok (.iload 4, 2) := by decide +kernel
theorem dc_M_sender_18 : decode cd_M_sender 18 = .ok (.iaload, 1) := by decide +kernel
theorem dc_M_sender_19 : decode cd_M_sender 19 = .ok (.iload_n 1, 1) := by decide +kernel
theorem dc_M_sender_20 : decode cd_M_sender 20 = .ok (.if_icmp .ne 53, 3) := by decide +kernel
theorem dc_M_sender_23 : decode cd_M_sender 23 = .ok (.aload_n 0, 1) := by decide +kernel
theorem dc_M_sender_24 : decode cd_M_sender 24 = .ok (.getfield 110, 3) := by decide +kernel
theorem dc_M_sender_27 : decode cd_M_sender 27 = .ok (.iload 4, 2) := by decide +kernel
theorem dc_M_sender_29 : decode cd_M_sender 29 = .ok (.iaload, 1) := by decide +kernel
theorem dc_M_sender_30 : decode cd_M_sender 30 = .ok (.ifCond .eq 43, 3) := by decide +kernel
theorem dc_M_sender_33 : decode cd_M_sender 33 = .ok (.iload_n 2, 1) := by decide +kernel
theorem dc_M_sender_34 : decode cd_M_sender 34 = .ok (.ifCond .eq 16, 3) := by decide +kernel
theorem dc_M_sender_37 : decode cd_M_sender 37 = .ok (.aload_n 0, 1) := by decide +kernel
theorem dc_M_sender_38 : decode cd_M_sender 38 = .ok (.getfield 38, 3) := by decide +kernel
theorem dc_M_sender_41 : decode cd_M_sender 41 = .ok (.iload 4, 2) := by decide +kernel
theorem dc_M_sender_43 : decode cd_M_sender 43 = .ok (.baload, 1) := by decide +kernel
theorem dc_M_sender_44 : decode cd_M_sender 44 = .ok (.ifCond .eq 6, 3) := by decide +kernel
theorem dc_M_sender_47 : decode cd_M_sender 47 = .ok (.goto 26, 3) := by decide +kernel
theorem dc_M_sender_50 : decode cd_M_sender 50 = .ok (.iload_n 3, 1) := by decide +kernel
theorem dc_M_sender_51 : decode cd_M_sender 51 = .ok (.ifCond .lt 19, 3) := by decide +kernel
theorem dc_M_sender_54 : decode cd_M_sender 54 = .ok (.aload_n 0, 1) := by decide +kernel
theorem dc_M_sender_55 : decode cd_M_sender 55 = .ok (.getfield 53, 3) := by decide +kernel
theorem dc_M_sender_58 : decode cd_M_sender 58 = .ok (.iload 4, 2) := by decide +kernel
theorem dc_M_sender_60 : decode cd_M_sender 60 = .ok (.iaload, 1) := by decide +kernel
theorem dc_M_sender_61 : decode cd_M_sender 61 = .ok (.aload_n 0, 1) := by decide +kernel
theorem dc_M_sender_62 : decode cd_M_sender 62 = .ok (.getfield 53, 3) := by decide +kernel
theorem dc_M_sender_65 : decode cd_M_sender 65 = .ok (.iload_n 3, 1) := by decide +kernel
theorem dc_M_sender_66 : decode cd_M_sender 66 = .ok (.iaload, 1) := by decide +kernel
theorem dc_M_sender_67 : decode cd_M_sender 67 = .ok (.if_icmp .le 6, 3) := by decide +kernel
theorem dc_M_sender_70 : decode cd_M_sender 70 = .ok (.iload 4, 2) := by decide +kernel
theorem dc_M_sender_72 : decode cd_M_sender 72 = .ok (.istore_n 3, 1) := by decide +kernel
theorem dc_M_sender_73 : decode cd_M_sender 73 = .ok (.iinc 4 1, 3) := by decide +kernel
theorem dc_M_sender_76 : decode cd_M_sender 76 = .ok (.goto (-71), 3) := by decide +kernel
theorem dc_M_sender_79 : decode cd_M_sender 79 = .ok (.iload_n 3, 1) := by decide +kernel
theorem dc_M_sender_80 : decode cd_M_sender 80 = .ok (.ireturn, 1) := by decide +kernel
theorem dc_M_slot_0 : decode cd_M_slot 0 = .ok (.aload_n 0, 1) := by decide +kernel
theorem dc_M_slot_1 : decode cd_M_slot 1 = .ok (.iload_n 1, 1) := by decide +kernel
theorem dc_M_slot_2 : decode cd_M_slot 2 = .ok (.iconst 1, 1) := by decide +kernel
theorem dc_M_slot_3 : decode cd_M_slot 3 = .ok (.invokevirtual 191, 3) := by decide +kernel
theorem dc_M_slot_6 : decode cd_M_slot 6 = .ok (.istore_n 2, 1) := by decide +kernel
theorem dc_M_slot_7 : decode cd_M_slot 7 = .ok (.iload_n 2, 1) := by decide +kernel
theorem dc_M_slot_8 : decode cd_M_slot 8 = .ok (.ifCond .lt 18, 3) := by decide +kernel
theorem dc_M_slot_11 : decode cd_M_slot 11 = .ok (.aload_n 0, 1) := by decide +kernel
theorem dc_M_slot_12 : decode cd_M_slot 12 = .ok (.getfield 38, 3) := by decide +kernel
theorem dc_M_slot_15 : decode cd_M_slot 15 = .ok (.iload_n 2, 1) := by decide +kernel
theorem dc_M_slot_16 : decode cd_M_slot 16 = .ok (.iconst 1, 1) := by decide +kernel
theorem dc_M_slot_17 : decode cd_M_slot 17 = .ok (.bastore, 1) := by decide +kernel
theorem dc_M_slot_18 : decode cd_M_slot 18 = .ok (.aload_n 0, 1) := by decide +kernel
theorem dc_M_slot_19 : decode cd_M_slot 19 = .ok (.iload_n 2, 1) := by decide +kernel
theorem dc_M_slot_20 : decode cd_M_slot 20 = .ok (.invokevirtual 195, 3) := by decide +kernel
theorem dc_M_slot_23 : decode cd_M_slot 23 = .ok (.goto 53, 3) := by decide +kernel
theorem dc_M_slot_26 : decode cd_M_slot 26 = .ok (.aload_n 0, 1) := by decide +kernel
theorem dc_M_slot_27 : decode cd_M_slot 27 = .ok (.iload_n 1, 1) := by decide +kernel
theorem dc_M_slot_28 : decode cd_M_slot 28 = .ok (.iconst 0, 1) := by decide +kernel
theorem dc_M_slot_29 : decode cd_M_slot 29 = .ok (.invokevirtual 191, 3) := by decide +kernel
theorem dc_M_slot_32 : decode cd_M_slot 32 = .ok (.ifCond .lt 44, 3) := by decide +kernel
theorem dc_M_slot_35 : decode cd_M_slot 35 = .ok (.aload_n 0, 1) := by decide +kernel
theorem dc_M_slot_36 : decode cd_M_slot 36 = .ok (.dup, 1) := by decide +kernel
theorem dc_M_slot_37 : decode cd_M_slot 37 = .ok (.getfield 198, 3) := by decide +kernel
theorem dc_M_slot_40 : decode cd_M_slot 40 = .ok (.iconst 1, 1) := by decide +kernel
theorem dc_M_slot_41 : decode cd_M_slot 41 = .ok (.iadd, 1) := by decide +kernel
theorem dc_M_slot_42 : decode cd_M_slot 42 = .ok (.putfield 198, 3) := by decide +kernel
theorem dc_M_slot_45 : decode cd_M_slot 45 = .ok (.iconst 0, 1) := by decide +kernel
theorem dc_M_slot_46 : decode cd_M_slot 46 = .ok (.istore_n 3, 1) := by decide +kernel
theorem dc_M_slot_47 : decode cd_M_slot 47 = .ok (.iload_n 3, 1) := by decide +kernel
theorem dc_M_slot_48 : decode cd_M_slot 48 = .ok (.bipush 12, 2) := by decide +kernel
theorem dc_M_slot_50 : decode cd_M_slot 50 = .ok (.if_icmp .ge 26, 3) := by decide +kernel
theorem dc_M_slot_53 : decode cd_M_slot 53 = .ok (.aload_n 0, 1) := by decide +kernel
theorem dc_M_slot_54 : decode cd_M_slot 54 = .ok (.getfield 62, 3) := by decide +kernel
theorem dc_M_slot_57 : decode cd_M_slot 57 = .ok (.iload_n 3, 1) := by decide +kernel
theorem dc_M_slot_58 : decode cd_M_slot 58 = .ok (.iaload, 1) := by decide +kernel
theorem dc_M_slot_59 : decode cd_M_slot 59 = .ok (.iload_n 1, 1) := by decide +kernel
theorem dc_M_slot_60 : decode cd_M_slot 60 = .ok (.if_icmp .ne 10, 3) := by decide +kernel
theorem dc_M_slot_63 : decode cd_M_slot 63 = .ok (.aload_n 0, 1) := by decide +kernel
theorem dc_M_slot_64 : decode cd_M_slot 64 = .ok (.getfield 38, 3) := by decide +kernel
theorem dc_M_slot_67 : decode cd_M_slot 67 = .ok (.iload_n 3, 1) := by decide +kernel
theorem dc_M_slot_68 : decode cd_M_slot 68 = .ok (.iconst 0, 1) := by decide +kernel
theorem dc_M_slot_69 : decode cd_M_slot 69 = .ok (.bastore, 1) := by decide +kernel
theorem dc_M_slot_70 : decode cd_M_slot 70 = .ok (.iinc 3 1, 3) := by decide +kernel
theorem dc_M_slot_73 : decode cd_M_slot 73 = .ok (.goto (-26), 3) := by decide +kernel
theorem dc_M_slot_76 : decode cd_M_slot 76 = .ok (.return_, 1) := by decide +kernel
theorem dc_M_numbered_0 : decode cd_M_numbered 0 = .ok (.iconst 0, 1) := by decide +kernel
theorem dc_M_numbered_1 : decode cd_M_numbered 1 = .ok (.istore_n 3, 1) := by decide +kernel
theorem dc_M_numbered_2 : decode cd_M_numbered 2 = .ok (.iload_n 3, 1) := by decide +kernel
theorem dc_M_numbered_3 : decode cd_M_numbered 3 = .ok (.bipush 12, 2) := by decide +kernel
theorem dc_M_numbered_5 : decode cd_M_numbered 5 = .ok (.if_icmp .ge 31, 3) := by decide +kernel
theorem dc_M_numbered_8 : decode cd_M_numbered 8 = .ok (.aload_n 0, 1) := by decide +kernel
theorem dc_M_numbered_9 : decode cd_M_numbered 9 = .ok (.getfield 62, 3) := by decide +kernel
theorem dc_M_numbered_12 : decode cd_M_numbered 12 = .ok (.iload_n 3, 1) := by decide +kernel
theorem dc_M_numbered_13 : decode cd_M_numbered 13 = .ok (.iaload, 1) := by decide +kernel
theorem dc_M_numbered_14 : decode cd_M_numbered 14 = .ok (.iload_n 1, 1) := by decide +kernel
theorem dc_M_numbered_15 : decode cd_M_numbered 15 = .ok (.if_icmp .ne 15, 3) := by decide +kernel
theorem dc_M_numbered_18 : decode cd_M_numbered 18 = .ok (.aload_n 0, 1) := by decide +kernel
theorem dc_M_numbered_19 : decode cd_M_numbered 19 = .ok (.getfield 53, 3) := by decide +kernel
theorem dc_M_numbered_22 : decode cd_M_numbered 22 = .ok (.iload_n 3, 1) := by decide +kernel
theorem dc_M_numbered_23 : decode cd_M_numbered 23 = .ok (.iaload, 1) := by decide +kernel
theorem dc_M_numbered_24 : decode cd_M_numbered 24 = .ok (.iload_n 2, 1) := by decide +kernel
theorem dc_M_numbered_25 : decode cd_M_numbered 25 = .ok (.if_icmp .ne 5, 3) := by decide +kernel
theorem dc_M_numbered_28 : decode cd_M_numbered 28 = .ok (.iload_n 3, 1) := by decide +kernel
theorem dc_M_numbered_29 : decode cd_M_numbered 29 = .ok (.ireturn, 1) := by decide +kernel
theorem dc_M_numbered_30 : decode cd_M_numbered 30 = .ok (.iinc 3 1, 3) := by decide +kernel
theorem dc_M_numbered_33 : decode cd_M_numbered 33 = .ok (.goto (-31), 3) := by decide +kernel
theorem dc_M_numbered_36 : decode cd_M_numbered 36 = .ok (.iconst (-1), 1) := by decide +kernel
theorem dc_M_numbered_37 : decode cd_M_numbered 37 = .ok (.ireturn, 1) := by decide +kernel
theorem dc_M_cycle_0 : decode cd_M_cycle 0 = .ok (.aload_n 0, 1) := by decide +kernel
theorem dc_M_cycle_1 : decode cd_M_cycle 1 = .ok (.getfield 59, 3) := by decide +kernel
theorem dc_M_cycle_4 : decode cd_M_cycle 4 = .ok (.iload_n 1, 1) := by decide +kernel
theorem dc_M_cycle_5 : decode cd_M_cycle 5 = .ok (.iaload, 1) := by decide +kernel
theorem dc_M_cycle_6 : decode cd_M_cycle 6 = .ok (.istore_n 2, 1) := by decide +kernel
theorem dc_M_cycle_7 : decode cd_M_cycle 7 = .ok (.iconst 0, 1) := by decide +kernel
theorem dc_M_cycle_8 : decode cd_M_cycle 8 = .ok (.istore_n 3, 1) := by decide +kernel
theorem dc_M_cycle_9 : decode cd_M_cycle 9 = .ok (.ldc2_w 201, 3) := by decide +kernel
theorem dc_M_cycle_12 : decode cd_M_cycle 12 = .ok (.aload_n 0, 1) := by decide +kernel
theorem dc_M_cycle_13 : decode cd_M_cycle 13 = .ok (.getfield 47, 3) := by decide +kernel
theorem dc_M_cycle_16 : decode cd_M_cycle 16 = .ok (.bipush 8, 2) := by decide +kernel
theorem dc_M_cycle_18 : decode cd_M_cycle 18 = .ok (.iload_n 2, 1) := by decide +kernel
theorem dc_M_cycle_19 : decode cd_M_cycle 19 = .ok (.imul, 1) := by decide +kernel
theorem dc_M_cycle_20 : decode cd_M_cycle 20 = .ok (.bipush 6, 2) := by decide +kernel
theorem dc_M_cycle_22 : decode cd_M_cycle 22 = .ok (.iadd, 1) := by decide +kernel
theorem dc_M_cycle_23 : decode cd_M_cycle 23 = .ok (.iaload, 1) := by decide +kernel
theorem dc_M_cycle_24 : decode cd_M_cycle 24 = .ok (.i2l, 1) := by decide +kernel
theorem dc_M_cycle_25 : decode cd_M_cycle 25 = .ok (.lsub, 1) := by decide +kernel
theorem dc_M_cycle_26 : decode cd_M_cycle 26 = .ok (.lstore 4, 2) := by decide +kernel
theorem dc_M_cycle_28 : decode cd_M_cycle 28 = .ok (.aload_n 0, 1) := by decide +kernel
theorem dc_M_cycle_29 : decode cd_M_cycle 29 = .ok (.getfield 47, 3) := by decide +kernel
theorem dc_M_cycle_32 : decode cd_M_cycle 32 = .ok (.bipush 8, 2) := by decide +kernel
theorem dc_M_cycle_34 : decode cd_M_cycle 34 = .ok (.iload_n 2, 1) := by decide +kernel
theorem dc_M_cycle_35 : decode cd_M_cycle 35 = .ok (.imul, 1) := by decide +kernel
theorem dc_M_cycle_36 : decode cd_M_cycle 36 = .ok (.bipush 7, 2) := by decide +kernel
theorem dc_M_cycle_38 : decode cd_M_cycle 38 = .ok (.iadd, 1) := by decide +kernel
theorem dc_M_cycle_39 : decode cd_M_cycle 39 = .ok (.iaload, 1) := by decide +kernel
theorem dc_M_cycle_40 : decode cd_M_cycle 40 = .ok (.istore 6, 2) := by decide +kernel
theorem dc_M_cycle_42 : decode cd_M_cycle 42 = .ok (.iconst 0, 1) := by decide +kernel
theorem dc_M_cycle_43 : decode cd_M_cycle 43 = .ok (.istore 7, 2) := by decide +kernel
theorem dc_M_cycle_45 : decode cd_M_cycle 45 = .ok (.iload 7, 2) := by decide +kernel
theorem dc_M_cycle_47 : decode cd_M_cycle 47 = .ok (.bipush 12, 2) := by decide +kernel
theorem dc_M_cycle_49 : decode cd_M_cycle 49 = .ok (.if_icmp .ge 133, 3) := by decide +kernel
theorem dc_M_cycle_52 : decode cd_M_cycle 52 = .ok (.aload_n 0, 1) := by decide +kernel
theorem dc_M_cycle_53 : decode cd_M_cycle 53 = .ok (.iload_n 1, 1) := by decide +kernel
theorem dc_M_cycle_54 : decode cd_M_cycle 54 = .ok (.iload 7, 2) := by decide +kernel
theorem dc_M_cycle_56 : decode cd_M_cycle 56 = .ok (.invokevirtual 203, 3) := by decide +kernel
theorem dc_M_cycle_59 : decode cd_M_cycle 59 = .ok (.istore 8, 2) := by decide +kernel
theorem dc_M_cycle_61 : decode cd_M_cycle 61 = .ok (.iload 8, 2) := by decide +kernel
theorem dc_M_cycle_63 : decode cd_M_cycle 63 = .ok (.ifCond .lt 113, 3) := by decide +kernel
theorem dc_M_cycle_66 : decode cd_M_cycle 66 = .ok (.aload_n 0, 1) := by decide +kernel
theorem dc_M_cycle_67 : decode cd_M_cycle 67 = .ok (.getfield 29, 3) := by decide +kernel
theorem dc_M_cycle_70 : decode cd_M_cycle 70 = .ok (.iload 8, 2) := by decide +kernel
theorem dc_M_cycle_72 : decode cd_M_cycle 72 = .ok (.iaload, 1) := by decide +kernel
theorem dc_M_cycle_73 : decode cd_M_cycle 73 = .ok (.ifCond .eq 103, 3) := by decide +kernel
theorem dc_M_cycle_76 : decode cd_M_cycle 76 = .ok (.iload 6, 2) := by decide +kernel
theorem dc_M_cycle_78 : decode cd_M_cycle 78 = .ok (.aload_n 0, 1) := by decide +kernel
theorem dc_M_cycle_79 : decode cd_M_cycle 79 = .ok (.getfield 26, 3) := by decide +kernel
theorem dc_M_cycle_82 : decode cd_M_cycle 82 = .ok (.iload 8, 2) := by decide +kernel
theorem dc_M_cycle_84 : decode cd_M_cycle 84 = .ok (.iaload, 1) := by decide +kernel
theorem dc_M_cycle_85 : decode cd_M_cycle 85 = .ok (.ishr, 1) := by decide +kernel
theorem dc_M_cycle_86 : decode cd_M_cycle 86 = .ok (.iconst 1, 1) := by decide +kernel
theorem dc_M_cycle_87 : decode cd_M_cycle 87 = .ok (.iand, 1) := by decide +kernel
theorem dc_M_cycle_88 : decode cd_M_cycle 88 = .ok (.iconst 1, 1) := by decide +kernel
theorem dc_M_cycle_89 : decode cd_M_cycle 89 = .ok (.if_icmp .eq 87, 3) := by decide +kernel
theorem dc_M_cycle_92 : decode cd_M_cycle 92 = .ok (.iload_n 3, 1) := by decide +kernel
theorem dc_M_cycle_93 : decode cd_M_cycle 93 = .ok (.aload_n 0, 1) := by decide +kernel
theorem dc_M_cycle_94 : decode cd_M_cycle 94 = .ok (.getfield 29, 3) := by decide +kernel
theorem dc_M_cycle_97 : decode cd_M_cycle 97 = .ok (.iload 8, 2) := by decide +kernel
theorem dc_M_cycle_99 : decode cd_M_cycle 99 = .ok (.iaload, 1) := by decide +kernel
theorem dc_M_cycle_100 : decode cd_M_cycle 100 = .ok (.iadd, 1) := by decide +kernel
theorem dc_M_cycle_101 : decode cd_M_cycle 101 = .ok (.i2l, 1) := by decide +kernel
theorem dc_M_cycle_102 : decode cd_M_cycle 102 = .ok (.lload 4, 2) := by decide +kernel
theorem dc_M_cycle_104 : decode cd_M_cycle 104 = .ok (.lcmp, 1) := by decide +kernel
theorem dc_M_cycle_105 : decode cd_M_cycle 105 = .ok (.ifCond .le 6, 3) := by decide +kernel
theorem dc_M_cycle_108 : decode cd_M_cycle 108 = .ok (.goto 68, 3) := by decide +kernel
theorem dc_M_cycle_111 : decode cd_M_cycle 111 = .ok (.iload_n 3, 1) := by decide +kernel
theorem dc_M_cycle_112 : decode cd_M_cycle 112 = .ok (.aload_n 0, 1) := by decide +kernel
theorem dc_M_cycle_113 : decode cd_M_cycle 113 = .ok (.getfield 29, 3) := by decide +kernel
theorem dc_M_cycle_116 : decode cd_M_cycle 116 = .ok (.iload 8, 2) := by decide +kernel
theorem dc_M_cycle_118 : decode cd_M_cycle 118 = .ok (.iaload, 1) := by decide +kernel
theorem dc_M_cycle_119 : decode cd_M_cycle 119 = .ok (.iadd, 1) := by decide +kernel
theorem dc_M_cycle_120 : decode cd_M_cycle 120 = .ok (.istore_n 3, 1) := by decide +kernel
theorem dc_M_cycle_121 : decode cd_M_cycle 121 = .ok (.aload_n 0, 1) := by decide +kernel
theorem dc_M_cycle_122 : decode cd_M_cycle 122 = .ok (.dup, 1) := by decide +kernel
theorem dc_M_cycle_123 : decode cd_M_cycle 123 = .ok (.getfield 206, 3) := by decide +kernel
theorem dc_M_cycle_126 : decode cd_M_cycle 126 = .ok (.iconst 1, 1) := by decide +kernel
theorem dc_M_cycle_127 : decode cd_M_cycle 127 = .ok (.iadd, 1) := by decide +kernel
theorem dc_M_cycle_128 : decode cd_M_cycle 128 = .ok (.putfield 206, 3) := by decide +kernel
theorem dc_M_cycle_131 : decode cd_M_cycle 131 = .ok (.iconst 0, 1) := by decide +kernel
theorem dc_M_cycle_132 : decode cd_M_cycle 132 = .ok (.istore 9, 2) := by decide +kernel
theorem dc_M_cycle_134 : decode cd_M_cycle 134 = .ok (.iload 9, 2) := by decide +kernel
theorem dc_M_cycle_136 : decode cd_M_cycle 136 = .ok (.bipush 12, 2) := by decide +kernel
theorem dc_M_cycle_138 : decode cd_M_cycle 138 = .ok (.if_icmp .ge 38, 3) := by decide +kernel
theorem dc_M_cycle_141 : decode cd_M_cycle 141 = .ok (.iload 9, 2) := by decide +kernel
theorem dc_M_cycle_143 : decode cd_M_cycle 143 = .ok (.iload 8, 2) := by decide +kernel
theorem dc_M_cycle_145 : decode cd_M_cycle 145 = .ok (.if_icmp .eq 25, 3) := by decide +kernel
theorem dc_M_cycle_148 : decode cd_M_cycle 148 = .ok (.aload_n 0, 1) := by decide +kernel
theorem dc_M_cycle_149 : decode cd_M_cycle 149 = .ok (.getfield 62, 3) := by decide +kernel
theorem dc_M_cycle_152 : decode cd_M_cycle 152 = .ok (.iload 9, 2) := by decide +kernel
theorem dc_M_cycle_154 : decode cd_M_cycle 154 = .ok (.iaload, 1) := by decide +kernel
theorem dc_M_cycle_155 : decode cd_M_cycle 155 = .ok (.iload_n 1, 1) := by decide +kernel
theorem dc_M_cycle_156 : decode cd_M_cycle 156 = .ok (.if_icmp .ne 14, 3) := by decide +kernel
theorem dc_M_cycle_159 : decode cd_M_cycle 159 = .ok (.aload_n 0, 1) := by decide +kernel
theorem dc_M_cycle_160 : decode cd_M_cycle 160 = .ok (.getfield 23, 3) := by decide +kernel
theorem dc_M_cycle_163 : decode cd_M_cycle 163 = .ok (.iload 9, 2) := by decide +kernel
theorem dc_M_cycle_165 : decode cd_M_cycle 165 = .ok (.dup2, 1) := by decide +kernel
theorem dc_M_cycle_166 : decode cd_M_cycle 166 = .ok (.iaload, 1) := by decide +kernel
theorem dc_M_cycle_167 : decode cd_M_cycle 167 = .ok (.iconst 1, 1) := by decide +kernel
theorem dc_M_cycle_168 : decode cd_M_cycle 168 = .ok (.iadd, 1) := by decide +kernel
theorem dc_M_cycle_169 : decode cd_M_cycle 169 = .ok (.iastore, 1) := by decide +kernel
theorem dc_M_cycle_170 : decode cd_M_cycle 170 = .ok (.iinc 9 1, 3) := by decide +kernel
theorem dc_M_cycle_173 : decode cd_M_cycle 173 = .ok (.goto (-39), 3) := by decide +kernel
theorem dc_M_cycle_176 : decode cd_M_cycle 176 = .ok (.iinc 7 1, 3) := by decide +kernel
theorem dc_M_cycle_179 : decode cd_M_cycle 179 = .ok (.goto (-134), 3) := by decide +kernel
theorem dc_M_cycle_182 : decode cd_M_cycle 182 = .ok (.return_, 1) := by decide +kernel
theorem dc_M_tickBus_0 : decode cd_M_tickBus 0 = .ok (.aload_n 0, 1) := by decide +kernel
theorem dc_M_tickBus_1 : decode cd_M_tickBus 1 = .ok (.iload_n 1, 1) := by decide +kernel
theorem dc_M_tickBus_2 : decode cd_M_tickBus 2 = .ok (.invokevirtual 209, 3) := by decide +kernel
theorem dc_M_tickBus_5 : decode cd_M_tickBus 5 = .ok (.ifCond .eq 11, 3) := by decide +kernel
theorem dc_M_tickBus_8 : decode cd_M_tickBus 8 = .ok (.aload_n 0, 1) := by decide +kernel
theorem dc_M_tickBus_9 : decode cd_M_tickBus 9 = .ok (.iload_n 1, 1) := by decide +kernel
theorem dc_M_tickBus_10 : decode cd_M_tickBus 10 = .ok (.invokevirtual 212, 3) := by decide +kernel
theorem dc_M_tickBus_13 : decode cd_M_tickBus 13 = .ok (.goto 45, 3) := by decide +kernel
theorem dc_M_tickBus_16 : decode cd_M_tickBus 16 = .ok (.aload_n 0, 1) := by decide +kernel
theorem dc_M_tickBus_17 : decode cd_M_tickBus 17 = .ok (.getfield 44, 3) := by decide +kernel
theorem dc_M_tickBus_20 : decode cd_M_tickBus 20 = .ok (.iload_n 1, 1) := by decide +kernel
theorem dc_M_tickBus_21 : decode cd_M_tickBus 21 = .ok (.baload, 1) := by decide +kernel
theorem dc_M_tickBus_22 : decode cd_M_tickBus 22 = .ok (.ifCond .eq 4, 3) := by decide +kernel
theorem dc_M_tickBus_25 : decode cd_M_tickBus 25 = .ok (.return_, 1) := by decide +kernel
theorem dc_M_tickBus_26 : decode cd_M_tickBus 26 = .ok (.aload_n 0, 1) := by decide +kernel
theorem dc_M_tickBus_27 : decode cd_M_tickBus 27 = .ok (.getfield 136, 3) := by decide +kernel
theorem dc_M_tickBus_30 : decode cd_M_tickBus 30 = .ok (.bipush 8, 2) := by decide +kernel
theorem dc_M_tickBus_32 : decode cd_M_tickBus 32 = .ok (.irem, 1) := by decide +kernel
theorem dc_M_tickBus_33 : decode cd_M_tickBus 33 = .ok (.ifCond .ne 20, 3) := by decide +kernel
theorem dc_M_tickBus_36 : decode cd_M_tickBus 36 = .ok (.aload_n 0, 1) := by decide +kernel
theorem dc_M_tickBus_37 : decode cd_M_tickBus 37 = .ok (.getfield 59, 3) := by decide +kernel
theorem dc_M_tickBus_40 : decode cd_M_tickBus 40 = .ok (.iload_n 1, 1) := by decide +kernel
theorem dc_M_tickBus_41 : decode cd_M_tickBus 41 = .ok (.iaload, 1) := by decide +kernel
theorem dc_M_tickBus_42 : decode cd_M_tickBus 42 = .ok (.ifCond .lt 11, 3) := by decide +kernel
theorem dc_M_tickBus_45 : decode cd_M_tickBus 45 = .ok (.aload_n 0, 1) := by decide +kernel
theorem dc_M_tickBus_46 : decode cd_M_tickBus 46 = .ok (.iload_n 1, 1) := by decide +kernel
theorem dc_M_tickBus_47 : decode cd_M_tickBus 47 = .ok (.invokevirtual 215, 3) := by decide +kernel
theorem dc_M_tickBus_50 : decode cd_M_tickBus 50 = .ok (.goto 8, 3) := by decide +kernel
theorem dc_M_tickBus_53 : decode cd_M_tickBus 53 = .ok (.aload_n 0, 1) := by decide +kernel
theorem dc_M_tickBus_54 : decode cd_M_tickBus 54 = .ok (.iload_n 1, 1) := by decide +kernel
theorem dc_M_tickBus_55 : decode cd_M_tickBus 55 = .ok (.invokevirtual 218, 3) := by decide +kernel
theorem dc_M_tickBus_58 : decode cd_M_tickBus 58 = .ok (.return_, 1) := by decide +kernel
theorem dc_M_comeLate_0 : decode cd_M_comeLate 0 = .ok (.iconst 0, 1) := by decide +kernel
theorem dc_M_comeLate_1 : decode cd_M_comeLate 1 = .ok (.istore_n 1, 1) := by decide +kernel
theorem dc_M_comeLate_2 : decode cd_M_comeLate 2 = .ok (.iload_n 1, 1) := by decide +kernel
theorem dc_M_comeLate_3 : decode cd_M_comeLate 3 = .ok (.bipush 48, 2) := by decide +kernel
theorem dc_M_comeLate_5 : decode cd_M_comeLate 5 = .ok (.if_icmp .ge 105, 3) := by decide +kernel
theorem dc_M_comeLate_8 : decode cd_M_comeLate 8 = .ok (.aload_n 0, 1) := by decide +kernel
theorem dc_M_comeLate_9 : decode cd_M_comeLate 9 = .ok (.getfield 68, 3) := by decide +kernel
theorem dc_M_comeLate_12 : decode cd_M_comeLate 12 = .ok (.iload_n 1, 1) := by decide +kernel
theorem dc_M_comeLate_13 : decode cd_M_comeLate 13 = .ok (.iaload, 1) := by decide +kernel
theorem dc_M_comeLate_14 : decode cd_M_comeLate 14 = .ok (.iconst (-1), 1) := by decide +kernel
theorem dc_M_comeLate_15 : decode cd_M_comeLate 15 = .ok (.if_icmp .ne 89, 3) := by decide +kernel
theorem dc_M_comeLate_18 : decode cd_M_comeLate 18 = .ok (.aload_n 0, 1) := by decide +kernel
theorem dc_M_comeLate_19 : decode cd_M_comeLate 19 = .ok (.getfield 89, 3) := by decide +kernel
theorem dc_M_comeLate_22 : decode cd_M_comeLate 22 = .ok (.iload_n 1, 1) := by decide +kernel
theorem dc_M_comeLate_23 : decode cd_M_comeLate 23 = .ok (.iaload, 1) := by decide +kernel
theorem dc_M_comeLate_24 : decode cd_M_comeLate 24 = .ok (.aload_n 0, 1) := by decide +kernel
theorem dc_M_comeLate_25 : decode cd_M_comeLate 25 = .ok (.getfield 136, 3) := by decide +kernel
theorem dc_M_comeLate_28 : decode cd_M_comeLate 28 = .ok (.if_icmp .eq 6, 3) := by decide +kernel
theorem dc_M_comeLate_31 : decode cd_M_comeLate 31 = .ok (.goto 73, 3) := by decide +kernel
theorem dc_M_comeLate_34 : decode cd_M_comeLate 34 = .ok (.aload_n 0, 1) := by decide +kernel
theorem dc_M_comeLate_35 : decode cd_M_comeLate 35 = .ok (.getfield 68, 3) := by decide +kernel
theorem dc_M_comeLate_38 : decode cd_M_comeLate 38 = .ok (.iload_n 1, 1) := by decide +kernel
theorem dc_M_comeLate_39 : decode cd_M_comeLate 39 = .ok (.iconst 4, 1) := by decide +kernel
theorem dc_M_comeLate_40 : decode cd_M_comeLate 40 = .ok (.iastore, 1) := by decide +kernel
theorem dc_M_comeLate_41 : decode cd_M_comeLate 41 = .ok (.iload_n 1, 1) := by decide +kernel
theorem dc_M_comeLate_42 : decode cd_M_comeLate 42 = .ok (.iconst 4, 1) := by decide +kernel
theorem dc_M_comeLate_43 : decode cd_M_comeLate 43 = .ok (.idiv, 1) := by decide +kernel
theorem dc_M_comeLate_44 : decode cd_M_comeLate 44 = .ok (.istore_n 2, 1) := by decide +kernel
theorem dc_M_comeLate_45 : decode cd_M_comeLate 45 = .ok (.aload_n 0, 1) := by decide +kernel
theorem dc_M_comeLate_46 : decode cd_M_comeLate 46 = .ok (.getfield 110, 3) := by decide +kernel
theorem dc_M_comeLate_49 : decode cd_M_comeLate 49 = .ok (.iload_n 2, 1) := by decide +kernel
theorem dc_M_comeLate_50 : decode cd_M_comeLate 50 = .ok (.iaload, 1) := by decide +kernel
theorem dc_M_comeLate_51 : decode cd_M_comeLate 51 = .ok (.iconst 1, 1) := by decide +kernel
theorem dc_M_comeLate_52 : decode cd_M_comeLate 52 = .ok (.isub, 1) := by decide +kernel
theorem dc_M_comeLate_53 : decode cd_M_comeLate 53 = .ok (.istore_n 3, 1) := by decide +kernel
theorem dc_M_comeLate_54 : decode cd_M_comeLate 54 = .ok (.iload_n 3, 1) := by decide +kernel
theorem dc_M_comeLate_55 : decode cd_M_comeLate 55 = .ok (.ifCond .lt 49, 3) := by decide +kernel
theorem dc_M_comeLate_58 : decode cd_M_comeLate 58 = .ok (.aload_n 0, 1) := by decide +kernel
theorem dc_M_comeLate_59 : decode cd_M_comeLate 59 = .ok (.getfield 107, 3) := by decide +kernel
theorem dc_M_comeLate_62 : decode cd_M_comeLate 62 = .ok (.bipush 6, 2) := by decide +kernel
theorem dc_M_comeLate_64 : decode cd_M_comeLate 64 = .ok (.iload_n 2, 1) := by decide +kernel
theorem dc_M_comeLate_65 : decode cd_M_comeLate 65 = .ok (.imul, 1) := by decide +kernel
theorem dc_M_comeLate_66 : decode cd_M_comeLate 66 = .ok (.iload_n 3, 1) := by decide +kernel
theorem dc_M_comeLate_67 : decode cd_M_comeLate 67 = .ok (.iadd, 1) := by decide +kernel
theorem dc_M_comeLate_68 : decode cd_M_comeLate 68 = .ok (.baload, 1) := by decide +kernel
theorem dc_M_comeLate_69 : decode cd_M_comeLate 69 = .ok (.ifCond .ne 29, 3) := by decide +kernel
theorem dc_M_comeLate_72 : decode cd_M_comeLate 72 = .ok (.aload_n 0, 1) := by decide +kernel
theorem dc_M_comeLate_73 : decode cd_M_comeLate 73 = .ok (.getfield 98, 3) := by decide +kernel
theorem dc_M_comeLate_76 : decode cd_M_comeLate 76 = .ok (.bipush 6, 2) := by decide +kernel
theorem dc_M_comeLate_78 : decode cd_M_comeLate 78 = .ok (.iload_n 2, 1) := by decide +kernel
theorem dc_M_comeLate_79 : decode cd_M_comeLate 79 = .ok (.imul, 1) := by decide +kernel
theorem dc_M_comeLate_80 : decode cd_M_comeLate 80 = .ok (.iload_n 3, 1) := by decide +kernel
theorem dc_M_comeLate_81 : decode cd_M_comeLate 81 = .ok (.iadd, 1) := by decide +kernel
theorem dc_M_comeLate_82 : decode cd_M_comeLate 82 = .ok (.iaload, 1) := by decide +kernel
theorem dc_M_comeLate_83 : decode cd_M_comeLate 83 = .ok (.aload_n 0, 1) := by decide +kernel
theorem dc_M_comeLate_84 : decode cd_M_comeLate 84 = .ok (.getfield 92, 3) := by decide +kernel
theorem dc_M_comeLate_87 : decode cd_M_comeLate 87 = .ok (.iload_n 1, 1) := by decide +kernel
theorem dc_M_comeLate_88 : decode cd_M_comeLate 88 = .ok (.iaload, 1) := by decide +kernel
theorem dc_M_comeLate_89 : decode cd_M_comeLate 89 = .ok (.if_icmp .ne 9, 3) := by decide +kernel
theorem dc_M_comeLate_92 : decode cd_M_comeLate 92 = .ok (.aload_n 0, 1) := by decide +kernel
theorem dc_M_comeLate_93 : decode cd_M_comeLate 93 = .ok (.iload_n 2, 1) := by decide +kernel
theorem dc_M_comeLate_94 : decode cd_M_comeLate 94 = .ok (.iload_n 3, 1) := by decide +kernel
theorem dc_M_comeLate_95 : decode cd_M_comeLate 95 = .ok (.invokevirtual 146, 3) := by decide +kernel
theorem dc_M_comeLate_98 : decode cd_M_comeLate 98 = .ok (.iinc 3 (-1), 3) := by decide +kernel
theorem dc_M_comeLate_101 : decode cd_M_comeLate 101 = .ok (.goto (-47), 3) := by decide +kernel
theorem dc_M_comeLate_104 : decode cd_M_comeLate 104 = .ok (.iinc 1 1, 3) := by decide +kernel
theorem dc_M_comeLate_107 : decode cd_M_comeLate 107 = .ok (.goto (-105), 3) := by decide +kernel
theorem dc_M_comeLate_110 : decode cd_M_comeLate 110 = .ok (.return_, 1) := by decide +kernel
theorem dc_M_tick_0 : decode cd_M_tick 0 = .ok (.aload_n 0, 1) := by decide +kernel
theorem dc_M_tick_1 : decode cd_M_tick 1 = .ok (.iconst 0, 1) := by decide +kernel
theorem dc_M_tick_2 : decode cd_M_tick 2 = .ok (.putfield 117, 3) := by decide +kernel
theorem dc_M_tick_5 : decode cd_M_tick 5 = .ok (.iload_n 1, 1) := by decide +kernel
theorem dc_M_tick_6 : decode cd_M_tick 6 = .ok (.iconst 1, 1) := by decide +kernel
theorem dc_M_tick_7 : decode cd_M_tick 7 = .ok (.if_icmp .lt 9, 3) := by decide +kernel
theorem dc_M_tick_10 : decode cd_M_tick 10 = .ok (.iload_n 1, 1) := by decide +kernel
theorem dc_M_tick_11 : decode cd_M_tick 11 = .ok (.bipush 50, 2) := by decide +kernel
theorem dc_M_tick_13 : decode cd_M_tick 13 = .ok (.if_icmp .le 9, 3) := by decide +kernel
theorem dc_M_tick_16 : decode cd_M_tick 16 = .ok (.aload_n 0, 1) := by decide +kernel
theorem dc_M_tick_17 : decode cd_M_tick 17 = .ok (.iconst 1, 1) := by decide +kernel
theorem dc_M_tick_18 : decode cd_M_tick 18 = .ok (.invokevirtual 124, 3) := by decide +kernel
theorem dc_M_tick_21 : decode cd_M_tick 21 = .ok (.ireturn, 1) := by decide +kernel
theorem dc_M_tick_22 : decode cd_M_tick 22 = .ok (.aload_n 0, 1) := by decide +kernel
theorem dc_M_tick_23 : decode cd_M_tick 23 = .ok (.invokevirtual 221, 3) := by decide +kernel
theorem dc_M_tick_26 : decode cd_M_tick 26 = .ok (.iconst 0, 1) := by decide +kernel
theorem dc_M_tick_27 : decode cd_M_tick 27 = .ok (.istore_n 2, 1) := by decide +kernel
theorem dc_M_tick_28 : decode cd_M_tick 28 = .ok (.iload_n 2, 1) := by decide +kernel
theorem dc_M_tick_29 : decode cd_M_tick 29 = .ok (.iload_n 1, 1) := by decide +kernel
theorem dc_M_tick_30 : decode cd_M_tick 30 = .ok (.if_icmp .ge 52, 3) := by decide +kernel
theorem dc_M_tick_33 : decode cd_M_tick 33 = .ok (.iconst 0, 1) := by decide +kernel
theorem dc_M_tick_34 : decode cd_M_tick 34 = .ok (.istore_n 3, 1) := by decide +kernel
theorem dc_M_tick_35 : decode cd_M_tick 35 = .ok (.iload_n 3, 1) := by decide +kernel
theorem dc_M_tick_36 : decode cd_M_tick 36 = .ok (.bipush 12, 2) := by decide +kernel
theorem dc_M_tick_38 : decode cd_M_tick 38 = .ok (.if_icmp .ge 24, 3) := by decide +kernel
theorem dc_M_tick_41 : decode cd_M_tick 41 = .ok (.aload_n 0, 1) := by decide +kernel
theorem dc_M_tick_42 : decode cd_M_tick 42 = .ok (.getfield 62, 3) := by decide +kernel
theorem dc_M_tick_45 : decode cd_M_tick 45 = .ok (.iload_n 3, 1) := by decide +kernel
theorem dc_M_tick_46 : decode cd_M_tick 46 = .ok (.iaload, 1) := by decide +kernel
theorem dc_M_tick_47 : decode cd_M_tick 47 = .ok (.iload_n 3, 1) := by decide +kernel
theorem dc_M_tick_48 : decode cd_M_tick 48 = .ok (.if_icmp .ne 8, 3) := by decide +kernel
theorem dc_M_tick_51 : decode cd_M_tick 51 = .ok (.aload_n 0, 1) := by decide +kernel
theorem dc_M_tick_52 : decode cd_M_tick 52 = .ok (.iload_n 3, 1) := by decide +kernel
theorem dc_M_tick_53 : decode cd_M_tick 53 = .ok (.invokevirtual 224, 3) := by decide +kernel
theorem dc_M_tick_56 : decode cd_M_tick 56 = .ok (.iinc 3 1, 3) := by decide +kernel
theorem dc_M_tick_59 : decode cd_M_tick 59 = .ok (.goto (-24), 3) := by decide +kernel
theorem dc_M_tick_62 : decode cd_M_tick 62 = .ok (.aload_n 0, 1) := by decide +kernel
theorem dc_M_tick_63 : decode cd_M_tick 63 = .ok (.dup, 1) := by decide +kernel
theorem dc_M_tick_64 : decode cd_M_tick 64 = .ok (.getfield 136, 3) := by decide +kernel
theorem dc_M_tick_67 : decode cd_M_tick 67 = .ok (.iconst 1, 1) := by decide +kernel
theorem dc_M_tick_68 : decode cd_M_tick 68 = .ok (.iadd, 1) := by decide +kernel
theorem dc_M_tick_69 : decode cd_M_tick 69 = .ok (.putfield 136, 3) := by decide +kernel
theorem dc_M_tick_72 : decode cd_M_tick 72 = .ok (.aload_n 0, 1) := by decide +kernel
theorem dc_M_tick_73 : decode cd_M_tick 73 = .ok (.invokevirtual 227, 3) := by decide +kernel
theorem dc_M_tick_76 : decode cd_M_tick 76 = .ok (.iinc 2 1, 3) := by decide +kernel
theorem dc_M_tick_79 : decode cd_M_tick 79 = .ok (.goto (-51), 3) := by decide +kernel
theorem dc_M_tick_82 : decode cd_M_tick 82 = .ok (.aload_n 0, 1) := by decide +kernel
theorem dc_M_tick_83 : decode cd_M_tick 83 = .ok (.getfield 136, 3) := by decide +kernel
theorem dc_M_tick_86 : decode cd_M_tick 86 = .ok (.ireturn, 1) := by decide +kernel
theorem dc_M_talk_0 : decode cd_M_talk 0 = .ok (.aload_n 0, 1) := by decide +kernel
theorem dc_M_talk_1 : decode cd_M_talk 1 = .ok (.iconst 0, 1) := by decide +kernel
theorem dc_M_talk_2 : decode cd_M_talk 2 = .ok (.putfield 117, 3) := by decide +kernel
theorem dc_M_talk_5 : decode cd_M_talk 5 = .ok (.iload_n 1, 1) := by decide +kernel
theorem dc_M_talk_6 : decode cd_M_talk 6 = .ok (.bipush 12, 2) := by decide +kernel
theorem dc_M_talk_8 : decode cd_M_talk 8 = .ok (.invokestatic 120, 3) := by decide +kernel
theorem dc_M_talk_11 : decode cd_M_talk 11 = .ok (.ifCond .eq 11, 3) := by decide +kernel
theorem dc_M_talk_14 : decode cd_M_talk 14 = .ok (.aload_n 0, 1) := by decide +kernel
theorem dc_M_talk_15 : decode cd_M_talk 15 = .ok (.iconst 1, 1) := by decide +kernel
theorem dc_M_talk_16 : decode cd_M_talk 16 = .ok (.putfield 117, 3) := by decide +kernel
theorem dc_M_talk_19 : decode cd_M_talk 19 = .ok (.goto 43, 3) := by decide +kernel
theorem dc_M_talk_22 : decode cd_M_talk 22 = .ok (.iload_n 2, 1) := by decide +kernel
theorem dc_M_talk_23 : decode cd_M_talk 23 = .ok (.bipush 32, 2) := by decide +kernel
theorem dc_M_talk_25 : decode cd_M_talk 25 = .ok (.invokestatic 120, 3) := by decide +kernel
theorem dc_M_talk_28 : decode cd_M_talk 28 = .ok (.ifCond .ne 12, 3) := by decide +kernel
theorem dc_M_talk_31 : decode cd_M_talk 31 = .ok (.iload_n 3, 1) := by decide +kernel
theorem dc_M_talk_32 : decode cd_M_talk 32 = .ok (.bipush 101, 2) := by decide +kernel
theorem dc_M_talk_34 : decode cd_M_talk 34 = .ok (.invokestatic 120, 3) := by decide +kernel
theorem dc_M_talk_37 : decode cd_M_talk 37 = .ok (.ifCond .eq 11, 3) := by decide +kernel
theorem dc_M_talk_40 : decode cd_M_talk 40 = .ok (.aload_n 0, 1) := by decide +kernel
theorem dc_M_talk_41 : decode cd_M_talk 41 = .ok (.iconst 2, 1) := by decide +kernel
theorem dc_M_talk_42 : decode cd_M_talk 42 = .ok (.putfield 117, 3) := by decide +kernel
theorem dc_M_talk_45 : decode cd_M_talk 45 = .ok (.goto 17, 3) := by decide +kernel
theorem dc_M_talk_48 : decode cd_M_talk 48 = .ok (.aload_n 0, 1) := by decide +kernel
theorem dc_M_talk_49 : decode cd_M_talk 49 = .ok (.getfield 26, 3) := by decide +kernel
theorem dc_M_talk_52 : decode cd_M_talk 52 = .ok (.iload_n 1, 1) := by decide +kernel
theorem dc_M_talk_53 : decode cd_M_talk 53 = .ok (.iload_n 2, 1) := by decide +kernel
theorem dc_M_talk_54 : decode cd_M_talk 54 = .ok (.iastore, 1) := by decide +kernel
theorem dc_M_talk_55 : decode cd_M_talk 55 = .ok (.aload_n 0, 1) := by decide +kernel
theorem dc_M_talk_56 : decode cd_M_talk 56 = .ok (.getfield 29, 3) := by decide +kernel
theorem dc_M_talk_59 : decode cd_M_talk 59 = .ok (.iload_n 1, 1) := by decide +kernel
theorem dc_M_talk_60 : decode cd_M_talk 60 = .ok (.iload_n 3, 1) := by decide +kernel
theorem dc_M_talk_61 : decode cd_M_talk 61 = .ok (.iastore, 1) := by decide +kernel
theorem dc_M_talk_62 : decode cd_M_talk 62 = .ok (.return_, 1) := by decide +kernel
theorem dc_M_time_0 : decode cd_M_time 0 = .ok (.aload_n 0, 1) := by decide +kernel
theorem dc_M_time_1 : decode cd_M_time 1 = .ok (.iconst 0, 1) := by decide +kernel
theorem dc_M_time_2 : decode cd_M_time 2 = .ok (.putfield 117, 3) := by decide +kernel
theorem dc_M_time_5 : decode cd_M_time 5 = .ok (.iload_n 1, 1) := by decide +kernel
theorem dc_M_time_6 : decode cd_M_time 6 = .ok (.iconst 2, 1) := by decide +kernel
theorem dc_M_time_7 : decode cd_M_time 7 = .ok (.if_icmp .lt 9, 3) := by decide +kernel
theorem dc_M_time_10 : decode cd_M_time 10 = .ok (.iload_n 1, 1) := by decide +kernel
theorem dc_M_time_11 : decode cd_M_time 11 = .ok (.bipush 60, 2) := by decide +kernel
theorem dc_M_time_13 : decode cd_M_time 13 = .ok (.if_icmp .le 11, 3) := by decide +kernel
theorem dc_M_time_16 : decode cd_M_time 16 = .ok (.aload_n 0, 1) := by decide +kernel
theorem dc_M_time_17 : decode cd_M_time 17 = .ok (.iconst 1, 1) := by decide +kernel
theorem dc_M_time_18 : decode cd_M_time 18 = .ok (.putfield 117, 3) := by decide +kernel
theorem dc_M_time_21 : decode cd_M_time 21 = .ok (.goto 8, 3) := by decide +kernel
theorem dc_M_time_24 : decode cd_M_time 24 = .ok (.aload_n 0, 1) := by decide +kernel
theorem dc_M_time_25 : decode cd_M_time 25 = .ok (.iload_n 1, 1) := by decide +kernel
theorem dc_M_time_26 : decode cd_M_time 26 = .ok (.putfield 113, 3) := by decide +kernel
theorem dc_M_time_29 : decode cd_M_time 29 = .ok (.return_, 1) := by decide +kernel
theorem dc_M_ended_0 : decode cd_M_ended 0 = .ok (.aload_n 0, 1) := by decide +kernel
theorem dc_M_ended_1 : decode cd_M_ended 1 = .ok (.iconst 0, 1) := by decide +kernel
theorem dc_M_ended_2 : decode cd_M_ended 2 = .ok (.putfield 117, 3) := by decide +kernel
theorem dc_M_ended_5 : decode cd_M_ended 5 = .ok (.iload_n 1, 1) := by decide +kernel
theorem dc_M_ended_6 : decode cd_M_ended 6 = .ok (.bipush 12, 2) := by decide +kernel
theorem dc_M_ended_8 : decode cd_M_ended 8 = .ok (.invokestatic 120, 3) := by decide +kernel
theorem dc_M_ended_11 : decode cd_M_ended 11 = .ok (.ifCond .eq 9, 3) := by decide +kernel
theorem dc_M_ended_14 : decode cd_M_ended 14 = .ok (.aload_n 0, 1) := by decide +kernel
theorem dc_M_ended_15 : decode cd_M_ended 15 = .ok (.iconst 1, 1) := by decide +kernel
theorem dc_M_ended_16 : decode cd_M_ended 16 = .ok (.invokevirtual 124, 3) := by decide +kernel
theorem dc_M_ended_19 : decode cd_M_ended 19 = .ok (.ireturn, 1) := by decide +kernel
theorem dc_M_ended_20 : decode cd_M_ended 20 = .ok (.iload_n 2, 1) := by decide +kernel
theorem dc_M_ended_21 : decode cd_M_ended 21 = .ok (.iconst 4, 1) := by decide +kernel
theorem dc_M_ended_22 : decode cd_M_ended 22 = .ok (.invokestatic 120, 3) := by decide +kernel
theorem dc_M_ended_25 : decode cd_M_ended 25 = .ok (.ifCond .eq 9, 3) := by decide +kernel
theorem dc_M_ended_28 : decode cd_M_ended 28 = .ok (.aload_n 0, 1) := by decide +kernel
theorem dc_M_ended_29 : decode cd_M_ended 29 = .ok (.iconst 2, 1) := by decide +kernel
theorem dc_M_ended_30 : decode cd_M_ended 30 = .ok (.invokevirtual 124, 3) := by decide +kernel
theorem dc_M_ended_33 : decode cd_M_ended 33 = .ok (.ireturn, 1) := by decide +kernel
theorem dc_M_ended_34 : decode cd_M_ended 34 = .ok (.aload_n 0, 1) := by decide +kernel
theorem dc_M_ended_35 : decode cd_M_ended 35 = .ok (.getfield 68, 3) := by decide +kernel
theorem dc_M_ended_38 : decode cd_M_ended 38 = .ok (.iconst 4, 1) := by decide +kernel
theorem dc_M_ended_39 : decode cd_M_ended 39 = .ok (.iload_n 1, 1) := by decide +kernel
theorem dc_M_ended_40 : decode cd_M_ended 40 = .ok (.imul, 1) := by decide +kernel
theorem dc_M_ended_41 : decode cd_M_ended 41 = .ok (.iload_n 2, 1) := by decide +kernel
theorem dc_M_ended_42 : decode cd_M_ended 42 = .ok (.iadd, 1) := by decide +kernel
theorem dc_M_ended_43 : decode cd_M_ended 43 = .ok (.iaload, 1) := by decide +kernel
theorem dc_M_ended_44 : decode cd_M_ended 44 = .ok (.bipush (-2), 2) := by decide +kernel
theorem dc_M_ended_46 : decode cd_M_ended 46 = .ok (.if_icmp .ne 11, 3) := by decide +kernel
theorem dc_M_ended_49 : decode cd_M_ended 49 = .ok (.aload_n 0, 1) := by decide +kernel
theorem dc_M_ended_50 : decode cd_M_ended 50 = .ok (.iconst 3, 1) := by decide +kernel
theorem dc_M_ended_51 : decode cd_M_ended 51 = .ok (.invokevirtual 124, 3) := by decide +kernel
theorem dc_M_ended_54 : decode cd_M_ended 54 = .ok (.goto 13, 3) := by decide +kernel
theorem dc_M_ended_57 : decode cd_M_ended 57 = .ok (.aload_n 0, 1) := by decide +kernel
theorem dc_M_ended_58 : decode cd_M_ended 58 = .ok (.getfield 68, 3) := by decide +kernel
theorem dc_M_ended_61 : decode cd_M_ended 61 = .ok (.iconst 4, 1) := by decide +kernel
theorem dc_M_ended_62 : decode cd_M_ended 62 = .ok (.iload_n 1, 1) := by decide +kernel
theorem dc_M_ended_63 : decode cd_M_ended 63 = .ok (.imul, 1) := by decide +kernel
theorem dc_M_ended_64 : decode cd_M_ended 64 = .ok (.iload_n 2, 1) := by decide +kernel
theorem dc_M_ended_65 : decode cd_M_ended 65 = .ok (.iadd, 1) := by decide +kernel
theorem dc_M_ended_66 : decode cd_M_ended 66 = .ok (.iaload, 1) := by decide +kernel
theorem dc_M_ended_67 : decode cd_M_ended 67 = .ok (.ireturn, 1) := by decide +kernel
theorem dc_M_value_0 : decode cd_M_value 0 = .ok (.aload_n 0, 1) := by decide +kernel
theorem dc_M_value_1 : decode cd_M_value 1 = .ok (.iconst 0, 1) := by decide +kernel
theorem dc_M_value_2 : decode cd_M_value 2 = .ok (.putfield 117, 3) := by decide +kernel
theorem dc_M_value_5 : decode cd_M_value 5 = .ok (.iload_n 1, 1) := by decide +kernel
theorem dc_M_value_6 : decode cd_M_value 6 = .ok (.bipush 12, 2) := by decide +kernel
theorem dc_M_value_8 : decode cd_M_value 8 = .ok (.invokestatic 120, 3) := by decide +kernel
theorem dc_M_value_11 : decode cd_M_value 11 = .ok (.ifCond .eq 9, 3) := by decide +kernel
theorem dc_M_value_14 : decode cd_M_value 14 = .ok (.aload_n 0, 1) := by decide +kernel
theorem dc_M_value_15 : decode cd_M_value 15 = .ok (.iconst 1, 1) := by decide +kernel
theorem dc_M_value_16 : decode cd_M_value 16 = .ok (.invokevirtual 124, 3) := by decide +kernel
theorem dc_M_value_19 : decode cd_M_value 19 = .ok (.ireturn, 1) := by decide +kernel
theorem dc_M_value_20 : decode cd_M_value 20 = .ok (.iload_n 2, 1) := by decide +kernel
theorem dc_M_value_21 : decode cd_M_value 21 = .ok (.iconst 4, 1) := by decide +kernel
theorem dc_M_value_22 : decode cd_M_value 22 = .ok (.invokestatic 120, 3) := by decide +kernel
theorem dc_M_value_25 : decode cd_M_value 25 = .ok (.ifCond .eq 9, 3) := by decide +kernel
theorem dc_M_value_28 : decode cd_M_value 28 = .ok (.aload_n 0, 1) := by decide +kernel
theorem dc_M_value_29 : decode cd_M_value 29 = .ok (.iconst 2, 1) := by decide +kernel
theorem dc_M_value_30 : decode cd_M_value 30 = .ok (.invokevirtual 124, 3) := by decide +kernel
theorem dc_M_value_33 : decode cd_M_value 33 = .ok (.ireturn, 1) := by decide +kernel
theorem dc_M_value_34 : decode cd_M_value 34 = .ok (.aload_n 0, 1) := by decide +kernel
theorem dc_M_value_35 : decode cd_M_value 35 = .ok (.getfield 68, 3) := by decide +kernel
theorem dc_M_value_38 : decode cd_M_value 38 = .ok (.iconst 4, 1) := by decide +kernel
theorem dc_M_value_39 : decode cd_M_value 39 = .ok (.iload_n 1, 1) := by decide +kernel
theorem dc_M_value_40 : decode cd_M_value 40 = .ok (.imul, 1) := by decide +kernel
theorem dc_M_value_41 : decode cd_M_value 41 = .ok (.iload_n 2, 1) := by decide +kernel
theorem dc_M_value_42 : decode cd_M_value 42 = .ok (.iadd, 1) := by decide +kernel
theorem dc_M_value_43 : decode cd_M_value 43 = .ok (.iaload, 1) := by decide +kernel
theorem dc_M_value_44 : decode cd_M_value 44 = .ok (.istore_n 3, 1) := by decide +kernel
theorem dc_M_value_45 : decode cd_M_value 45 = .ok (.iload_n 3, 1) := by decide +kernel
theorem dc_M_value_46 : decode cd_M_value 46 = .ok (.bipush (-2), 2) := by decide +kernel
theorem dc_M_value_48 : decode cd_M_value 48 = .ok (.if_icmp .eq 8, 3) := by decide +kernel
theorem dc_M_value_51 : decode cd_M_value 51 = .ok (.iload_n 3, 1) := by decide +kernel
theorem dc_M_value_52 : decode cd_M_value 52 = .ok (.iconst (-1), 1) := by decide +kernel
theorem dc_M_value_53 : decode cd_M_value 53 = .ok (.if_icmp .ne 9, 3) := by decide +kernel
theorem dc_M_value_56 : decode cd_M_value 56 = .ok (.aload_n 0, 1) := by decide +kernel
theorem dc_M_value_57 : decode cd_M_value 57 = .ok (.iconst 3, 1) := by decide +kernel
theorem dc_M_value_58 : decode cd_M_value 58 = .ok (.invokevirtual 124, 3) := by decide +kernel
theorem dc_M_value_61 : decode cd_M_value 61 = .ok (.ireturn, 1) := by decide +kernel
theorem dc_M_value_62 : decode cd_M_value 62 = .ok (.aload_n 0, 1) := by decide +kernel
theorem dc_M_value_63 : decode cd_M_value 63 = .ok (.getfield 68, 3) := by decide +kernel
theorem dc_M_value_66 : decode cd_M_value 66 = .ok (.iconst 4, 1) := by decide +kernel
theorem dc_M_value_67 : decode cd_M_value 67 = .ok (.iload_n 1, 1) := by decide +kernel
theorem dc_M_value_68 : decode cd_M_value 68 = .ok (.imul, 1) := by decide +kernel
theorem dc_M_value_69 : decode cd_M_value 69 = .ok (.iload_n 2, 1) := by decide +kernel
theorem dc_M_value_70 : decode cd_M_value 70 = .ok (.iadd, 1) := by decide +kernel
theorem dc_M_value_71 : decode cd_M_value 71 = .ok (.bipush (-2), 2) := by decide +kernel
theorem dc_M_value_73 : decode cd_M_value 73 = .ok (.iastore, 1) := by decide +kernel
theorem dc_M_value_74 : decode cd_M_value 74 = .ok (.iload_n 3, 1) := by decide +kernel
theorem dc_M_value_75 : decode cd_M_value 75 = .ok (.ifCond .ne 16, 3) := by decide +kernel
theorem dc_M_value_78 : decode cd_M_value 78 = .ok (.aload_n 0, 1) := by decide +kernel
theorem dc_M_value_79 : decode cd_M_value 79 = .ok (.getfield 86, 3) := by decide +kernel
theorem dc_M_value_82 : decode cd_M_value 82 = .ok (.iconst 4, 1) := by decide +kernel
theorem dc_M_value_83 : decode cd_M_value 83 = .ok (.iload_n 1, 1) := by decide +kernel
theorem dc_M_value_84 : decode cd_M_value 84 = .ok (.imul, 1) := by decide +kernel
theorem dc_M_value_85 : decode cd_M_value 85 = .ok (.iload_n 2, 1) := by decide +kernel
theorem dc_M_value_86 : decode cd_M_value 86 = .ok (.iadd, 1) := by decide +kernel
theorem dc_M_value_87 : decode cd_M_value 87 = .ok (.iaload, 1) := by decide +kernel
theorem dc_M_value_88 : decode cd_M_value 88 = .ok (.goto 8, 3) := by decide +kernel
theorem dc_M_value_91 : decode cd_M_value 91 = .ok (.aload_n 0, 1) := by decide +kernel
theorem dc_M_value_92 : decode cd_M_value 92 = .ok (.iconst 4, 1) := by decide +kernel
theorem dc_M_value_93 : decode cd_M_value 93 = .ok (.invokevirtual 124, 3) := by decide +kernel
theorem dc_M_value_96 : decode cd_M_value 96 = .ok (.ireturn, 1) := by decide +kernel
theorem dc_M_waiting_0 : decode cd_M_waiting 0 = .ok (.iconst 0, 1) := by decide +kernel
theorem dc_M_waiting_1 : decode cd_M_waiting 1 = .ok (.istore_n 2, 1) := by decide +kernel
theorem dc_M_waiting_2 : decode cd_M_waiting 2 = .ok (.iconst 4, 1) := by decide +kernel
theorem dc_M_waiting_3 : decode cd_M_waiting 3 = .ok (.iload_n 1, 1) := by decide +kernel
theorem dc_M_waiting_4 : decode cd_M_waiting 4 = .ok (.imul, 1) := by decide +kernel
theorem dc_M_waiting_5 : decode cd_M_waiting 5 = .ok (.istore_n 3, 1) := by decide +kernel
theorem dc_M_waiting_6 : decode cd_M_waiting 6 = .ok (.iload_n 3, 1) := by decide +kernel
theorem dc_M_waiting_7 : decode cd_M_waiting 7 = .ok (.iconst 4, 1) := by decide +kernel
theorem dc_M_waiting_8 : decode cd_M_waiting 8 = .ok (.iload_n 1, 1) := by decide +kernel
theorem dc_M_waiting_9 : decode cd_M_waiting 9 = .ok (.imul, 1) := by decide +kernel
theorem dc_M_waiting_10 : decode cd_M_waiting 10 = .ok (.iconst 4, 1) := by decide +kernel
theorem dc_M_waiting_11 : decode cd_M_waiting 11 = .ok (.iadd, 1) := by decide +kernel
theorem dc_M_waiting_12 : decode cd_M_waiting 12 = .ok (.if_icmp .ge 22, 3) := by decide +kernel
theorem dc_M_waiting_15 : decode cd_M_waiting 15 = .ok (.aload_n 0, 1) := by decide +kernel
theorem dc_M_waiting_16 : decode cd_M_waiting 16 = .ok (.getfield 68, 3) := by decide +kernel
theorem dc_M_waiting_19 : decode cd_M_waiting 19 = .ok (.iload_n 3, 1) := by decide +kernel
theorem dc_M_waiting_20 : decode cd_M_waiting 20 = .ok (.iaload, 1) := by decide +kernel
theorem dc_M_waiting_21 : decode cd_M_waiting 21 = .ok (.iconst (-1), 1) := by decide +kernel
theorem dc_M_waiting_22 : decode cd_M_waiting 22 = .ok (.if_icmp .ne 6, 3) := by decide +kernel
theorem dc_M_waiting_25 : decode cd_M_waiting 25 = .ok (.iinc 2 1, 3) := by decide +kernel
theorem dc_M_waiting_28 : decode cd_M_waiting 28 = .ok (.iinc 3 1, 3) := by decide +kernel
theorem dc_M_waiting_31 : decode cd_M_waiting 31 = .ok (.goto (-25), 3) := by decide +kernel
theorem dc_M_waiting_34 : decode cd_M_waiting 34 = .ok (.iload_n 2, 1) := by decide +kernel
theorem dc_M_waiting_35 : decode cd_M_waiting 35 = .ok (.ireturn, 1) := by decide +kernel
theorem dc_M_about_0 : decode cd_M_about 0 = .ok (.aload_n 0, 1) := by decide +kernel
theorem dc_M_about_1 : decode cd_M_about 1 = .ok (.iconst 0, 1) := by decide +kernel
theorem dc_M_about_2 : decode cd_M_about 2 = .ok (.putfield 117, 3) := by decide +kernel
theorem dc_M_about_5 : decode cd_M_about 5 = .ok (.iload_n 1, 1) := by decide +kernel
theorem dc_M_about_6 : decode cd_M_about 6 = .ok (.bipush 12, 2) := by decide +kernel
theorem dc_M_about_8 : decode cd_M_about 8 = .ok (.invokestatic 120, 3) := by decide +kernel
theorem dc_M_about_11 : decode cd_M_about 11 = .ok (.ifCond .eq 9, 3) := by decide +kernel
theorem dc_M_about_14 : decode cd_M_about 14 = .ok (.aload_n 0, 1) := by decide +kernel
theorem dc_M_about_15 : decode cd_M_about 15 = .ok (.iconst 1, 1) := by decide +kernel
theorem dc_M_about_16 : decode cd_M_about 16 = .ok (.invokevirtual 124, 3) := by decide +kernel
theorem dc_M_about_19 : decode cd_M_about 19 = .ok (.ireturn, 1) := by decide +kernel
theorem dc_M_about_20 : decode cd_M_about 20 = .ok (.aload_n 0, 1) := by decide +kernel
theorem dc_M_about_21 : decode cd_M_about 21 = .ok (.invokevirtual 221, 3) := by decide +kernel
theorem dc_M_about_24 : decode cd_M_about 24 = .ok (.iload_n 2, 1) := by decide +kernel
theorem dc_M_about_25 : decode cd_M_about 25 = .ok (.tableswitch 147 0 8 #[51, 84, 91, 98, 105, 112, 119, 126, 132], 51) := by decide +kernel
theorem dc_M_about_76 : decode cd_M_about 76 = .ok (.aload_n 0, 1) := by decide +kernel
theorem dc_M_about_77 : decode cd_M_about 77 = .ok (.getfield 44, 3) := by decide +kernel
theorem dc_M_about_80 : decode cd_M_about 80 = .ok (.iload_n 1, 1) := by decide +kernel
theorem dc_M_about_81 : decode cd_M_about 81 = .ok (.baload, 1) := by decide +kernel
theorem dc_M_about_82 : decode cd_M_about 82 = .ok (.ifCond .ne 16, 3) := by decide +kernel
theorem dc_M_about_85 : decode cd_M_about 85 = .ok (.aload_n 0, 1) := by decide +kernel
theorem dc_M_about_86 : decode cd_M_about 86 = .ok (.aload_n 0, 1) := by decide +kernel
theorem dc_M_about_87 : decode cd_M_about 87 = .ok (.getfield 62, 3) := by decide +kernel
theorem dc_M_about_90 : decode cd_M_about 90 = .ok (.iload_n 1, 1) := by decide +kernel
theorem dc_M_about_91 : decode cd_M_about 91 = .ok (.iaload, 1) := by decide +kernel
theorem dc_M_about_92 : decode cd_M_about 92 = .ok (.invokevirtual 209, 3) := by decide +kernel
theorem dc_M_about_95 : decode cd_M_about 95 = .ok (.ifCond .eq 7, 3) := by decide +kernel
theorem dc_M_about_98 : decode cd_M_about 98 = .ok (.iconst (-1), 1) := by decide +kernel
theorem dc_M_about_99 : decode cd_M_about 99 = .ok (.goto 9, 3) := by decide +kernel
theorem dc_M_about_102 : decode cd_M_about 102 = .ok (.aload_n 0, 1) := by decide +kernel
theorem dc_M_about_103 : decode cd_M_about 103 = .ok (.getfield 53, 3) := by decide +kernel
theorem dc_M_about_106 : decode cd_M_about 106 = .ok (.iload_n 1, 1) := by decide +kernel
theorem dc_M_about_107 : decode cd_M_about 107 = .ok (.iaload, 1) := by decide +kernel
theorem dc_M_about_108 : decode cd_M_about 108 = .ok (.ireturn, 1) := by decide +kernel
theorem dc_M_about_109 : decode cd_M_about 109 = .ok (.aload_n 0, 1) := by decide +kernel
theorem dc_M_about_110 : decode cd_M_about 110 = .ok (.getfield 50, 3) := by decide +kernel
theorem dc_M_about_113 : decode cd_M_about 113 = .ok (.iload_n 1, 1) := by decide +kernel
theorem dc_M_about_114 : decode cd_M_about 114 = .ok (.iaload, 1) := by decide +kernel
theorem dc_M_about_115 : decode cd_M_about 115 = .ok (.ireturn, 1) := by decide +kernel
theorem dc_M_about_116 : decode cd_M_about 116 = .ok (.aload_n 0, 1) := by decide +kernel
theorem dc_M_about_117 : decode cd_M_about 117 = .ok (.getfield 56, 3) := by decide +kernel
theorem dc_M_about_120 : decode cd_M_about 120 = .ok (.iload_n 1, 1) := by decide +kernel
theorem dc_M_about_121 : decode cd_M_about 121 = .ok (.iaload, 1) := by decide +kernel
theorem dc_M_about_122 : decode cd_M_about 122 = .ok (.ireturn, 1) := by decide +kernel
theorem dc_M_about_123 : decode cd_M_about 123 = .ok (.aload_n 0, 1) := by decide +kernel
theorem dc_M_about_124 : decode cd_M_about 124 = .ok (.getfield 59, 3) := by decide +kernel
theorem dc_M_about_127 : decode cd_M_about 127 = .ok (.iload_n 1, 1) := by decide +kernel
theorem dc_M_about_128 : decode cd_M_about 128 = .ok (.iaload, 1) := by decide +kernel
theorem dc_M_about_129 : decode cd_M_about 129 = .ok (.ireturn, 1) := by decide +kernel
theorem dc_M_about_130 : decode cd_M_about 130 = .ok (.aload_n 0, 1) := by decide +kernel
theorem dc_M_about_131 : decode cd_M_about 131 = .ok (.getfield 110, 3) := by decide +kernel
theorem dc_M_about_134 : decode cd_M_about 134 = .ok (.iload_n 1, 1) := by decide +kernel
theorem dc_M_about_135 : decode cd_M_about 135 = .ok (.iaload, 1) := by decide +kernel
theorem dc_M_about_136 : decode cd_M_about 136 = .ok (.ireturn, 1) := by decide +kernel
theorem dc_M_about_137 : decode cd_M_about 137 = .ok (.aload_n 0, 1) := by decide +kernel
theorem dc_M_about_138 : decode cd_M_about 138 = .ok (.getfield 23, 3) := by decide +kernel
theorem dc_M_about_141 : decode cd_M_about 141 = .ok (.iload_n 1, 1) := by decide +kernel
theorem dc_M_about_142 : decode cd_M_about 142 = .ok (.iaload, 1) := by decide +kernel
theorem dc_M_about_143 : decode cd_M_about 143 = .ok (.ireturn, 1) := by decide +kernel
theorem dc_M_about_144 : decode cd_M_about 144 = .ok (.aload_n 0, 1) := by decide +kernel
theorem dc_M_about_145 : decode cd_M_about 145 = .ok (.getfield 20, 3) := by decide +kernel
theorem dc_M_about_148 : decode cd_M_about 148 = .ok (.iload_n 1, 1) := by decide +kernel
theorem dc_M_about_149 : decode cd_M_about 149 = .ok (.iaload, 1) := by decide +kernel
theorem dc_M_about_150 : decode cd_M_about 150 = .ok (.ireturn, 1) := by decide +kernel
theorem dc_M_about_151 : decode cd_M_about 151 = .ok (.aload_n 0, 1) := by decide +kernel
theorem dc_M_about_152 : decode cd_M_about 152 = .ok (.iload_n 1, 1) := by decide +kernel
theorem dc_M_about_153 : decode cd_M_about 153 = .ok (.invokevirtual 230, 3) := by decide +kernel
theorem dc_M_about_156 : decode cd_M_about 156 = .ok (.ireturn, 1) := by decide +kernel
theorem dc_M_about_157 : decode cd_M_about 157 = .ok (.aload_n 0, 1) := by decide +kernel
theorem dc_M_about_158 : decode cd_M_about 158 = .ok (.getfield 38, 3) := by decide +kernel
theorem dc_M_about_161 : decode cd_M_about 161 = .ok (.iload_n 1, 1) := by decide +kernel
theorem dc_M_about_162 : decode cd_M_about 162 = .ok (.baload, 1) := by decide +kernel
theorem dc_M_about_163 : decode cd_M_about 163 = .ok (.ifCond .eq 7, 3) := by decide +kernel
theorem dc_M_about_166 : decode cd_M_about 166 = .ok (.iconst 1, 1) := by decide +kernel
theorem dc_M_about_167 : decode cd_M_about 167 = .ok (.goto 4, 3) := by decide +kernel
theorem dc_M_about_170 : decode cd_M_about 170 = .ok (.iconst 0, 1) := by decide +kernel
theorem dc_M_about_171 : decode cd_M_about 171 = .ok (.ireturn, 1) := by decide +kernel
theorem dc_M_about_172 : decode cd_M_about 172 = .ok (.aload_n 0, 1) := by decide +kernel
theorem dc_M_about_173 : decode cd_M_about 173 = .ok (.iconst 2, 1) := by decide +kernel
theorem dc_M_about_174 : decode cd_M_about 174 = .ok (.invokevirtual 124, 3) := by decide +kernel
theorem dc_M_about_177 : decode cd_M_about 177 = .ok (.ireturn, 1) := by decide +kernel
theorem dc_M_word_0 : decode cd_M_word 0 = .ok (.aload_n 0, 1) := by decide +kernel
theorem dc_M_word_1 : decode cd_M_word 1 = .ok (.iconst 0, 1) := by decide +kernel
theorem dc_M_word_2 : decode cd_M_word 2 = .ok (.putfield 117, 3) := by decide +kernel
theorem dc_M_word_5 : decode cd_M_word 5 = .ok (.iload_n 1, 1) := by decide +kernel
theorem dc_M_word_6 : decode cd_M_word 6 = .ok (.bipush 12, 2) := by decide +kernel
theorem dc_M_word_8 : decode cd_M_word 8 = .ok (.invokestatic 120, 3) := by decide +kernel
theorem dc_M_word_11 : decode cd_M_word 11 = .ok (.ifCond .eq 9, 3) := by decide +kernel
theorem dc_M_word_14 : decode cd_M_word 14 = .ok (.aload_n 0, 1) := by decide +kernel
theorem dc_M_word_15 : decode cd_M_word 15 = .ok (.iconst 1, 1) := by decide +kernel
theorem dc_M_word_16 : decode cd_M_word 16 = .ok (.invokevirtual 124, 3) := by decide +kernel
theorem dc_M_word_19 : decode cd_M_word 19 = .ok (.ireturn, 1) := by decide +kernel
theorem dc_M_word_20 : decode cd_M_word 20 = .ok (.iload_n 2, 1) := by decide +kernel
theorem dc_M_word_21 : decode cd_M_word 21 = .ok (.bipush 8, 2) := by decide +kernel
theorem dc_M_word_23 : decode cd_M_word 23 = .ok (.invokestatic 120, 3) := by decide +kernel
theorem dc_M_word_26 : decode cd_M_word 26 = .ok (.ifCond .eq 11, 3) := by decide +kernel
theorem dc_M_word_29 : decode cd_M_word 29 = .ok (.aload_n 0, 1) := by decide +kernel
theorem dc_M_word_30 : decode cd_M_word 30 = .ok (.iconst 2, 1) := by decide +kernel
theorem dc_M_word_31 : decode cd_M_word 31 = .ok (.invokevirtual 124, 3) := by decide +kernel
theorem dc_M_word_34 : decode cd_M_word 34 = .ok (.goto 14, 3) := by decide +kernel
theorem dc_M_word_37 : decode cd_M_word 37 = .ok (.aload_n 0, 1) := by decide +kernel
theorem dc_M_word_38 : decode cd_M_word 38 = .ok (.getfield 47, 3) := by decide +kernel
theorem dc_M_word_41 : decode cd_M_word 41 = .ok (.bipush 8, 2) := by decide +kernel
theorem dc_M_word_43 : decode cd_M_word 43 = .ok (.iload_n 1, 1) := by decide +kernel
theorem dc_M_word_44 : decode cd_M_word 44 = .ok (.imul, 1) := by decide +kernel
theorem dc_M_word_45 : decode cd_M_word 45 = .ok (.iload_n 2, 1) := by decide +kernel
theorem dc_M_word_46 : decode cd_M_word 46 = .ok (.iadd, 1) := by decide +kernel
theorem dc_M_word_47 : decode cd_M_word 47 = .ok (.iaload, 1) := by decide +kernel
theorem dc_M_word_48 : decode cd_M_word 48 = .ok (.ireturn, 1) := by decide +kernel
theorem dc_M_count_0 : decode cd_M_count 0 = .ok (.aload_n 0, 1) := by decide +kernel
theorem dc_M_count_1 : decode cd_M_count 1 = .ok (.iconst 0, 1) := by decide +kernel
theorem dc_M_count_2 : decode cd_M_count 2 = .ok (.putfield 117, 3) := by decide +kernel
theorem dc_M_count_5 : decode cd_M_count 5 = .ok (.aload_n 0, 1) := by decide +kernel
theorem dc_M_count_6 : decode cd_M_count 6 = .ok (.invokevirtual 221, 3) := by decide +kernel
theorem dc_M_count_9 : decode cd_M_count 9 = .ok (.iconst 0, 1) := by decide +kernel
theorem dc_M_count_10 : decode cd_M_count 10 = .ok (.istore_n 2, 1) := by decide +kernel
theorem dc_M_count_11 : decode cd_M_count 11 = .ok (.iload_n 1, 1) := by decide +kernel
theorem dc_M_count_12 : decode cd_M_count 12 = .ok (.tableswitch 153 0 7 #[48, 53, 82, 87, 92, 97, 102, 107], 48) := by decide +kernel
theorem dc_M_count_60 : decode cd_M_count 60 = .ok (.aload_n 0, 1) := by decide +kernel
theorem dc_M_count_61 : decode cd_M_count 61 = .ok (.invokevirtual 128, 3) := by decide +kernel
theorem dc_M_count_64 : decode cd_M_count 64 = .ok (.ireturn, 1) := by decide +kernel
theorem dc_M_count_65 : decode cd_M_count 65 = .ok (.iconst 0, 1) := by decide +kernel
theorem dc_M_count_66 : decode cd_M_count 66 = .ok (.istore_n 3, 1) := by decide +kernel
theorem dc_M_count_67 : decode cd_M_count 67 = .ok (.iload_n 3, 1) := by decide +kernel
theorem dc_M_count_68 : decode cd_M_count 68 = .ok (.bipush 12, 2) := by decide +kernel
theorem dc_M_count_70 : decode cd_M_count 70 = .ok (.if_icmp .ge 22, 3) := by decide +kernel
theorem dc_M_count_73 : decode cd_M_count 73 = .ok (.aload_n 0, 1) := by decide +kernel
theorem dc_M_count_74 : decode cd_M_count 74 = .ok (.getfield 62, 3) := by decide +kernel
theorem dc_M_count_77 : decode cd_M_count 77 = .ok (.iload_n 3, 1) := by decide +kernel
theorem dc_M_count_78 : decode cd_M_count 78 = .ok (.iaload, 1) := by decide +kernel
theorem dc_M_count_79 : decode cd_M_count 79 = .ok (.iload_n 3, 1) := by decide +kernel
theorem dc_M_count_80 : decode cd_M_count 80 = .ok (.if_icmp .ne 6, 3) := by decide +kernel
theorem dc_M_count_83 : decode cd_M_count 83 = .ok (.iinc 2 1, 3) := by decide +kernel
theorem dc_M_count_86 : decode cd_M_count 86 = .ok (.iinc 3 1, 3) := by decide +kernel
theorem dc_M_count_89 : decode cd_M_count 89 = .ok (.goto (-22), 3) := by decide +kernel
theorem dc_M_count_92 : decode cd_M_count 92 = .ok (.iload_n 2, 1) := by decide +kernel
theorem dc_M_count_93 : decode cd_M_count 93 = .ok (.ireturn, 1) := by decide +kernel
theorem dc_M_count_94 : decode cd_M_count 94 = .ok (.aload_n 0, 1) := by decide +kernel
theorem dc_M_count_95 : decode cd_M_count 95 = .ok (.getfield 136, 3) := by decide +kernel
theorem dc_M_count_98 : decode cd_M_count 98 = .ok (.ireturn, 1) := by decide +kernel
theorem dc_M_count_99 : decode cd_M_count 99 = .ok (.aload_n 0, 1) := by decide +kernel
theorem dc_M_count_100 : decode cd_M_count 100 = .ok (.getfield 174, 3) := by decide +kernel
theorem dc_M_count_103 : decode cd_M_count 103 = .ok (.ireturn, 1) := by decide +kernel
theorem dc_M_count_104 : decode cd_M_count 104 = .ok (.aload_n 0, 1) := by decide +kernel
theorem dc_M_count_105 : decode cd_M_count 105 = .ok (.getfield 150, 3) := by decide +kernel
theorem dc_M_count_108 : decode cd_M_count 108 = .ok (.ireturn, 1) := by decide +kernel
theorem dc_M_count_109 : decode cd_M_count 109 = .ok (.aload_n 0, 1) := by decide +kernel
theorem dc_M_count_110 : decode cd_M_count 110 = .ok (.getfield 206, 3) := by decide +kernel
theorem dc_M_count_113 : decode cd_M_count 113 = .ok (.ireturn, 1) := by decide +kernel
theorem dc_M_count_114 : decode cd_M_count 114 = .ok (.aload_n 0, 1) := by decide +kernel
theorem dc_M_count_115 : decode cd_M_count 115 = .ok (.getfield 198, 3) := by decide +kernel
theorem dc_M_count_118 : decode cd_M_count 118 = .ok (.ireturn, 1) := by decide +kernel
theorem dc_M_count_119 : decode cd_M_count 119 = .ok (.iconst 0, 1) := by decide +kernel
theorem dc_M_count_120 : decode cd_M_count 120 = .ok (.istore_n 3, 1) := by decide +kernel
theorem dc_M_count_121 : decode cd_M_count 121 = .ok (.iload_n 3, 1) := by decide +kernel
theorem dc_M_count_122 : decode cd_M_count 122 = .ok (.bipush 12, 2) := by decide +kernel
theorem dc_M_count_124 : decode cd_M_count 124 = .ok (.if_icmp .ge 39, 3) := by decide +kernel
theorem dc_M_count_127 : decode cd_M_count 127 = .ok (.aload_n 0, 1) := by decide +kernel
theorem dc_M_count_128 : decode cd_M_count 128 = .ok (.getfield 62, 3) := by decide +kernel
theorem dc_M_count_131 : decode cd_M_count 131 = .ok (.iload_n 3, 1) := by decide +kernel
theorem dc_M_count_132 : decode cd_M_count 132 = .ok (.iaload, 1) := by decide +kernel
theorem dc_M_count_133 : decode cd_M_count 133 = .ok (.iload_n 3, 1) := by decide +kernel
theorem dc_M_count_134 : decode cd_M_count 134 = .ok (.if_icmp .ne 23, 3) := by decide +kernel
theorem dc_M_count_137 : decode cd_M_count 137 = .ok (.aload_n 0, 1) := by decide +kernel
theorem dc_M_count_138 : decode cd_M_count 138 = .ok (.getfield 44, 3) := by decide +kernel
theorem dc_M_count_141 : decode cd_M_count 141 = .ok (.iload_n 3, 1) := by decide +kernel
theorem dc_M_count_142 : decode cd_M_count 142 = .ok (.baload, 1) := by decide +kernel
theorem dc_M_count_143 : decode cd_M_count 143 = .ok (.ifCond .eq 14, 3) := by decide +kernel
theorem dc_M_count_146 : decode cd_M_count 146 = .ok (.aload_n 0, 1) := by decide +kernel
theorem dc_M_count_147 : decode cd_M_count 147 = .ok (.iload_n 3, 1) := by decide +kernel
theorem dc_M_count_148 : decode cd_M_count 148 = .ok (.invokevirtual 209, 3) := by decide +kernel
theorem dc_M_count_151 : decode cd_M_count 151 = .ok (.ifCond .ne 6, 3) := by decide +kernel
theorem dc_M_count_154 : decode cd_M_count 154 = .ok (.iinc 2 1, 3) := by decide +kernel
theorem dc_M_count_157 : decode cd_M_count 157 = .ok (.iinc 3 1, 3) := by decide +kernel
theorem dc_M_count_160 : decode cd_M_count 160 = .ok (.goto (-39), 3) := by decide +kernel
theorem dc_M_count_163 : decode cd_M_count 163 = .ok (.iload_n 2, 1) := by decide +kernel
theorem dc_M_count_164 : decode cd_M_count 164 = .ok (.ireturn, 1) := by decide +kernel
theorem dc_M_count_165 : decode cd_M_count 165 = .ok (.iconst (-1), 1) := by decide +kernel
theorem dc_M_count_166 : decode cd_M_count 166 = .ok (.ireturn, 1) := by decide +kernel
