theorem dX9_layFar_47 : decode cX9_layFar 47 = .ok (.iconst 0, 1) := by decide +kernel
theorem dX9_layFar_48 : decode cX9_layFar 48 = .ok (.iastore, 1) := by decide +kernel
theorem dX9_layFar_49 : decode cX9_layFar 49 = .ok (.aload_n 0, 1) := by decide +kernel
theorem dX9_layFar_50 : decode cX9_layFar 50 = .ok (.getfield 66, 3) := by decide +kernel
theorem dX9_layFar_53 : decode cX9_layFar 53 = .ok (.iconst 0, 1) := by decide +kernel
theorem dX9_layFar_54 : decode cX9_layFar 54 = .ok (.iload_n 2, 1) := by decide +kernel
theorem dX9_layFar_55 : decode cX9_layFar 55 = .ok (.iastore, 1) := by decide +kernel
theorem dX9_layFar_56 : decode cX9_layFar 56 = .ok (.iload_n 3, 1) := by decide +kernel
theorem dX9_layFar_57 : decode cX9_layFar 57 = .ok (.iload 4, 2) := by decide +kernel
theorem dX9_layFar_59 : decode cX9_layFar 59 = .ok (.if_icmp .ge 177, 3) := by decide +kernel
theorem dX9_layFar_62 : decode cX9_layFar 62 = .ok (.aload_n 0, 1) := by decide +kernel
theorem dX9_layFar_63 : decode cX9_layFar 63 = .ok (.getfield 66, 3) := by decide +kernel
theorem dX9_layFar_66 : decode cX9_layFar 66 = .ok (.iload_n 3, 1) := by decide +kernel
theorem dX9_layFar_67 : decode cX9_layFar 67 = .ok (.iaload, 1) := by decide +kernel
theorem dX9_layFar_68 : decode cX9_layFar 68 = .ok (.istore 5, 2) := by decide +kernel
theorem dX9_layFar_70 : decode cX9_layFar 70 = .ok (.iinc 3 1, 3) := by decide +kernel
theorem dX9_layFar_73 : decode cX9_layFar 73 = .ok (.iconst 0, 1) := by decide +kernel
theorem dX9_layFar_74 : decode cX9_layFar 74 = .ok (.istore 6, 2) := by decide +kernel
theorem dX9_layFar_76 : decode cX9_layFar 76 = .ok (.iload 6, 2) := by decide +kernel
theorem dX9_layFar_78 : decode cX9_layFar 78 = .ok (.iconst 4, 1) := by decide +kernel
theorem dX9_layFar_79 : decode cX9_layFar 79 = .ok (.if_icmp .ge 154, 3) := by decide +kernel
theorem dX9_layFar_82 : decode cX9_layFar 82 = .ok (.aload_n 0, 1) := by decide +kernel
theorem dX9_layFar_83 : decode cX9_layFar 83 = .ok (.getfield 60, 3) := by decide +kernel
theorem dX9_layFar_86 : decode cX9_layFar 86 = .ok (.iconst 0, 1) := by decide +kernel
theorem dX9_layFar_87 : decode cX9_layFar 87 = .ok (.iload 5, 2) := by decide +kernel
theorem dX9_layFar_89 : decode cX9_layFar 89 = .ok (.bipush 49, 2) := by decide +kernel
theorem dX9_layFar_91 : decode cX9_layFar 91 = .ok (.idiv, 1) := by decide +kernel
theorem dX9_layFar_92 : decode cX9_layFar 92 = .ok (.iastore, 1) := by decide +kernel
theorem dX9_layFar_93 : decode cX9_layFar 93 = .ok (.aload_n 0, 1) := by decide +kernel
theorem dX9_layFar_94 : decode cX9_layFar 94 = .ok (.getfield 60, 3) := by decide +kernel
theorem dX9_layFar_97 : decode cX9_layFar 97 = .ok (.iconst 1, 1) := by decide +kernel
theorem dX9_layFar_98 : decode cX9_layFar 98 = .ok (.iload 5, 2) := by decide +kernel
theorem dX9_layFar_100 : decode cX9_layFar 100 = .ok (.bipush 7, 2) := by decide +kernel
theorem dX9_layFar_102 : decode cX9_layFar 102 = .ok (.idiv, 1) := by decide +kernel
theorem dX9_layFar_103 : decode cX9_layFar 103 = .ok (.bipush 7, 2) := by decide +kernel
theorem dX9_layFar_105 : decode cX9_layFar 105 = .ok (.irem, 1) := by decide +kernel
theorem dX9_layFar_106 : decode cX9_layFar 106 = .ok (.iastore, 1) := by decide +kernel
theorem dX9_layFar_107 : decode cX9_layFar 107 = .ok (.aload_n 0, 1) := by decide +kernel
theorem dX9_layFar_108 : decode cX9_layFar 108 = .ok (.getfield 60, 3) := by decide +kernel
theorem dX9_layFar_111 : decode cX9_layFar 111 = .ok (.iconst 2, 1) := by decide +kernel
theorem dX9_layFar_112 : decode cX9_layFar 112 = .ok (.iload 5, 2) := by decide +kernel
theorem dX9_layFar_114 : decode cX9_layFar 114 = .ok (.bipush 7, 2) := by decide +kernel
theorem dX9_layFar_116 : decode cX9_layFar 116 = .ok (.irem, 1) := by decide +kernel
theorem dX9_layFar_117 : decode cX9_layFar 117 = .ok (.iastore, 1) := by decide +kernel
theorem dX9_layFar_118 : decode cX9_layFar 118 = .ok (.aload_n 0, 1) := by decide +kernel
theorem dX9_layFar_119 : decode cX9_layFar 119 = .ok (.iload 6, 2) := by decide +kernel
theorem dX9_layFar_121 : decode cX9_layFar 121 = .ok (.aload_n 0, 1) := by decide +kernel
theorem dX9_layFar_122 : decode cX9_layFar 122 = .ok (.getfield 26, 3) := by decide +kernel
theorem dX9_layFar_125 : decode cX9_layFar 125 = .ok (.iload_n 1, 1) := by decide +kernel
theorem dX9_layFar_126 : decode cX9_layFar 126 = .ok (.iaload, 1) := by decide +kernel
theorem dX9_layFar_127 : decode cX9_layFar 127 = .ok (.iconst 3, 1) := by decide +kernel
theorem dX9_layFar_128 : decode cX9_layFar 128 = .ok (.if_icmp .ne 7, 3) := by decide +kernel
theorem dX9_layFar_131 : decode cX9_layFar 131 = .ok (.iconst 1, 1) := by decide +kernel
theorem dX9_layFar_132 : decode cX9_layFar 132 = .ok (.goto 4, 3) := by decide +kernel
theorem dX9_layFar_135 : decode cX9_layFar 135 = .ok (.iconst 0, 1) := by decide +kernel
theorem dX9_layFar_136 : decode cX9_layFar 136 = .ok (.invokevirtual 140, 3) := by decide +kernel
theorem dX9_layFar_139 : decode cX9_layFar 139 = .ok (.aload_n 0, 1) := by decide +kernel
theorem dX9_layFar_140 : decode cX9_layFar 140 = .ok (.invokevirtual 152, 3) := by decide +kernel
theorem dX9_layFar_143 : decode cX9_layFar 143 = .ok (.ifCond .eq 25, 3) := by decide +kernel
theorem dX9_layFar_146 : decode cX9_layFar 146 = .ok (.aload_n 0, 1) := by decide +kernel
theorem dX9_layFar_147 : decode cX9_layFar 147 = .ok (.aload_n 0, 1) := by decide +kernel
theorem dX9_layFar_148 : decode cX9_layFar 148 = .ok (.getfield 35, 3) := by decide +kernel
theorem dX9_layFar_151 : decode cX9_layFar 151 = .ok (.iload_n 1, 1) := by decide +kernel
theorem dX9_layFar_152 : decode cX9_layFar 152 = .ok (.aload_n 0, 1) := by decide +kernel
theorem dX9_layFar_153 : decode cX9_layFar 153 = .ok (.getfield 60, 3) := by decide +kernel
theorem dX9_layFar_156 : decode cX9_layFar 156 = .ok (.iconst 0, 1) := by decide +kernel
theorem dX9_layFar_157 : decode cX9_layFar 157 = .ok (.iaload, 1) := by decide +kernel
theorem dX9_layFar_158 : decode cX9_layFar 158 = .ok (.invokevirtual 155, 3) := by decide +kernel
theorem dX9_layFar_161 : decode cX9_layFar 161 = .ok (.ifCond .eq 7, 3) := by decide +kernel
theorem dX9_layFar_164 : decode cX9_layFar 164 = .ok (.iconst 1, 1) := by decide +kernel
theorem dX9_layFar_165 : decode cX9_layFar 165 = .ok (.goto 4, 3) := by decide +kernel
theorem dX9_layFar_168 : decode cX9_layFar 168 = .ok (.iconst 0, 1) := by decide +kernel
theorem dX9_layFar_169 : decode cX9_layFar 169 = .ok (.istore 7, 2) := by decide +kernel
theorem dX9_layFar_171 : decode cX9_layFar 171 = .ok (.iload 7, 2) := by decide +kernel
theorem dX9_layFar_173 : decode cX9_layFar 173 = .ok (.ifCond .eq 10, 3) := by decide +kernel
theorem dX9_layFar_176 : decode cX9_layFar 176 = .ok (.aload_n 0, 1) := by decide +kernel
theorem dX9_layFar_177 : decode cX9_layFar 177 = .ok (.invokevirtual 212, 3) := by decide +kernel
theorem dX9_layFar_180 : decode cX9_layFar 180 = .ok (.goto 5, 3) := by decide +kernel
theorem dX9_layFar_183 : decode cX9_layFar 183 = .ok (.iload 5, 2) := by decide +kernel
theorem dX9_layFar_185 : decode cX9_layFar 185 = .ok (.istore 8, 2) := by decide +kernel
theorem dX9_layFar_187 : decode cX9_layFar 187 = .ok (.aload_n 0, 1) := by decide +kernel
theorem dX9_layFar_188 : decode cX9_layFar 188 = .ok (.getfield 63, 3) := by decide +kernel
theorem dX9_layFar_191 : decode cX9_layFar 191 = .ok (.iload 8, 2) := by decide +kernel
theorem dX9_layFar_193 : decode cX9_layFar 193 = .ok (.iaload, 1) := by decide +kernel
theorem dX9_layFar_194 : decode cX9_layFar 194 = .ok (.bipush (-9), 2) := by decide +kernel
theorem dX9_layFar_196 : decode cX9_layFar 196 = .ok (.if_icmp .ne 31, 3) := by decide +kernel
theorem dX9_layFar_199 : decode cX9_layFar 199 = .ok (.aload_n 0, 1) := by decide +kernel
theorem dX9_layFar_200 : decode cX9_layFar 200 = .ok (.getfield 63, 3) := by decide +kernel
theorem dX9_layFar_203 : decode cX9_layFar 203 = .ok (.iload 8, 2) := by decide +kernel
theorem dX9_layFar_205 : decode cX9_layFar 205 = .ok (.aload_n 0, 1) := by decide +kernel
theorem dX9_layFar_206 : decode cX9_layFar 206 = .ok (.getfield 63, 3) := by decide +kernel
theorem dX9_layFar_209 : decode cX9_layFar 209 = .ok (.iload 5, 2) := by decide +kernel
theorem dX9_layFar_211 : decode cX9_layFar 211 = .ok (.iaload, 1) := by decide +kernel
theorem dX9_layFar_212 : decode cX9_layFar 212 = .ok (.iconst 1, 1) := by decide +kernel
theorem dX9_layFar_213 : decode cX9_layFar 213 = .ok (.iadd, 1) := by decide +kernel
theorem dX9_layFar_214 : decode cX9_layFar 214 = .ok (.iastore, 1) := by decide +kernel
theorem dX9_layFar_215 : decode cX9_layFar 215 = .ok (.aload_n 0, 1) := by decide +kernel
theorem dX9_layFar_216 : decode cX9_layFar 216 = .ok (.getfield 66, 3) := by decide +kernel
theorem dX9_layFar_219 : decode cX9_layFar 219 = .ok (.iload 4, 2) := by decide +kernel
theorem dX9_layFar_221 : decode cX9_layFar 221 = .ok (.iload 8, 2) := by decide +kernel
theorem dX9_layFar_223 : decode cX9_layFar 223 = .ok (.iastore, 1) := by decide +kernel
theorem dX9_layFar_224 : decode cX9_layFar 224 = .ok (.iinc 4 1, 3) := by decide +kernel
theorem dX9_layFar_227 : decode cX9_layFar 227 = .ok (.iinc 6 1, 3) := by decide +kernel
theorem dX9_layFar_230 : decode cX9_layFar 230 = .ok (.goto (-154), 3) := by decide +kernel
theorem dX9_layFar_233 : decode cX9_layFar 233 = .ok (.goto (-177), 3) := by decide +kernel
theorem dX9_layFar_236 : decode cX9_layFar 236 = .ok (.return_, 1) := by decide +kernel
theorem dX9_far_0 : decode cX9_far 0 = .ok (.aload_n 0, 1) := by decide +kernel
theorem dX9_far_1 : decode cX9_far 1 = .ok (.iconst 0, 1) := by decide +kernel
theorem dX9_far_2 : decode cX9_far 2 = .ok (.putfield 75, 3) := by decide +kernel
theorem dX9_far_5 : decode cX9_far 5 = .ok (.aload_n 0, 1) := by decide +kernel
theorem dX9_far_6 : decode cX9_far 6 = .ok (.iload_n 1, 1) := by decide +kernel
theorem dX9_far_7 : decode cX9_far 7 = .ok (.invokevirtual 191, 3) := by decide +kernel
theorem dX9_far_10 : decode cX9_far 10 = .ok (.ifCond .eq 5, 3) := by decide +kernel
theorem dX9_far_13 : decode cX9_far 13 = .ok (.iconst (-1), 1) := by decide +kernel
theorem dX9_far_14 : decode cX9_far 14 = .ok (.ireturn, 1) := by decide +kernel
theorem dX9_far_15 : decode cX9_far 15 = .ok (.aload_n 0, 1) := by decide +kernel
theorem dX9_far_16 : decode cX9_far 16 = .ok (.iload_n 1, 1) := by decide +kernel
theorem dX9_far_17 : decode cX9_far 17 = .ok (.invokevirtual 215, 3) := by decide +kernel
theorem dX9_far_20 : decode cX9_far 20 = .ok (.aload_n 0, 1) := by decide +kernel
theorem dX9_far_21 : decode cX9_far 21 = .ok (.getfield 63, 3) := by decide +kernel
theorem dX9_far_24 : decode cX9_far 24 = .ok (.aload_n 0, 1) := by decide +kernel
theorem dX9_far_25 : decode cX9_far 25 = .ok (.getfield 23, 3) := by decide +kernel
theorem dX9_far_28 : decode cX9_far 28 = .ok (.iload_n 1, 1) := by decide +kernel
theorem dX9_far_29 : decode cX9_far 29 = .ok (.iaload, 1) := by decide +kernel
theorem dX9_far_30 : decode cX9_far 30 = .ok (.bipush 7, 2) := by decide +kernel
theorem dX9_far_32 : decode cX9_far 32 = .ok (.imul, 1) := by decide +kernel
theorem dX9_far_33 : decode cX9_far 33 = .ok (.iconst 3, 1) := by decide +kernel
theorem dX9_far_34 : decode cX9_far 34 = .ok (.iadd, 1) := by decide +kernel
theorem dX9_far_35 : decode cX9_far 35 = .ok (.bipush 7, 2) := by decide +kernel
theorem dX9_far_37 : decode cX9_far 37 = .ok (.imul, 1) := by decide +kernel
theorem dX9_far_38 : decode cX9_far 38 = .ok (.iconst 3, 1) := by decide +kernel
theorem dX9_far_39 : decode cX9_far 39 = .ok (.iadd, 1) := by decide +kernel
theorem dX9_far_40 : decode cX9_far 40 = .ok (.iaload, 1) := by decide +kernel
theorem dX9_far_41 : decode cX9_far 41 = .ok (.ireturn, 1) := by decide +kernel
theorem dX9_reachOf_0 : decode cX9_reachOf 0 = .ok (.aload_n 0, 1) := by decide +kernel
theorem dX9_reachOf_1 : decode cX9_reachOf 1 = .ok (.iload_n 1, 1) := by decide +kernel
theorem dX9_reachOf_2 : decode cX9_reachOf 2 = .ok (.invokevirtual 215, 3) := by decide +kernel
theorem dX9_reachOf_5 : decode cX9_reachOf 5 = .ok (.iconst 0, 1) := by decide +kernel
theorem dX9_reachOf_6 : decode cX9_reachOf 6 = .ok (.istore_n 3, 1) := by decide +kernel
theorem dX9_reachOf_7 : decode cX9_reachOf 7 = .ok (.iconst 0, 1) := by decide +kernel
theorem dX9_reachOf_8 : decode cX9_reachOf 8 = .ok (.istore 4, 2) := by decide +kernel
theorem dX9_reachOf_10 : decode cX9_reachOf 10 = .ok (.iload 4, 2) := by decide +kernel
theorem dX9_reachOf_12 : decode cX9_reachOf 12 = .ok (.sipush 980, 3) := by decide +kernel
theorem dX9_reachOf_15 : decode cX9_reachOf 15 = .ok (.if_icmp .ge 46, 3) := by decide +kernel
theorem dX9_reachOf_18 : decode cX9_reachOf 18 = .ok (.iload_n 3, 1) := by decide +kernel
theorem dX9_reachOf_19 : decode cX9_reachOf 19 = .ok (.aload_n 0, 1) := by decide +kernel
theorem dX9_reachOf_20 : decode cX9_reachOf 20 = .ok (.getfield 63, 3) := by decide +kernel
theorem dX9_reachOf_23 : decode cX9_reachOf 23 = .ok (.iload 4, 2) := by decide +kernel
theorem dX9_reachOf_25 : decode cX9_reachOf 25 = .ok (.iaload, 1) := by decide +kernel
theorem dX9_reachOf_26 : decode cX9_reachOf 26 = .ok (.bipush (-9), 2) := by decide +kernel
theorem dX9_reachOf_28 : decode cX9_reachOf 28 = .ok (.if_icmp .eq 24, 3) := by decide +kernel
theorem dX9_reachOf_31 : decode cX9_reachOf 31 = .ok (.aload_n 0, 1) := by decide +kernel
theorem dX9_reachOf_32 : decode cX9_reachOf 32 = .ok (.getfield 63, 3) := by decide +kernel
theorem dX9_reachOf_35 : decode cX9_reachOf 35 = .ok (.iload 4, 2) := by decide +kernel
theorem dX9_reachOf_37 : decode cX9_reachOf 37 = .ok (.iaload, 1) := by decide +kernel
theorem dX9_reachOf_38 : decode cX9_reachOf 38 = .ok (.iload_n 2, 1) := by decide +kernel
theorem dX9_reachOf_39 : decode cX9_reachOf 39 = .ok (.if_icmp .gt 13, 3) := by decide +kernel
theorem dX9_reachOf_42 : decode cX9_reachOf 42 = .ok (.iconst 1, 1) := by decide +kernel
theorem dX9_reachOf_43 : decode cX9_reachOf 43 = .ok (.iload 4, 2) := by decide +kernel
theorem dX9_reachOf_45 : decode cX9_reachOf 45 = .ok (.bipush 49, 2) := by decide +kernel
theorem dX9_reachOf_47 : decode cX9_reachOf 47 = .ok (.idiv, 1) := by decide +kernel
theorem dX9_reachOf_48 : decode cX9_reachOf 48 = .ok (.ishl, 1) := by decide +kernel
theorem dX9_reachOf_49 : decode cX9_reachOf 49 = .ok (.goto 4, 3) := by decide +kernel
theorem dX9_reachOf_52 : decode cX9_reachOf 52 = .ok (.iconst 0, 1) := by decide +kernel
theorem dX9_reachOf_53 : decode cX9_reachOf 53 = .ok (.ior, 1) := by decide +kernel
theorem dX9_reachOf_54 : decode cX9_reachOf 54 = .ok (.istore_n 3, 1) := by decide +kernel
theorem dX9_reachOf_55 : decode cX9_reachOf 55 = .ok (.iinc 4 1, 3) := by decide +kernel
theorem dX9_reachOf_58 : decode cX9_reachOf 58 = .ok (.goto (-48), 3) := by decide +kernel
theorem dX9_reachOf_61 : decode cX9_reachOf 61 = .ok (.iload_n 3, 1) := by decide +kernel
theorem dX9_reachOf_62 : decode cX9_reachOf 62 = .ok (.ireturn, 1) := by decide +kernel
theorem dX9_reach_0 : decode cX9_reach 0 = .ok (.aload_n 0, 1) := by decide +kernel
theorem dX9_reach_1 : decode cX9_reach 1 = .ok (.iconst 0, 1) := by decide +kernel
theorem dX9_reach_2 : decode cX9_reach 2 = .ok (.putfield 75, 3) := by decide +kernel
theorem dX9_reach_5 : decode cX9_reach 5 = .ok (.aload_n 0, 1) := by decide +kernel
theorem dX9_reach_6 : decode cX9_reach 6 = .ok (.iload_n 1, 1) := by decide +kernel
theorem dX9_reach_7 : decode cX9_reach 7 = .ok (.invokevirtual 191, 3) := by decide +kernel
theorem dX9_reach_10 : decode cX9_reach 10 = .ok (.ifCond .eq 5, 3) := by decide +kernel
theorem dX9_reach_13 : decode cX9_reach 13 = .ok (.iconst (-1), 1) := by decide +kernel
theorem dX9_reach_14 : decode cX9_reach 14 = .ok (.ireturn, 1) := by decide +kernel
theorem dX9_reach_15 : decode cX9_reach 15 = .ok (.iload_n 2, 1) := by decide +kernel
theorem dX9_reach_16 : decode cX9_reach 16 = .ok (.i2l, 1) := by decide +kernel
theorem dX9_reach_17 : decode cX9_reach 17 = .ok (.lconst 0, 1) := by decide +kernel
theorem dX9_reach_18 : decode cX9_reach 18 = .ok (.ldc2_w 219, 3) := by decide +kernel
theorem dX9_reach_21 : decode cX9_reach 21 = .ok (.invokestatic 81, 3) := by decide +kernel
theorem dX9_reach_24 : decode cX9_reach 24 = .ok (.ifCond .eq 12, 3) := by decide +kernel
theorem dX9_reach_27 : decode cX9_reach 27 = .ok (.aload_n 0, 1) := by decide +kernel
theorem dX9_reach_28 : decode cX9_reach 28 = .ok (.iload_n 1, 1) := by decide +kernel
theorem dX9_reach_29 : decode cX9_reach 29 = .ok (.iload_n 2, 1) := by decide +kernel
theorem dX9_reach_30 : decode cX9_reach 30 = .ok (.invokevirtual 221, 3) := by decide +kernel
theorem dX9_reach_33 : decode cX9_reach 33 = .ok (.goto 5, 3) := by decide +kernel
theorem dX9_reach_36 : decode cX9_reach 36 = .ok (.bipush (-2), 2) := by decide +kernel
theorem dX9_reach_38 : decode cX9_reach 38 = .ok (.ireturn, 1) := by decide +kernel
theorem dX9_again_0 : decode cX9_again 0 = .ok (.aload_n 0, 1) := by decide +kernel
theorem dX9_again_1 : decode cX9_again 1 = .ok (.iconst 0, 1) := by decide +kernel
theorem dX9_again_2 : decode cX9_again 2 = .ok (.putfield 75, 3) := by decide +kernel
theorem dX9_again_5 : decode cX9_again 5 = .ok (.aload_n 0, 1) := by decide +kernel
theorem dX9_again_6 : decode cX9_again 6 = .ok (.iload_n 1, 1) := by decide +kernel
theorem dX9_again_7 : decode cX9_again 7 = .ok (.invokevirtual 191, 3) := by decide +kernel
theorem dX9_again_10 : decode cX9_again 10 = .ok (.ifCond .eq 5, 3) := by decide +kernel
theorem dX9_again_13 : decode cX9_again 13 = .ok (.iconst (-1), 1) := by decide +kernel
theorem dX9_again_14 : decode cX9_again 14 = .ok (.ireturn, 1) := by decide +kernel
theorem dX9_again_15 : decode cX9_again 15 = .ok (.iload_n 2, 1) := by decide +kernel
theorem dX9_again_16 : decode cX9_again 16 = .ok (.invokestatic 184, 3) := by decide +kernel
theorem dX9_again_19 : decode cX9_again 19 = .ok (.ifCond .eq 6, 3) := by decide +kernel
theorem dX9_again_22 : decode cX9_again 22 = .ok (.bipush (-2), 2) := by decide +kernel
theorem dX9_again_24 : decode cX9_again 24 = .ok (.ireturn, 1) := by decide +kernel
theorem dX9_again_25 : decode cX9_again 25 = .ok (.aload_n 0, 1) := by decide +kernel
theorem dX9_again_26 : decode cX9_again 26 = .ok (.getfield 35, 3) := by decide +kernel
theorem dX9_again_29 : decode cX9_again 29 = .ok (.iload_n 1, 1) := by decide +kernel
theorem dX9_again_30 : decode cX9_again 30 = .ok (.iaload, 1) := by decide +kernel
theorem dX9_again_31 : decode cX9_again 31 = .ok (.istore_n 3, 1) := by decide +kernel
theorem dX9_again_32 : decode cX9_again 32 = .ok (.iconst 1, 1) := by decide +kernel
theorem dX9_again_33 : decode cX9_again 33 = .ok (.istore 4, 2) := by decide +kernel
theorem dX9_again_35 : decode cX9_again 35 = .ok (.iload 4, 2) := by decide +kernel
theorem dX9_again_37 : decode cX9_again 37 = .ok (.bipush 20, 2) := by decide +kernel
theorem dX9_again_39 : decode cX9_again 39 = .ok (.if_icmp .gt 60, 3) := by decide +kernel
theorem dX9_again_42 : decode cX9_again 42 = .ok (.aload_n 0, 1) := by decide +kernel
theorem dX9_again_43 : decode cX9_again 43 = .ok (.iload_n 3, 1) := by decide +kernel
theorem dX9_again_44 : decode cX9_again 44 = .ok (.iload_n 2, 1) := by decide +kernel
theorem dX9_again_45 : decode cX9_again 45 = .ok (.aload_n 0, 1) := by decide +kernel
theorem dX9_again_46 : decode cX9_again 46 = .ok (.getfield 26, 3) := by decide +kernel
theorem dX9_again_49 : decode cX9_again 49 = .ok (.iload_n 1, 1) := by decide +kernel
theorem dX9_again_50 : decode cX9_again 50 = .ok (.iaload, 1) := by decide +kernel
theorem dX9_again_51 : decode cX9_again 51 = .ok (.iconst 3, 1) := by decide +kernel
theorem dX9_again_52 : decode cX9_again 52 = .ok (.if_icmp .ne 7, 3) := by decide +kernel
theorem dX9_again_55 : decode cX9_again 55 = .ok (.iconst 1, 1) := by decide +kernel
theorem dX9_again_56 : decode cX9_again 56 = .ok (.goto 4, 3) := by decide +kernel
theorem dX9_again_59 : decode cX9_again 59 = .ok (.iconst 0, 1) := by decide +kernel
theorem dX9_again_60 : decode cX9_again 60 = .ok (.invokevirtual 187, 3) := by decide +kernel
theorem dX9_again_63 : decode cX9_again 63 = .ok (.istore_n 3, 1) := by decide +kernel
theorem dX9_again_64 : decode cX9_again 64 = .ok (.aload_n 0, 1) := by decide +kernel
theorem dX9_again_65 : decode cX9_again 65 = .ok (.aload_n 0, 1) := by decide +kernel
theorem dX9_again_66 : decode cX9_again 66 = .ok (.getfield 35, 3) := by decide +kernel
theorem dX9_again_69 : decode cX9_again 69 = .ok (.iload_n 1, 1) := by decide +kernel
theorem dX9_again_70 : decode cX9_again 70 = .ok (.iload_n 3, 1) := by decide +kernel
theorem dX9_again_71 : decode cX9_again 71 = .ok (.invokevirtual 155, 3) := by decide +kernel
theorem dX9_again_74 : decode cX9_again 74 = .ok (.ifCond .ne 6, 3) := by decide +kernel
theorem dX9_again_77 : decode cX9_again 77 = .ok (.bipush (-9), 2) := by decide +kernel
theorem dX9_again_79 : decode cX9_again 79 = .ok (.ireturn, 1) := by decide +kernel
theorem dX9_again_80 : decode cX9_again 80 = .ok (.iload_n 3, 1) := by decide +kernel
theorem dX9_again_81 : decode cX9_again 81 = .ok (.aload_n 0, 1) := by decide +kernel
theorem dX9_again_82 : decode cX9_again 82 = .ok (.getfield 35, 3) := by decide +kernel
theorem dX9_again_85 : decode cX9_again 85 = .ok (.iload_n 1, 1) := by decide +kernel
theorem dX9_again_86 : decode cX9_again 86 = .ok (.iaload, 1) := by decide +kernel
theorem dX9_again_87 : decode cX9_again 87 = .ok (.if_icmp .ne 6, 3) := by decide +kernel
theorem dX9_again_90 : decode cX9_again 90 = .ok (.iload 4, 2) := by decide +kernel
theorem dX9_again_92 : decode cX9_again 92 = .ok (.ireturn, 1) := by decide +kernel
theorem dX9_again_93 : decode cX9_again 93 = .ok (.iinc 4 1, 3) := by decide +kernel
theorem dX9_again_96 : decode cX9_again 96 = .ok (.goto (-61), 3) := by decide +kernel
theorem dX9_again_99 : decode cX9_again 99 = .ok (.bipush (-9), 2) := by decide +kernel
theorem dX9_again_101 : decode cX9_again 101 = .ok (.ireturn, 1) := by decide +kernel
theorem dX9_areAlike_0 : decode cX9_areAlike 0 = .ok (.aload_n 0, 1) := by decide +kernel
theorem dX9_areAlike_1 : decode cX9_areAlike 1 = .ok (.aload_n 0, 1) := by decide +kernel
theorem dX9_areAlike_2 : decode cX9_areAlike 2 = .ok (.getfield 35, 3) := by decide +kernel
theorem dX9_areAlike_5 : decode cX9_areAlike 5 = .ok (.iload_n 1, 1) := by decide +kernel
theorem dX9_areAlike_6 : decode cX9_areAlike 6 = .ok (.invokevirtual 144, 3) := by decide +kernel
theorem dX9_areAlike_9 : decode cX9_areAlike 9 = .ok (.aload_n 0, 1) := by decide +kernel
theorem dX9_areAlike_10 : decode cX9_areAlike 10 = .ok (.aload_n 0, 1) := by decide +kernel
theorem dX9_areAlike_11 : decode cX9_areAlike 11 = .ok (.getfield 35, 3) := by decide +kernel
theorem dX9_areAlike_14 : decode cX9_areAlike 14 = .ok (.iload_n 2, 1) := by decide +kernel
theorem dX9_areAlike_15 : decode cX9_areAlike 15 = .ok (.invokevirtual 144, 3) := by decide +kernel
theorem dX9_areAlike_18 : decode cX9_areAlike 18 = .ok (.if_icmp .ne 7, 3) := by decide +kernel
theorem dX9_areAlike_21 : decode cX9_areAlike 21 = .ok (.iconst 1, 1) := by decide +kernel
theorem dX9_areAlike_22 : decode cX9_areAlike 22 = .ok (.goto 4, 3) := by decide +kernel
theorem dX9_areAlike_25 : decode cX9_areAlike 25 = .ok (.iconst 0, 1) := by decide +kernel
theorem dX9_areAlike_26 : decode cX9_areAlike 26 = .ok (.istore_n 3, 1) := by decide +kernel
theorem dX9_areAlike_27 : decode cX9_areAlike 27 = .ok (.iconst 0, 1) := by decide +kernel
theorem dX9_areAlike_28 : decode cX9_areAlike 28 = .ok (.istore 4, 2) := by decide +kernel
theorem dX9_areAlike_30 : decode cX9_areAlike 30 = .ok (.iload 4, 2) := by decide +kernel
theorem dX9_areAlike_32 : decode cX9_areAlike 32 = .ok (.iconst 4, 1) := by decide +kernel
theorem dX9_areAlike_33 : decode cX9_areAlike 33 = .ok (.if_icmp .ge 54, 3) := by decide +kernel
theorem dX9_areAlike_36 : decode cX9_areAlike 36 = .ok (.iload_n 3, 1) := by decide +kernel
theorem dX9_areAlike_37 : decode cX9_areAlike 37 = .ok (.ifCond .eq 42, 3) := by decide +kernel
theorem dX9_areAlike_40 : decode cX9_areAlike 40 = .ok (.aload_n 0, 1) := by decide +kernel
theorem dX9_areAlike_41 : decode cX9_areAlike 41 = .ok (.aload_n 0, 1) := by decide +kernel
theorem dX9_areAlike_42 : decode cX9_areAlike 42 = .ok (.getfield 35, 3) := by decide +kernel
theorem dX9_areAlike_45 : decode cX9_areAlike 45 = .ok (.aload_n 0, 1) := by decide +kernel
theorem dX9_areAlike_46 : decode cX9_areAlike 46 = .ok (.iload_n 1, 1) := by decide +kernel
theorem dX9_areAlike_47 : decode cX9_areAlike 47 = .ok (.iload 4, 2) := by decide +kernel
theorem dX9_areAlike_49 : decode cX9_areAlike 49 = .ok (.iconst 0, 1) := by decide +kernel
theorem dX9_areAlike_50 : decode cX9_areAlike 50 = .ok (.invokevirtual 187, 3) := by decide +kernel
theorem dX9_areAlike_53 : decode cX9_areAlike 53 = .ok (.invokevirtual 144, 3) := by decide +kernel
theorem dX9_areAlike_56 : decode cX9_areAlike 56 = .ok (.aload_n 0, 1) := by decide +kernel
theorem dX9_areAlike_57 : decode cX9_areAlike 57 = .ok (.aload_n 0, 1) := by decide +kernel
theorem dX9_areAlike_58 : decode cX9_areAlike 58 = .ok (.getfield 35, 3) := by decide +kernel
theorem dX9_areAlike_61 : decode cX9_areAlike 61 = .ok (.aload_n 0, 1) := by decide +kernel
theorem dX9_areAlike_62 : decode cX9_areAlike 62 = .ok (.iload_n 2, 1) := by decide +kernel
theorem dX9_areAlike_63 : decode cX9_areAlike 63 = .ok (.iload 4, 2) := by decide +kernel
theorem dX9_areAlike_65 : decode cX9_areAlike 65 = .ok (.iconst 0, 1) := by decide +kernel
theorem dX9_areAlike_66 : decode cX9_areAlike 66 = .ok (.invokevirtual 187, 3) := by decide +kernel
theorem dX9_areAlike_69 : decode cX9_areAlike 69 = .ok (.invokevirtual 144, 3) := by decide +kernel
theorem dX9_areAlike_72 : decode cX9_areAlike 72 = .ok (.if_icmp .ne 7, 3) := by decide +kernel
theorem dX9_areAlike_75 : decode cX9_areAlike 75 = .ok (.iconst 1, 1) := by decide +kernel
theorem dX9_areAlike_76 : decode cX9_areAlike 76 = .ok (.goto 4, 3) := by decide +kernel
theorem dX9_areAlike_79 : decode cX9_areAlike 79 = .ok (.iconst 0, 1) := by decide +kernel
theorem dX9_areAlike_80 : decode cX9_areAlike 80 = .ok (.istore_n 3, 1) := by decide +kernel
theorem dX9_areAlike_81 : decode cX9_areAlike 81 = .ok (.iinc 4 1, 3) := by decide +kernel
theorem dX9_areAlike_84 : decode cX9_areAlike 84 = .ok (.goto (-54), 3) := by decide +kernel
theorem dX9_areAlike_87 : decode cX9_areAlike 87 = .ok (.iload_n 3, 1) := by decide +kernel
theorem dX9_areAlike_88 : decode cX9_areAlike 88 = .ok (.ireturn, 1) := by decide +kernel
theorem dX9_alike_0 : decode cX9_alike 0 = .ok (.aload_n 0, 1) := by decide +kernel
theorem dX9_alike_1 : decode cX9_alike 1 = .ok (.iconst 0, 1) := by decide +kernel
theorem dX9_alike_2 : decode cX9_alike 2 = .ok (.putfield 75, 3) := by decide +kernel
theorem dX9_alike_5 : decode cX9_alike 5 = .ok (.aload_n 0, 1) := by decide +kernel
theorem dX9_alike_6 : decode cX9_alike 6 = .ok (.iload_n 1, 1) := by decide +kernel
theorem dX9_alike_7 : decode cX9_alike 7 = .ok (.invokevirtual 180, 3) := by decide +kernel
theorem dX9_alike_10 : decode cX9_alike 10 = .ok (.ifCond .eq 5, 3) := by decide +kernel
theorem dX9_alike_13 : decode cX9_alike 13 = .ok (.iconst (-1), 1) := by decide +kernel
theorem dX9_alike_14 : decode cX9_alike 14 = .ok (.ireturn, 1) := by decide +kernel
theorem dX9_alike_15 : decode cX9_alike 15 = .ok (.iconst 0, 1) := by decide +kernel
theorem dX9_alike_16 : decode cX9_alike 16 = .ok (.istore_n 2, 1) := by decide +kernel
theorem dX9_alike_17 : decode cX9_alike 17 = .ok (.iconst 0, 1) := by decide +kernel
theorem dX9_alike_18 : decode cX9_alike 18 = .ok (.istore_n 3, 1) := by decide +kernel
theorem dX9_alike_19 : decode cX9_alike 19 = .ok (.iload_n 3, 1) := by decide +kernel
theorem dX9_alike_20 : decode cX9_alike 20 = .ok (.aload_n 0, 1) := by decide +kernel
theorem dX9_alike_21 : decode cX9_alike 21 = .ok (.getfield 13, 3) := by decide +kernel
theorem dX9_alike_24 : decode cX9_alike 24 = .ok (.aload_n 0, 1) := by decide +kernel
theorem dX9_alike_25 : decode cX9_alike 25 = .ok (.getfield 17, 3) := by decide +kernel
theorem dX9_alike_28 : decode cX9_alike 28 = .ok (.imul, 1) := by decide +kernel
theorem dX9_alike_29 : decode cX9_alike 29 = .ok (.if_icmp .ge 28, 3) := by decide +kernel
theorem dX9_alike_32 : decode cX9_alike 32 = .ok (.iload_n 2, 1) := by decide +kernel
theorem dX9_alike_33 : decode cX9_alike 33 = .ok (.aload_n 0, 1) := by decide +kernel
theorem dX9_alike_34 : decode cX9_alike 34 = .ok (.iload_n 1, 1) := by decide +kernel
theorem dX9_alike_35 : decode cX9_alike 35 = .ok (.iload_n 3, 1) := by decide +kernel
theorem dX9_alike_36 : decode cX9_alike 36 = .ok (.invokevirtual 225, 3) := by decide +kernel
theorem dX9_alike_39 : decode cX9_alike 39 = .ok (.ifCond .eq 9, 3) := by decide +kernel
theorem dX9_alike_42 : decode cX9_alike 42 = .ok (.iconst 1, 1) := by decide +kernel
theorem dX9_alike_43 : decode cX9_alike 43 = .ok (.iload_n 3, 1) := by decide +kernel
theorem dX9_alike_44 : decode cX9_alike 44 = .ok (.ishl, 1) := by decide +kernel
theorem dX9_alike_45 : decode cX9_alike 45 = .ok (.goto 4, 3) := by decide +kernel
theorem dX9_alike_48 : decode cX9_alike 48 = .ok (.iconst 0, 1) := by decide +kernel
theorem dX9_alike_49 : decode cX9_alike 49 = .ok (.ior, 1) := by decide +kernel
theorem dX9_alike_50 : decode cX9_alike 50 = .ok (.istore_n 2, 1) := by decide +kernel
theorem dX9_alike_51 : decode cX9_alike 51 = .ok (.iinc 3 1, 3) := by decide +kernel
theorem dX9_alike_54 : decode cX9_alike 54 = .ok (.goto (-35), 3) := by decide +kernel
theorem dX9_alike_57 : decode cX9_alike 57 = .ok (.iload_n 2, 1) := by decide +kernel
theorem dX9_alike_58 : decode cX9_alike 58 = .ok (.ireturn, 1) := by decide +kernel
theorem dX9_nextOf_0 : decode cX9_nextOf 0 = .ok (.iload_n 0, 1) := by decide +kernel
theorem dX9_nextOf_1 : decode cX9_nextOf 1 = .ok (.iload_n 0, 1) := by decide +kernel
theorem dX9_nextOf_2 : decode cX9_nextOf 2 = .ok (.ineg, 1) := by decide +kernel
theorem dX9_nextOf_3 : decode cX9_nextOf 3 = .ok (.iand, 1) := by decide +kernel
theorem dX9_nextOf_4 : decode cX9_nextOf 4 = .ok (.istore_n 1, 1) := by decide +kernel
theorem dX9_nextOf_5 : decode cX9_nextOf 5 = .ok (.iload_n 0, 1) := by decide +kernel
theorem dX9_nextOf_6 : decode cX9_nextOf 6 = .ok (.iload_n 1, 1) := by decide +kernel
theorem dX9_nextOf_7 : decode cX9_nextOf 7 = .ok (.iadd, 1) := by decide +kernel
theorem dX9_nextOf_8 : decode cX9_nextOf 8 = .ok (.istore_n 2, 1) := by decide +kernel
theorem dX9_nextOf_9 : decode cX9_nextOf 9 = .ok (.iload_n 2, 1) := by decide +kernel
theorem dX9_nextOf_10 : decode cX9_nextOf 10 = .ok (.iload_n 0, 1) := by decide +kernel
theorem dX9_nextOf_11 : decode cX9_nextOf 11 = .ok (.iload_n 2, 1) := by decide +kernel
theorem dX9_nextOf_12 : decode cX9_nextOf 12 = .ok (.ixor, 1) := by decide +kernel
theorem dX9_nextOf_13 : decode cX9_nextOf 13 = .ok (.iload_n 1, 1) := by decide +kernel
theorem dX9_nextOf_14 : decode cX9_nextOf 14 = .ok (.idiv, 1) := by decide +kernel
theorem dX9_nextOf_15 : decode cX9_nextOf 15 = .ok (.iconst 2, 1) := by decide +kernel
theorem dX9_nextOf_16 : decode cX9_nextOf 16 = .ok (.ishr, 1) := by decide +kernel
theorem dX9_nextOf_17 : decode cX9_nextOf 17 = .ok (.ior, 1) := by decide +kernel
theorem dX9_nextOf_18 : decode cX9_nextOf 18 = .ok (.ireturn, 1) := by decide +kernel
theorem dX9_fewest_0 : decode cX9_fewest 0 = .ok (.iconst 1, 1) := by decide +kernel
theorem dX9_fewest_1 : decode cX9_fewest 1 = .ok (.aload_n 0, 1) := by decide +kernel
theorem dX9_fewest_2 : decode cX9_fewest 2 = .ok (.getfield 78, 3) := by decide +kernel
theorem dX9_fewest_5 : decode cX9_fewest 5 = .ok (.ishl, 1) := by decide +kernel
theorem dX9_fewest_6 : decode cX9_fewest 6 = .ok (.iconst 1, 1) := by decide +kernel
theorem dX9_fewest_7 : decode cX9_fewest 7 = .ok (.isub, 1) := by decide +kernel
theorem dX9_fewest_8 : decode cX9_fewest 8 = .ok (.aload_n 0, 1) := by decide +kernel
theorem dX9_fewest_9 : decode cX9_fewest 9 = .ok (.aload_n 0, 1) := by decide +kernel
theorem dX9_fewest_10 : decode cX9_fewest 10 = .ok (.getfield 35, 3) := by decide +kernel
theorem dX9_fewest_13 : decode cX9_fewest 13 = .ok (.invokevirtual 166, 3) := by decide +kernel
theorem dX9_fewest_16 : decode cX9_fewest 16 = .ok (.iconst (-1), 1) := by decide +kernel
theorem dX9_fewest_17 : decode cX9_fewest 17 = .ok (.ixor, 1) := by decide +kernel
theorem dX9_fewest_18 : decode cX9_fewest 18 = .ok (.iand, 1) := by decide +kernel
theorem dX9_fewest_19 : decode cX9_fewest 19 = .ok (.istore_n 1, 1) := by decide +kernel
theorem dX9_fewest_20 : decode cX9_fewest 20 = .ok (.iconst 0, 1) := by decide +kernel
theorem dX9_fewest_21 : decode cX9_fewest 21 = .ok (.istore_n 2, 1) := by decide +kernel
theorem dX9_fewest_22 : decode cX9_fewest 22 = .ok (.iload_n 2, 1) := by decide +kernel
theorem dX9_fewest_23 : decode cX9_fewest 23 = .ok (.aload_n 0, 1) := by decide +kernel
theorem dX9_fewest_24 : decode cX9_fewest 24 = .ok (.getfield 13, 3) := by decide +kernel
theorem dX9_fewest_27 : decode cX9_fewest 27 = .ok (.aload_n 0, 1) := by decide +kernel
theorem dX9_fewest_28 : decode cX9_fewest 28 = .ok (.getfield 17, 3) := by decide +kernel
theorem dX9_fewest_31 : decode cX9_fewest 31 = .ok (.imul, 1) := by decide +kernel
theorem dX9_fewest_32 : decode cX9_fewest 32 = .ok (.if_icmp .ge 63, 3) := by decide +kernel
theorem dX9_fewest_35 : decode cX9_fewest 35 = .ok (.iconst 0, 1) := by decide +kernel
theorem dX9_fewest_36 : decode cX9_fewest 36 = .ok (.istore_n 3, 1) := by decide +kernel
theorem dX9_fewest_37 : decode cX9_fewest 37 = .ok (.iconst 0, 1) := by decide +kernel
theorem dX9_fewest_38 : decode cX9_fewest 38 = .ok (.istore 4, 2) := by decide +kernel
theorem dX9_fewest_40 : decode cX9_fewest 40 = .ok (.iload 4, 2) := by decide +kernel
theorem dX9_fewest_42 : decode cX9_fewest 42 = .ok (.aload_n 0, 1) := by decide +kernel
theorem dX9_fewest_43 : decode cX9_fewest 43 = .ok (.getfield 78, 3) := by decide +kernel
theorem dX9_fewest_46 : decode cX9_fewest 46 = .ok (.if_icmp .ge 34, 3) := by decide +kernel
theorem dX9_fewest_49 : decode cX9_fewest 49 = .ok (.iload_n 3, 1) := by decide +kernel
theorem dX9_fewest_50 : decode cX9_fewest 50 = .ok (.aload_n 0, 1) := by decide +kernel
theorem dX9_fewest_51 : decode cX9_fewest 51 = .ok (.aload_n 0, 1) := by decide +kernel
theorem dX9_fewest_52 : decode cX9_fewest 52 = .ok (.getfield 35, 3) := by decide +kernel
theorem dX9_fewest_55 : decode cX9_fewest 55 = .ok (.iload 4, 2) := by decide +kernel
theorem dX9_fewest_57 : decode cX9_fewest 57 = .ok (.iload_n 2, 1) := by decide +kernel
theorem dX9_fewest_58 : decode cX9_fewest 58 = .ok (.invokevirtual 203, 3) := by decide +kernel
theorem dX9_fewest_61 : decode cX9_fewest 61 = .ok (.ifCond .eq 10, 3) := by decide +kernel
theorem dX9_fewest_64 : decode cX9_fewest 64 = .ok (.iconst 1, 1) := by decide +kernel
theorem dX9_fewest_65 : decode cX9_fewest 65 = .ok (.iload 4, 2) := by decide +kernel
theorem dX9_fewest_67 : decode cX9_fewest 67 = .ok (.ishl, 1) := by decide +kernel
theorem dX9_fewest_68 : decode cX9_fewest 68 = .ok (.goto 4, 3) := by decide +kernel
theorem dX9_fewest_71 : decode cX9_fewest 71 = .ok (.iconst 0, 1) := by decide +kernel
theorem dX9_fewest_72 : decode cX9_fewest 72 = .ok (.ior, 1) := by decide +kernel
theorem dX9_fewest_73 : decode cX9_fewest 73 = .ok (.istore_n 3, 1) := by decide +kernel
theorem dX9_fewest_74 : decode cX9_fewest 74 = .ok (.iinc 4 1, 3) := by decide +kernel
theorem dX9_fewest_77 : decode cX9_fewest 77 = .ok (.goto (-37), 3) := by decide +kernel
theorem dX9_fewest_80 : decode cX9_fewest 80 = .ok (.aload_n 0, 1) := by decide +kernel
theorem dX9_fewest_81 : decode cX9_fewest 81 = .ok (.getfield 72, 3) := by decide +kernel
theorem dX9_fewest_84 : decode cX9_fewest 84 = .ok (.iload_n 2, 1) := by decide +kernel
theorem dX9_fewest_85 : decode cX9_fewest 85 = .ok (.iload_n 3, 1) := by decide +kernel
theorem dX9_fewest_86 : decode cX9_fewest 86 = .ok (.iload_n 1, 1) := by decide +kernel
theorem dX9_fewest_87 : decode cX9_fewest 87 = .ok (.iand, 1) := by decide +kernel
theorem dX9_fewest_88 : decode cX9_fewest 88 = .ok (.iastore, 1) := by decide +kernel
theorem dX9_fewest_89 : decode cX9_fewest 89 = .ok (.iinc 2 1, 3) := by decide +kernel
theorem dX9_fewest_92 : decode cX9_fewest 92 = .ok (.goto (-70), 3) := by decide +kernel
theorem dX9_fewest_95 : decode cX9_fewest 95 = .ok (.iload_n 1, 1) := by decide +kernel
theorem dX9_fewest_96 : decode cX9_fewest 96 = .ok (.ifCond .ne 5, 3) := by decide +kernel
theorem dX9_fewest_99 : decode cX9_fewest 99 = .ok (.iconst 0, 1) := by decide +kernel
theorem dX9_fewest_100 : decode cX9_fewest 100 = .ok (.ireturn, 1) := by decide +kernel
theorem dX9_fewest_101 : decode cX9_fewest 101 = .ok (.iconst 1, 1) := by decide +kernel
theorem dX9_fewest_102 : decode cX9_fewest 102 = .ok (.istore_n 2, 1) := by decide +kernel
theorem dX9_fewest_103 : decode cX9_fewest 103 = .ok (.iload_n 2, 1) := by decide +kernel
theorem dX9_fewest_104 : decode cX9_fewest 104 = .ok (.aload_n 0, 1) := by decide +kernel
theorem dX9_fewest_105 : decode cX9_fewest 105 = .ok (.getfield 78, 3) := by decide +kernel
theorem dX9_fewest_108 : decode cX9_fewest 108 = .ok (.if_icmp .gt 97, 3) := by decide +kernel
theorem dX9_fewest_111 : decode cX9_fewest 111 = .ok (.iconst 1, 1) := by decide +kernel
theorem dX9_fewest_112 : decode cX9_fewest 112 = .ok (.iload_n 2, 1) := by decide +kernel
theorem dX9_fewest_113 : decode cX9_fewest 113 = .ok (.ishl, 1) := by decide +kernel
theorem dX9_fewest_114 : decode cX9_fewest 114 = .ok (.iconst 1, 1) := by decide +kernel
theorem dX9_fewest_115 : decode cX9_fewest 115 = .ok (.isub, 1) := by decide +kernel
theorem dX9_fewest_116 : decode cX9_fewest 116 = .ok (.istore_n 3, 1) := by decide +kernel
theorem dX9_fewest_117 : decode cX9_fewest 117 = .ok (.iload_n 3, 1) := by decide +kernel
theorem dX9_fewest_118 : decode cX9_fewest 118 = .ok (.iconst 1, 1) := by decide +kernel
theorem dX9_fewest_119 : decode cX9_fewest 119 = .ok (.aload_n 0, 1) := by decide +kernel
theorem dX9_fewest_120 : decode cX9_fewest 120 = .ok (.getfield 13, 3) := by decide +kernel
theorem dX9_fewest_123 : decode cX9_fewest 123 = .ok (.aload_n 0, 1) := by decide +kernel
theorem dX9_fewest_124 : decode cX9_fewest 124 = .ok (.getfield 17, 3) := by decide +kernel
theorem dX9_fewest_127 : decode cX9_fewest 127 = .ok (.imul, 1) := by decide +kernel
theorem dX9_fewest_128 : decode cX9_fewest 128 = .ok (.ishl, 1) := by decide +kernel
theorem dX9_fewest_129 : decode cX9_fewest 129 = .ok (.if_icmp .ge 70, 3) := by decide +kernel
theorem dX9_fewest_132 : decode cX9_fewest 132 = .ok (.iconst 0, 1) := by decide +kernel
theorem dX9_fewest_133 : decode cX9_fewest 133 = .ok (.istore 4, 2) := by decide +kernel
theorem dX9_fewest_135 : decode cX9_fewest 135 = .ok (.iconst 0, 1) := by decide +kernel
theorem dX9_fewest_136 : decode cX9_fewest 136 = .ok (.istore 5, 2) := by decide +kernel
theorem dX9_fewest_138 : decode cX9_fewest 138 = .ok (.iload 5, 2) := by decide +kernel
theorem dX9_fewest_140 : decode cX9_fewest 140 = .ok (.aload_n 0, 1) := by decide +kernel
theorem dX9_fewest_141 : decode cX9_fewest 141 = .ok (.getfield 13, 3) := by decide +kernel
theorem dX9_fewest_144 : decode cX9_fewest 144 = .ok (.aload_n 0, 1) := by decide +kernel
theorem dX9_fewest_145 : decode cX9_fewest 145 = .ok (.getfield 17, 3) := by decide +kernel
theorem dX9_fewest_148 : decode cX9_fewest 148 = .ok (.imul, 1) := by decide +kernel
theorem dX9_fewest_149 : decode cX9_fewest 149 = .ok (.if_icmp .ge 34, 3) := by decide +kernel
theorem dX9_fewest_152 : decode cX9_fewest 152 = .ok (.iload 4, 2) := by decide +kernel
theorem dX9_fewest_154 : decode cX9_fewest 154 = .ok (.iload_n 3, 1) := by decide +kernel
theorem dX9_fewest_155 : decode cX9_fewest 155 = .ok (.iload 5, 2) := by decide +kernel
theorem dX9_fewest_157 : decode cX9_fewest 157 = .ok (.invokestatic 134, 3) := by decide +kernel
theorem dX9_fewest_160 : decode cX9_fewest 160 = .ok (.ifCond .eq 13, 3) := by decide +kernel
theorem dX9_fewest_163 : decode cX9_fewest 163 = .ok (.aload_n 0, 1) := by decide +kernel
theorem dX9_fewest_164 : decode cX9_fewest 164 = .ok (.getfield 72, 3) := by decide +kernel
theorem dX9_fewest_167 : decode cX9_fewest 167 = .ok (.iload 5, 2) := by decide +kernel
theorem dX9_fewest_169 : decode cX9_fewest 169 = .ok (.iaload, 1) := by decide +kernel
theorem dX9_fewest_170 : decode cX9_fewest 170 = .ok (.goto 4, 3) := by decide +kernel
theorem dX9_fewest_173 : decode cX9_fewest 173 = .ok (.iconst 0, 1) := by decide +kernel
theorem dX9_fewest_174 : decode cX9_fewest 174 = .ok (.ior, 1) := by decide +kernel
theorem dX9_fewest_175 : decode cX9_fewest 175 = .ok (.istore 4, 2) := by decide +kernel
theorem dX9_fewest_177 : decode cX9_fewest 177 = .ok (.iinc 5 1, 3) := by decide +kernel
theorem dX9_fewest_180 : decode cX9_fewest 180 = .ok (.goto (-42), 3) := by decide +kernel
theorem dX9_fewest_183 : decode cX9_fewest 183 = .ok (.iload 4, 2) := by decide +kernel
theorem dX9_fewest_185 : decode cX9_fewest 185 = .ok (.iload_n 1, 1) := by decide +kernel
theorem dX9_fewest_186 : decode cX9_fewest 186 = .ok (.if_icmp .ne 5, 3) := by decide +kernel
theorem dX9_fewest_189 : decode cX9_fewest 189 = .ok (.iload_n 3, 1) := by decide +kernel
theorem dX9_fewest_190 : decode cX9_fewest 190 = .ok (.ireturn, 1) := by decide +kernel
theorem dX9_fewest_191 : decode cX9_fewest 191 = .ok (.iload_n 3, 1) := by decide +kernel
theorem dX9_fewest_192 : decode cX9_fewest 192 = .ok (.invokestatic 228, 3) := by decide +kernel
theorem dX9_fewest_195 : decode cX9_fewest 195 = .ok (.istore_n 3, 1) := by decide +kernel
theorem dX9_fewest_196 : decode cX9_fewest 196 = .ok (.goto (-79), 3) := by decide +kernel
theorem dX9_fewest_199 : decode cX9_fewest 199 = .ok (.iinc 2 1, 3) := by decide +kernel
theorem dX9_fewest_202 : decode cX9_fewest 202 = .ok (.goto (-99), 3) := by decide +kernel
theorem dX9_fewest_205 : decode cX9_fewest 205 = .ok (.bipush (-9), 2) := by decide +kernel
theorem dX9_fewest_207 : decode cX9_fewest 207 = .ok (.ireturn, 1) := by decide +kernel
theorem dX9_calls_0 : decode cX9_calls 0 = .ok (.aload_n 0, 1) := by decide +kernel
theorem dX9_calls_1 : decode cX9_calls 1 = .ok (.iconst 0, 1) := by decide +kernel
theorem dX9_calls_2 : decode cX9_calls 2 = .ok (.putfield 75, 3) := by decide +kernel
theorem dX9_calls_5 : decode cX9_calls 5 = .ok (.iload_n 1, 1) := by decide +kernel
theorem dX9_calls_6 : decode cX9_calls 6 = .ok (.i2l, 1) := by decide +kernel
theorem dX9_calls_7 : decode cX9_calls 7 = .ok (.lconst 0, 1) := by decide +kernel
theorem dX9_calls_8 : decode cX9_calls 8 = .ok (.lconst 1, 1) := by decide +kernel
theorem dX9_calls_9 : decode cX9_calls 9 = .ok (.invokestatic 81, 3) := by decide +kernel
theorem dX9_calls_12 : decode cX9_calls 12 = .ok (.ifCond .ne 6, 3) := by decide +kernel
theorem dX9_calls_15 : decode cX9_calls 15 = .ok (.bipush (-2), 2) := by decide +kernel
theorem dX9_calls_17 : decode cX9_calls 17 = .ok (.ireturn, 1) := by decide +kernel
theorem dX9_calls_18 : decode cX9_calls 18 = .ok (.aload_n 0, 1) := by decide +kernel
theorem dX9_calls_19 : decode cX9_calls 19 = .ok (.invokevirtual 231, 3) := by decide +kernel
theorem dX9_calls_22 : decode cX9_calls 22 = .ok (.istore_n 2, 1) := by decide +kernel
theorem dX9_calls_23 : decode cX9_calls 23 = .ok (.iload_n 1, 1) := by decide +kernel
theorem dX9_calls_24 : decode cX9_calls 24 = .ok (.ifCond .ne 7, 3) := by decide +kernel
theorem dX9_calls_27 : decode cX9_calls 27 = .ok (.iload_n 2, 1) := by decide +kernel
theorem dX9_calls_28 : decode cX9_calls 28 = .ok (.goto 7, 3) := by decide +kernel
theorem dX9_calls_31 : decode cX9_calls 31 = .ok (.iload_n 2, 1) := by decide +kernel
theorem dX9_calls_32 : decode cX9_calls 32 = .ok (.invokestatic 170, 3) := by decide +kernel
theorem dX9_calls_35 : decode cX9_calls 35 = .ok (.ireturn, 1) := by decide +kernel
theorem dX9_unlikeBy_0 : decode cX9_unlikeBy 0 = .ok (.iconst 0, 1) := by decide +kernel
theorem dX9_unlikeBy_1 : decode cX9_unlikeBy 1 = .ok (.istore_n 2, 1) := by decide +kernel
theorem dX9_unlikeBy_2 : decode cX9_unlikeBy 2 = .ok (.iconst 0, 1) := by decide +kernel
theorem dX9_unlikeBy_3 : decode cX9_unlikeBy 3 = .ok (.istore_n 3, 1) := by decide +kernel
theorem dX9_unlikeBy_4 : decode cX9_unlikeBy 4 = .ok (.iload_n 3, 1) := by decide +kernel
theorem dX9_unlikeBy_5 : decode cX9_unlikeBy 5 = .ok (.aload_n 0, 1) := by decide +kernel
theorem dX9_unlikeBy_6 : decode cX9_unlikeBy 6 = .ok (.getfield 17, 3) := by decide +kernel
theorem dX9_unlikeBy_9 : decode cX9_unlikeBy 9 = .ok (.if_icmp .ge 62, 3) := by decide +kernel
theorem dX9_unlikeBy_12 : decode cX9_unlikeBy 12 = .ok (.iload_n 2, 1) := by decide +kernel
theorem dX9_unlikeBy_13 : decode cX9_unlikeBy 13 = .ok (.aload_n 0, 1) := by decide +kernel
theorem dX9_unlikeBy_14 : decode cX9_unlikeBy 14 = .ok (.aload_n 0, 1) := by decide +kernel
theorem dX9_unlikeBy_15 : decode cX9_unlikeBy 15 = .ok (.getfield 35, 3) := by decide +kernel
theorem dX9_unlikeBy_18 : decode cX9_unlikeBy 18 = .ok (.iload_n 3, 1) := by decide +kernel
theorem dX9_unlikeBy_19 : decode cX9_unlikeBy 19 = .ok (.aload_n 0, 1) := by decide +kernel
theorem dX9_unlikeBy_20 : decode cX9_unlikeBy 20 = .ok (.getfield 13, 3) := by decide +kernel
theorem dX9_unlikeBy_23 : decode cX9_unlikeBy 23 = .ok (.imul, 1) := by decide +kernel
theorem dX9_unlikeBy_24 : decode cX9_unlikeBy 24 = .ok (.aload_n 0, 1) := by decide +kernel
theorem dX9_unlikeBy_25 : decode cX9_unlikeBy 25 = .ok (.getfield 13, 3) := by decide +kernel
theorem dX9_unlikeBy_28 : decode cX9_unlikeBy 28 = .ok (.iadd, 1) := by decide +kernel
theorem dX9_unlikeBy_29 : decode cX9_unlikeBy 29 = .ok (.iconst 1, 1) := by decide +kernel
theorem dX9_unlikeBy_30 : decode cX9_unlikeBy 30 = .ok (.isub, 1) := by decide +kernel
theorem dX9_unlikeBy_31 : decode cX9_unlikeBy 31 = .ok (.invokevirtual 144, 3) := by decide +kernel
theorem dX9_unlikeBy_34 : decode cX9_unlikeBy 34 = .ok (.aload_n 0, 1) := by decide +kernel
theorem dX9_unlikeBy_35 : decode cX9_unlikeBy 35 = .ok (.aload_n 0, 1) := by decide +kernel
theorem dX9_unlikeBy_36 : decode cX9_unlikeBy 36 = .ok (.getfield 35, 3) := by decide +kernel
theorem dX9_unlikeBy_39 : decode cX9_unlikeBy 39 = .ok (.iload_n 3, 1) := by decide +kernel
theorem dX9_unlikeBy_40 : decode cX9_unlikeBy 40 = .ok (.iload_n 1, 1) := by decide +kernel
theorem dX9_unlikeBy_41 : decode cX9_unlikeBy 41 = .ok (.iadd, 1) := by decide +kernel
theorem dX9_unlikeBy_42 : decode cX9_unlikeBy 42 = .ok (.aload_n 0, 1) := by decide +kernel
theorem dX9_unlikeBy_43 : decode cX9_unlikeBy 43 = .ok (.getfield 17, 3) := by decide +kernel
theorem dX9_unlikeBy_46 : decode cX9_unlikeBy 46 = .ok (.irem, 1) := by decide +kernel
theorem dX9_unlikeBy_47 : decode cX9_unlikeBy 47 = .ok (.aload_n 0, 1) := by decide +kernel
theorem dX9_unlikeBy_48 : decode cX9_unlikeBy 48 = .ok (.getfield 13, 3) := by decide +kernel
theorem dX9_unlikeBy_51 : decode cX9_unlikeBy 51 = .ok (.imul, 1) := by decide +kernel
theorem dX9_unlikeBy_52 : decode cX9_unlikeBy 52 = .ok (.invokevirtual 144, 3) := by decide +kernel
theorem dX9_unlikeBy_55 : decode cX9_unlikeBy 55 = .ok (.if_icmp .ne 7, 3) := by decide +kernel
theorem dX9_unlikeBy_58 : decode cX9_unlikeBy 58 = .ok (.iconst 0, 1) := by decide +kernel
theorem dX9_unlikeBy_59 : decode cX9_unlikeBy 59 = .ok (.goto 4, 3) := by decide +kernel
theorem dX9_unlikeBy_62 : decode cX9_unlikeBy 62 = .ok (.iconst 1, 1) := by decide +kernel
theorem dX9_unlikeBy_63 : decode cX9_unlikeBy 63 = .ok (.iadd, 1) := by decide +kernel
theorem dX9_unlikeBy_64 : decode cX9_unlikeBy 64 = .ok (.istore_n 2, 1) := by decide +kernel
theorem dX9_unlikeBy_65 : decode cX9_unlikeBy 65 = .ok (.iinc 3 1, 3) := by decide +kernel
theorem dX9_unlikeBy_68 : decode cX9_unlikeBy 68 = .ok (.goto (-64), 3) := by decide +kernel
theorem dX9_unlikeBy_71 : decode cX9_unlikeBy 71 = .ok (.iload_n 2, 1) := by decide +kernel
theorem dX9_unlikeBy_72 : decode cX9_unlikeBy 72 = .ok (.ireturn, 1) := by decide +kernel
theorem dX9_match_0 : decode cX9_match 0 = .ok (.aload_n 0, 1) := by decide +kernel
theorem dX9_match_1 : decode cX9_match 1 = .ok (.iconst 0, 1) := by decide +kernel
theorem dX9_match_2 : decode cX9_match 2 = .ok (.putfield 75, 3) := by decide +kernel
theorem dX9_match_5 : decode cX9_match 5 = .ok (.iload_n 1, 1) := by decide +kernel
theorem dX9_match_6 : decode cX9_match 6 = .ok (.i2l, 1) := by decide +kernel
theorem dX9_match_7 : decode cX9_match 7 = .ok (.lconst 0, 1) := by decide +kernel
theorem dX9_match_8 : decode cX9_match 8 = .ok (.lconst 1, 1) := by decide +kernel
theorem dX9_match_9 : decode cX9_match 9 = .ok (.invokestatic 81, 3) := by decide +kernel
theorem dX9_match_12 : decode cX9_match 12 = .ok (.ifCond .ne 6, 3) := by decide +kernel
theorem dX9_match_15 : decode cX9_match 15 = .ok (.bipush (-2), 2) := by decide +kernel
theorem dX9_match_17 : decode cX9_match 17 = .ok (.ireturn, 1) := by decide +kernel
theorem dX9_match_18 : decode cX9_match 18 = .ok (.iconst 0, 1) := by decide +kernel
theorem dX9_match_19 : decode cX9_match 19 = .ok (.istore_n 2, 1) := by decide +kernel
theorem dX9_match_20 : decode cX9_match 20 = .ok (.aload_n 0, 1) := by decide +kernel
theorem dX9_match_21 : decode cX9_match 21 = .ok (.aload_n 0, 1) := by decide +kernel
theorem dX9_match_22 : decode cX9_match 22 = .ok (.iconst 0, 1) := by decide +kernel
theorem dX9_match_23 : decode cX9_match 23 = .ok (.invokevirtual 234, 3) := by decide +kernel
theorem dX9_match_26 : decode cX9_match 26 = .ok (.putfield 237, 3) := by decide +kernel
theorem dX9_match_29 : decode cX9_match 29 = .ok (.iconst 1, 1) := by decide +kernel
theorem dX9_match_30 : decode cX9_match 30 = .ok (.istore_n 3, 1) := by decide +kernel
theorem dX9_match_31 : decode cX9_match 31 = .ok (.iload_n 3, 1) := by decide +kernel
theorem dX9_match_32 : decode cX9_match 32 = .ok (.aload_n 0, 1) := by decide +kernel
theorem dX9_match_33 : decode cX9_match 33 = .ok (.getfield 17, 3) := by decide +kernel
theorem dX9_match_36 : decode cX9_match 36 = .ok (.if_icmp .ge 53, 3) := by decide +kernel
theorem dX9_match_39 : decode cX9_match 39 = .ok (.aload_n 0, 1) := by decide +kernel
theorem dX9_match_40 : decode cX9_match 40 = .ok (.iload_n 3, 1) := by decide +kernel
theorem dX9_match_41 : decode cX9_match 41 = .ok (.invokevirtual 234, 3) := by decide +kernel
theorem dX9_match_44 : decode cX9_match 44 = .ok (.istore 4, 2) := by decide +kernel
theorem dX9_match_46 : decode cX9_match 46 = .ok (.iload 4, 2) := by decide +kernel
theorem dX9_match_48 : decode cX9_match 48 = .ok (.aload_n 0, 1) := by decide +kernel
theorem dX9_match_49 : decode cX9_match 49 = .ok (.getfield 237, 3) := by decide +kernel
theorem dX9_match_52 : decode cX9_match 52 = .ok (.if_icmp .ge 7, 3) := by decide +kernel
theorem dX9_match_55 : decode cX9_match 55 = .ok (.iload_n 3, 1) := by decide +kernel
theorem dX9_match_56 : decode cX9_match 56 = .ok (.goto 4, 3) := by decide +kernel
theorem dX9_match_59 : decode cX9_match 59 = .ok (.iload_n 2, 1) := by decide +kernel
theorem dX9_match_60 : decode cX9_match 60 = .ok (.istore_n 2, 1) := by decide +kernel
theorem dX9_match_61 : decode cX9_match 61 = .ok (.aload_n 0, 1) := by decide +kernel
theorem dX9_match_62 : decode cX9_match 62 = .ok (.iload 4, 2) := by decide +kernel
theorem dX9_match_64 : decode cX9_match 64 = .ok (.aload_n 0, 1) := by decide +kernel
theorem dX9_match_65 : decode cX9_match 65 = .ok (.getfield 237, 3) := by decide +kernel
theorem dX9_match_68 : decode cX9_match 68 = .ok (.if_icmp .ge 8, 3) := by decide +kernel
theorem dX9_match_71 : decode cX9_match 71 = .ok (.iload 4, 2) := by decide +kernel
theorem dX9_match_73 : decode cX9_match 73 = .ok (.goto 7, 3) := by decide +kernel
theorem dX9_match_76 : decode cX9_match 76 = .ok (.aload_n 0, 1) := by decide +kernel
theorem dX9_match_77 : decode cX9_match 77 = .ok (.getfield 237, 3) := by decide +kernel
theorem dX9_match_80 : decode cX9_match 80 = .ok (.putfield 237, 3) := by decide +kernel
theorem dX9_match_83 : decode cX9_match 83 = .ok (.iinc 3 1, 3) := by decide +kernel
theorem dX9_match_86 : decode cX9_match 86 = .ok (.goto (-55), 3) := by decide +kernel
theorem dX9_match_89 : decode cX9_match 89 = .ok (.iload_n 1, 1) := by decide +kernel
theorem dX9_match_90 : decode cX9_match 90 = .ok (.ifCond .ne 7, 3) := by decide +kernel
theorem dX9_match_93 : decode cX9_match 93 = .ok (.iload_n 2, 1) := by decide +kernel
theorem dX9_match_94 : decode cX9_match 94 = .ok (.goto 7, 3) := by decide +kernel
theorem dX9_match_97 : decode cX9_match 97 = .ok (.aload_n 0, 1) := by decide +kernel
theorem dX9_match_98 : decode cX9_match 98 = .ok (.getfield 237, 3) := by decide +kernel
theorem dX9_match_101 : decode cX9_match 101 = .ok (.ireturn, 1) := by decide +kernel
theorem dX9_longPower_0 : decode cX9_longPower 0 = .ok (.lconst 1, 1) := by decide +kernel
theorem dX9_longPower_1 : decode cX9_longPower 1 = .ok (.lstore_n 3, 1) := by decide +kernel
theorem dX9_longPower_2 : decode cX9_longPower 2 = .ok (.iconst 0, 1) := by decide +kernel
theorem dX9_longPower_3 : decode cX9_longPower 3 = .ok (.istore 5, 2) := by decide +kernel
theorem dX9_longPower_5 : decode cX9_longPower 5 = .ok (.iload 5, 2) := by decide +kernel
theorem dX9_longPower_7 : decode cX9_longPower 7 = .ok (.iload_n 2, 1) := by decide +kernel
theorem dX9_longPower_8 : decode cX9_longPower 8 = .ok (.if_icmp .ge 13, 3) := by decide +kernel
theorem dX9_longPower_11 : decode cX9_longPower 11 = .ok (.lload_n 3, 1) := by decide +kernel
theorem dX9_longPower_12 : decode cX9_longPower 12 = .ok (.lload_n 0, 1) := by decide +kernel
theorem dX9_longPower_13 : decode cX9_longPower 13 = .ok (.lmul, 1) := by decide +kernel
theorem dX9_longPower_14 : decode cX9_longPower 14 = .ok (.lstore_n 3, 1) := by decide +kernel
theorem dX9_longPower_15 : decode cX9_longPower 15 = .ok (.iinc 5 1, 3) := by decide +kernel
theorem dX9_longPower_18 : decode cX9_longPower 18 = .ok (.goto (-13), 3) := by decide +kernel
theorem dX9_longPower_21 : decode cX9_longPower 21 = .ok (.lload_n 3, 1) := by decide +kernel
theorem dX9_longPower_22 : decode cX9_longPower 22 = .ok (.lreturn, 1) := by decide +kernel
theorem dX9_does_0 : decode cX9_does 0 = .ok (.iload_n 1, 1) := by decide +kernel
theorem dX9_does_1 : decode cX9_does 1 = .ok (.bipush 100, 2) := by decide +kernel
theorem dX9_does_3 : decode cX9_does 3 = .ok (.idiv, 1) := by decide +kernel
theorem dX9_does_4 : decode cX9_does 4 = .ok (.istore_n 2, 1) := by decide +kernel
theorem dX9_does_5 : decode cX9_does 5 = .ok (.iload_n 1, 1) := by decide +kernel
theorem dX9_does_6 : decode cX9_does 6 = .ok (.bipush 100, 2) := by decide +kernel
theorem dX9_does_8 : decode cX9_does 8 = .ok (.irem, 1) := by decide +kernel
theorem dX9_does_9 : decode cX9_does 9 = .ok (.istore_n 3, 1) := by decide +kernel
theorem dX9_does_10 : decode cX9_does 10 = .ok (.iload_n 2, 1) := by decide +kernel
theorem dX9_does_11 : decode cX9_does 11 = .ok (.iconst 1, 1) := by decide +kernel
theorem dX9_does_12 : decode cX9_does 12 = .ok (.if_icmp .ne 49, 3) := by decide +kernel
theorem dX9_does_15 : decode cX9_does 15 = .ok (.aload_n 0, 1) := by decide +kernel
theorem dX9_does_16 : decode cX9_does 16 = .ok (.iload_n 3, 1) := by decide +kernel
theorem dX9_does_17 : decode cX9_does 17 = .ok (.bipush 10, 2) := by decide +kernel
theorem dX9_does_19 : decode cX9_does 19 = .ok (.idiv, 1) := by decide +kernel
theorem dX9_does_20 : decode cX9_does 20 = .ok (.invokevirtual 191, 3) := by decide +kernel
theorem dX9_does_23 : decode cX9_does 23 = .ok (.ifCond .ne 36, 3) := by decide +kernel
theorem dX9_does_26 : decode cX9_does 26 = .ok (.iload_n 3, 1) := by decide +kernel
theorem dX9_does_27 : decode cX9_does 27 = .ok (.bipush 10, 2) := by decide +kernel
theorem dX9_does_29 : decode cX9_does 29 = .ok (.irem, 1) := by decide +kernel
theorem dX9_does_30 : decode cX9_does 30 = .ok (.invokestatic 184, 3) := by decide +kernel
theorem dX9_does_33 : decode cX9_does 33 = .ok (.ifCond .ne 26, 3) := by decide +kernel
theorem dX9_does_36 : decode cX9_does 36 = .ok (.aload_n 0, 1) := by decide +kernel
theorem dX9_does_37 : decode cX9_does 37 = .ok (.aload_n 0, 1) := by decide +kernel
theorem dX9_does_38 : decode cX9_does 38 = .ok (.getfield 38, 3) := by decide +kernel
theorem dX9_does_41 : decode cX9_does 41 = .ok (.iload_n 3, 1) := by decide +kernel
theorem dX9_does_42 : decode cX9_does 42 = .ok (.bipush 10, 2) := by decide +kernel
theorem dX9_does_44 : decode cX9_does 44 = .ok (.idiv, 1) := by decide +kernel
theorem dX9_does_45 : decode cX9_does 45 = .ok (.iload_n 3, 1) := by decide +kernel
theorem dX9_does_46 : decode cX9_does 46 = .ok (.bipush 10, 2) := by decide +kernel
theorem dX9_does_48 : decode cX9_does 48 = .ok (.irem, 1) := by decide +kernel
theorem dX9_does_49 : decode cX9_does 49 = .ok (.invokevirtual 200, 3) := by decide +kernel
theorem dX9_does_52 : decode cX9_does 52 = .ok (.ifCond .eq 7, 3) := by decide +kernel
theorem dX9_does_55 : decode cX9_does 55 = .ok (.iconst 1, 1) := by decide +kernel
theorem dX9_does_56 : decode cX9_does 56 = .ok (.goto 4, 3) := by decide +kernel
theorem dX9_does_59 : decode cX9_does 59 = .ok (.iconst 0, 1) := by decide +kernel
theorem dX9_does_60 : decode cX9_does 60 = .ok (.ireturn, 1) := by decide +kernel
theorem dX9_does_61 : decode cX9_does 61 = .ok (.iload_n 2, 1) := by decide +kernel
theorem dX9_does_62 : decode cX9_does 62 = .ok (.iconst 2, 1) := by decide +kernel
theorem dX9_does_63 : decode cX9_does 63 = .ok (.if_icmp .ne 22, 3) := by decide +kernel
theorem dX9_does_66 : decode cX9_does 66 = .ok (.aload_n 0, 1) := by decide +kernel
theorem dX9_does_67 : decode cX9_does 67 = .ok (.iload_n 3, 1) := by decide +kernel
theorem dX9_does_68 : decode cX9_does 68 = .ok (.invokevirtual 180, 3) := by decide +kernel
theorem dX9_does_71 : decode cX9_does 71 = .ok (.ifCond .ne 14, 3) := by decide +kernel
theorem dX9_does_74 : decode cX9_does 74 = .ok (.aload_n 0, 1) := by decide +kernel
theorem dX9_does_75 : decode cX9_does 75 = .ok (.aload_n 0, 1) := by decide +kernel
theorem dX9_does_76 : decode cX9_does 76 = .ok (.getfield 38, 3) := by decide +kernel
theorem dX9_does_79 : decode cX9_does 79 = .ok (.iload_n 3, 1) := by decide +kernel
theorem dX9_does_80 : decode cX9_does 80 = .ok (.invokevirtual 209, 3) := by decide +kernel
theorem dX9_does_83 : decode cX9_does 83 = .ok (.iconst 1, 1) := by decide +kernel
theorem dX9_does_84 : decode cX9_does 84 = .ok (.ireturn, 1) := by decide +kernel
theorem dX9_does_85 : decode cX9_does 85 = .ok (.iload_n 2, 1) := by decide +kernel
theorem dX9_does_86 : decode cX9_does 86 = .ok (.iconst 3, 1) := by decide +kernel
theorem dX9_does_87 : decode cX9_does 87 = .ok (.if_icmp .ne 39, 3) := by decide +kernel
theorem dX9_does_90 : decode cX9_does 90 = .ok (.aload_n 0, 1) := by decide +kernel
theorem dX9_does_91 : decode cX9_does 91 = .ok (.iload_n 3, 1) := by decide +kernel
theorem dX9_does_92 : decode cX9_does 92 = .ok (.invokevirtual 180, 3) := by decide +kernel
theorem dX9_does_95 : decode cX9_does 95 = .ok (.ifCond .ne 31, 3) := by decide +kernel
theorem dX9_does_98 : decode cX9_does 98 = .ok (.aload_n 0, 1) := by decide +kernel
theorem dX9_does_99 : decode cX9_does 99 = .ok (.aload_n 0, 1) := by decide +kernel
theorem dX9_does_100 : decode cX9_does 100 = .ok (.getfield 38, 3) := by decide +kernel
theorem dX9_does_103 : decode cX9_does 103 = .ok (.iload_n 3, 1) := by decide +kernel
theorem dX9_does_104 : decode cX9_does 104 = .ok (.invokevirtual 144, 3) := by decide +kernel
theorem dX9_does_107 : decode cX9_does 107 = .ok (.iconst 1, 1) := by decide +kernel
theorem dX9_does_108 : decode cX9_does 108 = .ok (.if_icmp .ne 18, 3) := by decide +kernel
theorem dX9_does_111 : decode cX9_does 111 = .ok (.aload_n 0, 1) := by decide +kernel
theorem dX9_does_112 : decode cX9_does 112 = .ok (.getfield 38, 3) := by decide +kernel
theorem dX9_does_115 : decode cX9_does 115 = .ok (.bipush 15, 2) := by decide +kernel
theorem dX9_does_117 : decode cX9_does 117 = .ok (.dup2, 1) := by decide +kernel
theorem dX9_does_118 : decode cX9_does 118 = .ok (.iaload, 1) := by decide +kernel
theorem dX9_does_119 : decode cX9_does 119 = .ok (.iconst 1, 1) := by decide +kernel
theorem dX9_does_120 : decode cX9_does 120 = .ok (.iload_n 3, 1) := by decide +kernel
theorem dX9_does_121 : decode cX9_does 121 = .ok (.ishl, 1) := by decide +kernel
theorem dX9_does_122 : decode cX9_does 122 = .ok (.ior, 1) := by decide +kernel
theorem dX9_does_123 : decode cX9_does 123 = .ok (.iastore, 1) := by decide +kernel
theorem dX9_does_124 : decode cX9_does 124 = .ok (.iconst 1, 1) := by decide +kernel
theorem dX9_does_125 : decode cX9_does 125 = .ok (.ireturn, 1) := by decide +kernel
theorem dX9_does_126 : decode cX9_does 126 = .ok (.iload_n 2, 1) := by decide +kernel
theorem dX9_does_127 : decode cX9_does 127 = .ok (.iconst 4, 1) := by decide +kernel
theorem dX9_does_128 : decode cX9_does 128 = .ok (.if_icmp .ne 27, 3) := by decide +kernel
theorem dX9_does_131 : decode cX9_does 131 = .ok (.aload_n 0, 1) := by decide +kernel
theorem dX9_does_132 : decode cX9_does 132 = .ok (.iload_n 3, 1) := by decide +kernel
theorem dX9_does_133 : decode cX9_does 133 = .ok (.invokevirtual 191, 3) := by decide +kernel
theorem dX9_does_136 : decode cX9_does 136 = .ok (.ifCond .ne 19, 3) := by decide +kernel
theorem dX9_does_139 : decode cX9_does 139 = .ok (.aload_n 0, 1) := by decide +kernel
theorem dX9_does_140 : decode cX9_does 140 = .ok (.aload_n 0, 1) := by decide +kernel
theorem dX9_does_141 : decode cX9_does 141 = .ok (.getfield 38, 3) := by decide +kernel
theorem dX9_does_144 : decode cX9_does 144 = .ok (.iload_n 3, 1) := by decide +kernel
theorem dX9_does_145 : decode cX9_does 145 = .ok (.invokevirtual 162, 3) := by decide +kernel
theorem dX9_does_148 : decode cX9_does 148 = .ok (.ifCond .eq 7, 3) := by decide +kernel
theorem dX9_does_151 : decode cX9_does 151 = .ok (.iconst 1, 1) := by decide +kernel
theorem dX9_does_152 : decode cX9_does 152 = .ok (.goto 4, 3) := by decide +kernel
theorem dX9_does_155 : decode cX9_does 155 = .ok (.iconst 0, 1) := by decide +kernel
theorem dX9_does_156 : decode cX9_does 156 = .ok (.ireturn, 1) := by decide +kernel
theorem dX9_judge_0 : decode cX9_judge 0 = .ok (.aload_n 0, 1) := by decide +kernel
theorem dX9_judge_1 : decode cX9_judge 1 = .ok (.iconst 0, 1) := by decide +kernel
theorem dX9_judge_2 : decode cX9_judge 2 = .ok (.putfield 75, 3) := by decide +kernel
theorem dX9_judge_5 : decode cX9_judge 5 = .ok (.iload_n 1, 1) := by decide +kernel
theorem dX9_judge_6 : decode cX9_judge 6 = .ok (.i2l, 1) := by decide +kernel
theorem dX9_judge_7 : decode cX9_judge 7 = .ok (.lconst 1, 1) := by decide +kernel
theorem dX9_judge_8 : decode cX9_judge 8 = .ok (.ldc2_w 240, 3) := by decide +kernel
theorem dX9_judge_11 : decode cX9_judge 11 = .ok (.invokestatic 81, 3) := by decide +kernel
theorem dX9_judge_14 : decode cX9_judge 14 = .ok (.ifCond .eq 20, 3) := by decide +kernel
theorem dX9_judge_17 : decode cX9_judge 17 = .ok (.lload_n 2, 1) := by decide +kernel
theorem dX9_judge_18 : decode cX9_judge 18 = .ok (.lconst 0, 1) := by decide +kernel
theorem dX9_judge_19 : decode cX9_judge 19 = .ok (.ldc2_w 242, 3) := by decide +kernel
theorem dX9_judge_22 : decode cX9_judge 22 = .ok (.iload_n 1, 1) := by decide +kernel
theorem dX9_judge_23 : decode cX9_judge 23 = .ok (.invokestatic 244, 3) := by decide +kernel
theorem dX9_judge_26 : decode cX9_judge 26 = .ok (.lconst 1, 1) := by decide +kernel
theorem dX9_judge_27 : decode cX9_judge 27 = .ok (.lsub, 1) := by decide +kernel
theorem dX9_judge_28 : decode cX9_judge 28 = .ok (.invokestatic 81, 3) := by decide +kernel
theorem dX9_judge_31 : decode cX9_judge 31 = .ok (.ifCond .ne 6, 3) := by decide +kernel
theorem dX9_judge_34 : decode cX9_judge 34 = .ok (.bipush (-2), 2) := by decide +kernel
theorem dX9_judge_36 : decode cX9_judge 36 = .ok (.ireturn, 1) := by decide +kernel
theorem dX9_judge_37 : decode cX9_judge 37 = .ok (.aload_n 0, 1) := by decide +kernel
theorem dX9_judge_38 : decode cX9_judge 38 = .ok (.invokevirtual 248, 3) := by decide +kernel
theorem dX9_judge_41 : decode cX9_judge 41 = .ok (.iconst 0, 1) := by decide +kernel
theorem dX9_judge_42 : decode cX9_judge 42 = .ok (.istore 4, 2) := by decide +kernel
theorem dX9_judge_44 : decode cX9_judge 44 = .ok (.iload 4, 2) := by decide +kernel
theorem dX9_judge_46 : decode cX9_judge 46 = .ok (.iload_n 1, 1) := by decide +kernel
theorem dX9_judge_47 : decode cX9_judge 47 = .ok (.if_icmp .ge 38, 3) := by decide +kernel
theorem dX9_judge_50 : decode cX9_judge 50 = .ok (.aload_n 0, 1) := by decide +kernel
theorem dX9_judge_51 : decode cX9_judge 51 = .ok (.lload_n 2, 1) := by decide +kernel
theorem dX9_judge_52 : decode cX9_judge 52 = .ok (.ldc2_w 242, 3) := by decide +kernel
theorem dX9_judge_55 : decode cX9_judge 55 = .ok (.iload_n 1, 1) := by decide +kernel
theorem dX9_judge_56 : decode cX9_judge 56 = .ok (.iconst 1, 1) := by decide +kernel
theorem dX9_judge_57 : decode cX9_judge 57 = .ok (.isub, 1) := by decide +kernel
theorem dX9_judge_58 : decode cX9_judge 58 = .ok (.iload 4, 2) := by decide +kernel
theorem dX9_judge_60 : decode cX9_judge 60 = .ok (.isub, 1) := by decide +kernel
theorem dX9_judge_61 : decode cX9_judge 61 = .ok (.invokestatic 244, 3) := by decide +kernel
theorem dX9_judge_64 : decode cX9_judge 64 = .ok (.ldiv, 1) := by decide +kernel
theorem dX9_judge_65 : decode cX9_judge 65 = .ok (.ldc2_w 242, 3) := by decide +kernel
theorem dX9_judge_68 : decode cX9_judge 68 = .ok (.lrem, 1) := by decide +kernel
theorem dX9_judge_69 : decode cX9_judge 69 = .ok (.l2i, 1) := by decide +kernel
theorem dX9_judge_70 : decode cX9_judge 70 = .ok (.invokevirtual 251, 3) := by decide +kernel
theorem dX9_judge_73 : decode cX9_judge 73 = .ok (.ifCond .ne 6, 3) := by decide +kernel
theorem dX9_judge_76 : decode cX9_judge 76 = .ok (.iload 4, 2) := by decide +kernel
theorem dX9_judge_78 : decode cX9_judge 78 = .ok (.ireturn, 1) := by decide +kernel
theorem dX9_judge_79 : decode cX9_judge 79 = .ok (.iinc 4 1, 3) := by decide +kernel
theorem dX9_judge_82 : decode cX9_judge 82 = .ok (.goto (-38), 3) := by decide +kernel
theorem dX9_judge_85 : decode cX9_judge 85 = .ok (.bipush (-9), 2) := by decide +kernel
theorem dX9_judge_87 : decode cX9_judge 87 = .ok (.ireturn, 1) := by decide +kernel
theorem dX9_ways_0 : decode cX9_ways 0 = .ok (.iconst 1, 1) := by decide +kernel
theorem dX9_ways_1 : decode cX9_ways 1 = .ok (.istore_n 1, 1) := by decide +kernel
theorem dX9_ways_2 : decode cX9_ways 2 = .ok (.iconst 2, 1) := by decide +kernel
theorem dX9_ways_3 : decode cX9_ways 3 = .ok (.istore_n 2, 1) := by decide +kernel
theorem dX9_ways_4 : decode cX9_ways 4 = .ok (.iload_n 2, 1) := by decide +kernel
theorem dX9_ways_5 : decode cX9_ways 5 = .ok (.iload_n 0, 1) := by decide +kernel
theorem dX9_ways_6 : decode cX9_ways 6 = .ok (.if_icmp .gt 13, 3) := by decide +kernel
theorem dX9_ways_9 : decode cX9_ways 9 = .ok (.iload_n 1, 1) := by decide +kernel
theorem dX9_ways_10 : decode cX9_ways 10 = .ok (.iload_n 2, 1) := by decide +kernel
theorem dX9_ways_11 : decode cX9_ways 11 = .ok (.imul, 1) := by decide +kernel
theorem dX9_ways_12 : decode cX9_ways 12 = .ok (.istore_n 1, 1) := by decide +kernel
theorem dX9_ways_13 : decode cX9_ways 13 = .ok (.iinc 2 1, 3) := by decide +kernel
theorem dX9_ways_16 : decode cX9_ways 16 = .ok (.goto (-12), 3) := by decide +kernel
theorem dX9_ways_19 : decode cX9_ways 19 = .ok (.iload_n 1, 1) := by decide +kernel
theorem dX9_ways_20 : decode cX9_ways 20 = .ok (.ireturn, 1) := by decide +kernel
theorem dX9_divisor_0 : decode cX9_divisor 0 = .ok (.iload_n 0, 1) := by decide +kernel
theorem dX9_divisor_1 : decode cX9_divisor 1 = .ok (.ifCond .ge 8, 3) := by decide +kernel
theorem dX9_divisor_4 : decode cX9_divisor 4 = .ok (.iload_n 0, 1) := by decide +kernel
theorem dX9_divisor_5 : decode cX9_divisor 5 = .ok (.ineg, 1) := by decide +kernel
theorem dX9_divisor_6 : decode cX9_divisor 6 = .ok (.goto 4, 3) := by decide +kernel
theorem dX9_divisor_9 : decode cX9_divisor 9 = .ok (.iload_n 0, 1) := by decide +kernel
theorem dX9_divisor_10 : decode cX9_divisor 10 = .ok (.istore_n 2, 1) := by decide +kernel
theorem dX9_divisor_11 : decode cX9_divisor 11 = .ok (.iload_n 1, 1) := by decide +kernel
theorem dX9_divisor_12 : decode cX9_divisor 12 = .ok (.istore_n 3, 1) := by decide +kernel
theorem dX9_divisor_13 : decode cX9_divisor 13 = .ok (.iload_n 3, 1) := by decide +kernel
theorem dX9_divisor_14 : decode cX9_divisor 14 = .ok (.ifCond .eq 16, 3) := by decide +kernel
theorem dX9_divisor_17 : decode cX9_divisor 17 = .ok (.iload_n 2, 1) := by decide +kernel
theorem dX9_divisor_18 : decode cX9_divisor 18 = .ok (.iload_n 3, 1) := by decide +kernel
theorem dX9_divisor_19 : decode cX9_divisor 19 = .ok (.irem, 1) := by decide +kernel
theorem dX9_divisor_20 : decode cX9_divisor 20 = .ok (.istore 4, 2) := by decide +kernel
theorem dX9_divisor_22 : decode cX9_divisor 22 = .ok (.iload_n 3, 1) := by decide +kernel
theorem dX9_divisor_23 : decode cX9_divisor 23 = .ok (.istore_n 2, 1) := by decide +kernel
theorem dX9_divisor_24 : decode cX9_divisor 24 = .ok (.iload 4, 2) := by decide +kernel
theorem dX9_divisor_26 : decode cX9_divisor 26 = .ok (.istore_n 3, 1) := by decide +kernel
theorem dX9_divisor_27 : decode cX9_divisor 27 = .ok (.goto (-14), 3) := by decide +kernel
theorem dX9_divisor_30 : decode cX9_divisor 30 = .ok (.iload_n 2, 1) := by decide +kernel
theorem dX9_divisor_31 : decode cX9_divisor 31 = .ok (.ireturn, 1) := by decide +kernel
theorem dX9_fraction_0 : decode cX9_fraction 0 = .ok (.iload_n 0, 1) := by decide +kernel
theorem dX9_fraction_1 : decode cX9_fraction 1 = .ok (.iload_n 1, 1) := by decide +kernel
theorem dX9_fraction_2 : decode cX9_fraction 2 = .ok (.invokestatic 254, 3) := by decide +kernel
theorem dX9_fraction_5 : decode cX9_fraction 5 = .ok (.istore_n 3, 1) := by decide +kernel
theorem dX9_fraction_6 : decode cX9_fraction 6 = .ok (.iload_n 2, 1) := by decide +kernel
theorem dX9_fraction_7 : decode cX9_fraction 7 = .ok (.ifCond .eq 9, 3) := by decide +kernel
theorem dX9_fraction_10 : decode cX9_fraction 10 = .ok (.iload_n 0, 1) := by decide +kernel
theorem dX9_fraction_11 : decode cX9_fraction 11 = .ok (.iload_n 3, 1) := by decide +kernel
theorem dX9_fraction_12 : decode cX9_fraction 12 = .ok (.idiv, 1) := by decide +kernel
theorem dX9_fraction_13 : decode cX9_fraction 13 = .ok (.goto 6, 3) := by decide +kernel
theorem dX9_fraction_16 : decode cX9_fraction 16 = .ok (.iload_n 1, 1) := by decide +kernel
theorem dX9_fraction_17 : decode cX9_fraction 17 = .ok (.iload_n 3, 1) := by decide +kernel
theorem dX9_fraction_18 : decode cX9_fraction 18 = .ok (.idiv, 1) := by decide +kernel
theorem dX9_fraction_19 : decode cX9_fraction 19 = .ok (.ireturn, 1) := by decide +kernel
theorem dX9_share_0 : decode cX9_share 0 = .ok (.aload_n 0, 1) := by decide +kernel
theorem dX9_share_1 : decode cX9_share 1 = .ok (.iconst 0, 1) := by decide +kernel
theorem dX9_share_2 : decode cX9_share 2 = .ok (.putfield 75, 3) := by decide +kernel
theorem dX9_share_5 : decode cX9_share 5 = .ok (.aload_n 0, 1) := by decide +kernel
theorem dX9_share_6 : decode cX9_share 6 = .ok (.iload_n 1, 1) := by decide +kernel
theorem dX9_share_7 : decode cX9_share 7 = .ok (.invokevirtual 191, 3) := by decide +kernel
theorem dX9_share_10 : decode cX9_share 10 = .ok (.ifCond .eq 5, 3) := by decide +kernel
theorem dX9_share_13 : decode cX9_share 13 = .ok (.iconst (-1), 1) := by decide +kernel
theorem dX9_share_14 : decode cX9_share 14 = .ok (.ireturn, 1) := by decide +kernel
theorem dX9_share_15 : decode cX9_share 15 = .ok (.iconst 0, 1) := by decide +kernel
theorem dX9_share_16 : decode cX9_share 16 = .ok (.istore_n 3, 1) := by decide +kernel
theorem dX9_share_17 : decode cX9_share 17 = .ok (.iload_n 3, 1) := by decide +kernel
theorem dX9_share_18 : decode cX9_share 18 = .ok (.iconst 1, 1) := by decide +kernel
theorem dX9_share_19 : decode cX9_share 19 = .ok (.aload_n 0, 1) := by decide +kernel
theorem dX9_share_20 : decode cX9_share 20 = .ok (.getfield 78, 3) := by decide +kernel
theorem dX9_share_23 : decode cX9_share 23 = .ok (.ishl, 1) := by decide +kernel
theorem dX9_share_24 : decode cX9_share 24 = .ok (.if_icmp .ge 16, 3) := by decide +kernel
theorem dX9_share_27 : decode cX9_share 27 = .ok (.aload_n 0, 1) := by decide +kernel
theorem dX9_share_28 : decode cX9_share 28 = .ok (.getfield 72, 3) := by decide +kernel
theorem dX9_share_31 : decode cX9_share 31 = .ok (.iload_n 3, 1) := by decide +kernel
theorem dX9_share_32 : decode cX9_share 32 = .ok (.iconst 0, 1) := by decide +kernel
theorem dX9_share_33 : decode cX9_share 33 = .ok (.iastore, 1) := by decide +kernel
theorem dX9_share_34 : decode cX9_share 34 = .ok (.iinc 3 1, 3) := by decide +kernel
theorem dX9_share_37 : decode cX9_share 37 = .ok (.goto (-20), 3) := by decide +kernel
theorem dX9_share_40 : decode cX9_share 40 = .ok (.iconst 0, 1) := by decide +kernel
theorem dX9_share_41 : decode cX9_share 41 = .ok (.istore_n 3, 1) := by decide +kernel
theorem dX9_share_42 : decode cX9_share 42 = .ok (.iload_n 3, 1) := by decide +kernel
theorem dX9_share_43 : decode cX9_share 43 = .ok (.aload_n 0, 1) := by decide +kernel
theorem dX9_share_44 : decode cX9_share 44 = .ok (.getfield 78, 3) := by decide +kernel
theorem dX9_share_47 : decode cX9_share 47 = .ok (.if_icmp .ge 62, 3) := by decide +kernel
theorem dX9_share_50 : decode cX9_share 50 = .ok (.aload_n 0, 1) := by decide +kernel
theorem dX9_share_51 : decode cX9_share 51 = .ok (.iload_n 3, 1) := by decide +kernel
theorem dX9_share_52 : decode cX9_share 52 = .ok (.iconst 2, 1) := by decide +kernel
theorem dX9_share_53 : decode cX9_share 53 = .ok (.invokevirtual 221, 3) := by decide +kernel
theorem dX9_share_56 : decode cX9_share 56 = .ok (.istore 4, 2) := by decide +kernel
theorem dX9_share_58 : decode cX9_share 58 = .ok (.iconst 0, 1) := by decide +kernel
theorem dX9_share_59 : decode cX9_share 59 = .ok (.istore 5, 2) := by decide +kernel
theorem dX9_share_61 : decode cX9_share 61 = .ok (.iload 5, 2) := by decide +kernel
theorem dX9_share_63 : decode cX9_share 63 = .ok (.iconst 1, 1) := by decide +kernel
theorem dX9_share_64 : decode cX9_share 64 = .ok (.aload_n 0, 1) := by decide +kernel
theorem dX9_share_65 : decode cX9_share 65 = .ok (.getfield 78, 3) := by decide +kernel
theorem dX9_share_68 : decode cX9_share 68 = .ok (.ishl, 1) := by decide +kernel
theorem dX9_share_69 : decode cX9_share 69 = .ok (.if_icmp .ge 34, 3) := by decide +kernel
theorem dX9_share_72 : decode cX9_share 72 = .ok (.aload_n 0, 1) := by decide +kernel
theorem dX9_share_73 : decode cX9_share 73 = .ok (.getfield 72, 3) := by decide +kernel
theorem dX9_share_76 : decode cX9_share 76 = .ok (.iload 5, 2) := by decide +kernel
theorem dX9_share_78 : decode cX9_share 78 = .ok (.dup2, 1) := by decide +kernel
theorem dX9_share_79 : decode cX9_share 79 = .ok (.iaload, 1) := by decide +kernel
theorem dX9_share_80 : decode cX9_share 80 = .ok (.iload 5, 2) := by decide +kernel
theorem dX9_share_82 : decode cX9_share 82 = .ok (.iload_n 3, 1) := by decide +kernel
theorem dX9_share_83 : decode cX9_share 83 = .ok (.invokestatic 134, 3) := by decide +kernel
theorem dX9_share_86 : decode cX9_share 86 = .ok (.ifCond .eq 8, 3) := by decide +kernel
theorem dX9_share_89 : decode cX9_share 89 = .ok (.iload 4, 2) := by decide +kernel
theorem dX9_share_91 : decode cX9_share 91 = .ok (.goto 4, 3) := by decide +kernel
theorem dX9_share_94 : decode cX9_share 94 = .ok (.iconst 0, 1) := by decide +kernel
theorem dX9_share_95 : decode cX9_share 95 = .ok (.ior, 1) := by decide +kernel
theorem dX9_share_96 : decode cX9_share 96 = .ok (.iastore, 1) := by decide +kernel
theorem dX9_share_97 : decode cX9_share 97 = .ok (.iinc 5 1, 3) := by decide +kernel
theorem dX9_share_100 : decode cX9_share 100 = .ok (.goto (-39), 3) := by decide +kernel
theorem dX9_share_103 : decode cX9_share 103 = .ok (.iinc 3 1, 3) := by decide +kernel
theorem dX9_share_106 : decode cX9_share 106 = .ok (.goto (-64), 3) := by decide +kernel
theorem dX9_share_109 : decode cX9_share 109 = .ok (.iconst 0, 1) := by decide +kernel
theorem dX9_share_110 : decode cX9_share 110 = .ok (.istore_n 3, 1) := by decide +kernel
theorem dX9_share_111 : decode cX9_share 111 = .ok (.iconst 0, 1) := by decide +kernel
theorem dX9_share_112 : decode cX9_share 112 = .ok (.istore 4, 2) := by decide +kernel
theorem dX9_share_114 : decode cX9_share 114 = .ok (.iload 4, 2) := by decide +kernel
theorem dX9_share_116 : decode cX9_share 116 = .ok (.iconst 1, 1) := by decide +kernel
theorem dX9_share_117 : decode cX9_share 117 = .ok (.aload_n 0, 1) := by decide +kernel
theorem dX9_share_118 : decode cX9_share 118 = .ok (.getfield 78, 3) := by decide +kernel
theorem dX9_share_121 : decode cX9_share 121 = .ok (.ishl, 1) := by decide +kernel
theorem dX9_share_122 : decode cX9_share 122 = .ok (.if_icmp .ge 72, 3) := by decide +kernel
theorem dX9_share_125 : decode cX9_share 125 = .ok (.iload 4, 2) := by decide +kernel
theorem dX9_share_127 : decode cX9_share 127 = .ok (.iload_n 1, 1) := by decide +kernel
theorem dX9_share_128 : decode cX9_share 128 = .ok (.invokestatic 134, 3) := by decide +kernel
theorem dX9_share_131 : decode cX9_share 131 = .ok (.ifCond .ne 57, 3) := by decide +kernel
theorem dX9_share_134 : decode cX9_share 134 = .ok (.iload 4, 2) := by decide +kernel
theorem dX9_share_136 : decode cX9_share 136 = .ok (.invokestatic 170, 3) := by decide +kernel
theorem dX9_share_139 : decode cX9_share 139 = .ok (.istore 5, 2) := by decide +kernel
theorem dX9_share_141 : decode cX9_share 141 = .ok (.iload_n 3, 1) := by decide +kernel
theorem dX9_share_142 : decode cX9_share 142 = .ok (.iload 5, 2) := by decide +kernel
theorem dX9_share_144 : decode cX9_share 144 = .ok (.invokestatic 257, 3) := by decide +kernel
theorem dX9_share_147 : decode cX9_share 147 = .ok (.aload_n 0, 1) := by decide +kernel
theorem dX9_share_148 : decode cX9_share 148 = .ok (.getfield 78, 3) := by decide +kernel
theorem dX9_share_151 : decode cX9_share 151 = .ok (.iconst 1, 1) := by decide +kernel
theorem dX9_share_152 : decode cX9_share 152 = .ok (.isub, 1) := by decide +kernel
theorem dX9_share_153 : decode cX9_share 153 = .ok (.iload 5, 2) := by decide +kernel
theorem dX9_share_155 : decode cX9_share 155 = .ok (.isub, 1) := by decide +kernel
theorem dX9_share_156 : decode cX9_share 156 = .ok (.invokestatic 257, 3) := by decide +kernel
theorem dX9_share_159 : decode cX9_share 159 = .ok (.imul, 1) := by decide +kernel
theorem dX9_share_160 : decode cX9_share 160 = .ok (.aload_n 0, 1) := by decide +kernel
theorem dX9_share_161 : decode cX9_share 161 = .ok (.getfield 72, 3) := by decide +kernel
theorem dX9_share_164 : decode cX9_share 164 = .ok (.iload 4, 2) := by decide +kernel
theorem dX9_share_166 : decode cX9_share 166 = .ok (.iconst 1, 1) := by decide +kernel
theorem dX9_share_167 : decode cX9_share 167 = .ok (.iload_n 1, 1) := by decide +kernel
theorem dX9_share_168 : decode cX9_share 168 = .ok (.ishl, 1) := by decide +kernel
theorem dX9_share_169 : decode cX9_share 169 = .ok (.ior, 1) := by decide +kernel
theorem dX9_share_170 : decode cX9_share 170 = .ok (.iaload, 1) := by decide +kernel
theorem dX9_share_171 : decode cX9_share 171 = .ok (.invokestatic 170, 3) := by decide +kernel
theorem dX9_share_174 : decode cX9_share 174 = .ok (.aload_n 0, 1) := by decide +kernel
theorem dX9_share_175 : decode cX9_share 175 = .ok (.getfield 72, 3) := by decide +kernel
theorem dX9_share_178 : decode cX9_share 178 = .ok (.iload 4, 2) := by decide +kernel
theorem dX9_share_180 : decode cX9_share 180 = .ok (.iaload, 1) := by decide +kernel
theorem dX9_share_181 : decode cX9_share 181 = .ok (.invokestatic 170, 3) := by decide +kernel
theorem dX9_share_184 : decode cX9_share 184 = .ok (.isub, 1) := by decide +kernel
theorem dX9_share_185 : decode cX9_share 185 = .ok (.imul, 1) := by decide +kernel
theorem dX9_share_186 : decode cX9_share 186 = .ok (.iadd, 1) := by decide +kernel
theorem dX9_share_187 : decode cX9_share 187 = .ok (.istore_n 3, 1) := by decide +kernel
theorem dX9_share_188 : decode cX9_share 188 = .ok (.iinc 4 1, 3) := by decide +kernel
theorem dX9_share_191 : decode cX9_share 191 = .ok (.goto (-77), 3) := by decide +kernel
theorem dX9_share_194 : decode cX9_share 194 = .ok (.iload_n 3, 1) := by decide +kernel
theorem dX9_share_195 : decode cX9_share 195 = .ok (.aload_n 0, 1) := by decide +kernel
theorem dX9_share_196 : decode cX9_share 196 = .ok (.getfield 78, 3) := by decide +kernel
theorem dX9_share_199 : decode cX9_share 199 = .ok (.invokestatic 257, 3) := by decide +kernel
theorem dX9_share_202 : decode cX9_share 202 = .ok (.iload_n 2, 1) := by decide +kernel
theorem dX9_share_203 : decode cX9_share 203 = .ok (.invokestatic 260, 3) := by decide +kernel
theorem dX9_share_206 : decode cX9_share 206 = .ok (.ireturn, 1) := by decide +kernel
theorem dX9_see_0 : decode cX9_see 0 = .ok (.aload_n 0, 1) := by decide +kernel
theorem dX9_see_1 : decode cX9_see 1 = .ok (.iconst 0, 1) := by decide +kernel
theorem dX9_see_2 : decode cX9_see 2 = .ok (.putfield 75, 3) := by decide +kernel
theorem dX9_see_5 : decode cX9_see 5 = .ok (.iload_n 1, 1) := by decide +kernel
theorem dX9_see_6 : decode cX9_see 6 = .ok (.i2l, 1) := by decide +kernel
theorem dX9_see_7 : decode cX9_see 7 = .ok (.ldc2_w 263, 3) := by decide +kernel
theorem dX9_see_10 : decode cX9_see 10 = .ok (.ldc2_w 240, 3) := by decide +kernel
theorem dX9_see_13 : decode cX9_see 13 = .ok (.invokestatic 81, 3) := by decide +kernel
theorem dX9_see_16 : decode cX9_see 16 = .ok (.ifCond .eq 29, 3) := by decide +kernel
theorem dX9_see_19 : decode cX9_see 19 = .ok (.iload_n 2, 1) := by decide +kernel
theorem dX9_see_20 : decode cX9_see 20 = .ok (.i2l, 1) := by decide +kernel
theorem dX9_see_21 : decode cX9_see 21 = .ok (.ldc2_w 263, 3) := by decide +kernel
theorem dX9_see_24 : decode cX9_see 24 = .ok (.ldc2_w 240, 3) := by decide +kernel
theorem dX9_see_27 : decode cX9_see 27 = .ok (.invokestatic 81, 3) := by decide +kernel
theorem dX9_see_30 : decode cX9_see 30 = .ok (.ifCond .eq 15, 3) := by decide +kernel
theorem dX9_see_33 : decode cX9_see 33 = .ok (.iload_n 3, 1) := by decide +kernel
theorem dX9_see_34 : decode cX9_see 34 = .ok (.i2l, 1) := by decide +kernel
theorem dX9_see_35 : decode cX9_see 35 = .ok (.lconst 0, 1) := by decide +kernel
theorem dX9_see_36 : decode cX9_see 36 = .ok (.ldc2_w 85, 3) := by decide +kernel
theorem dX9_see_39 : decode cX9_see 39 = .ok (.invokestatic 81, 3) := by decide +kernel
theorem dX9_see_42 : decode cX9_see 42 = .ok (.ifCond .ne 6, 3) := by decide +kernel
theorem dX9_see_45 : decode cX9_see 45 = .ok (.bipush (-2), 2) := by decide +kernel
theorem dX9_see_47 : decode cX9_see 47 = .ok (.ireturn, 1) := by decide +kernel
theorem dX9_see_48 : decode cX9_see 48 = .ok (.aload_n 0, 1) := by decide +kernel
theorem dX9_see_49 : decode cX9_see 49 = .ok (.getfield 177, 3) := by decide +kernel
theorem dX9_see_52 : decode cX9_see 52 = .ok (.bipush 6, 2) := by decide +kernel
theorem dX9_see_54 : decode cX9_see 54 = .ok (.if_icmp .ne 6, 3) := by decide +kernel
theorem dX9_see_57 : decode cX9_see 57 = .ok (.bipush (-4), 2) := by decide +kernel
theorem dX9_see_59 : decode cX9_see 59 = .ok (.ireturn, 1) := by decide +kernel
theorem dX9_see_60 : decode cX9_see 60 = .ok (.aload_n 0, 1) := by decide +kernel
theorem dX9_see_61 : decode cX9_see 61 = .ok (.getfield 51, 3) := by decide +kernel
theorem dX9_see_64 : decode cX9_see 64 = .ok (.aload_n 0, 1) := by decide +kernel
theorem dX9_see_65 : decode cX9_see 65 = .ok (.getfield 177, 3) := by decide +kernel
theorem dX9_see_68 : decode cX9_see 68 = .ok (.iload_n 1, 1) := by decide +kernel
theorem dX9_see_69 : decode cX9_see 69 = .ok (.iastore, 1) := by decide +kernel
theorem dX9_see_70 : decode cX9_see 70 = .ok (.aload_n 0, 1) := by decide +kernel
theorem dX9_see_71 : decode cX9_see 71 = .ok (.getfield 54, 3) := by decide +kernel
theorem dX9_see_74 : decode cX9_see 74 = .ok (.aload_n 0, 1) := by decide +kernel
theorem dX9_see_75 : decode cX9_see 75 = .ok (.getfield 177, 3) := by decide +kernel
theorem dX9_see_78 : decode cX9_see 78 = .ok (.iload_n 2, 1) := by decide +kernel
theorem dX9_see_79 : decode cX9_see 79 = .ok (.iastore, 1) := by decide +kernel
theorem dX9_see_80 : decode cX9_see 80 = .ok (.aload_n 0, 1) := by decide +kernel
theorem dX9_see_81 : decode cX9_see 81 = .ok (.getfield 57, 3) := by decide +kernel
theorem dX9_see_84 : decode cX9_see 84 = .ok (.aload_n 0, 1) := by decide +kernel
theorem dX9_see_85 : decode cX9_see 85 = .ok (.getfield 177, 3) := by decide +kernel
theorem dX9_see_88 : decode cX9_see 88 = .ok (.iload_n 3, 1) := by decide +kernel
theorem dX9_see_89 : decode cX9_see 89 = .ok (.iastore, 1) := by decide +kernel
theorem dX9_see_90 : decode cX9_see 90 = .ok (.aload_n 0, 1) := by decide +kernel
theorem dX9_see_91 : decode cX9_see 91 = .ok (.dup, 1) := by decide +kernel
theorem dX9_see_92 : decode cX9_see 92 = .ok (.getfield 177, 3) := by decide +kernel
theorem dX9_see_95 : decode cX9_see 95 = .ok (.iconst 1, 1) := by decide +kernel
theorem dX9_see_96 : decode cX9_see 96 = .ok (.iadd, 1) := by decide +kernel
theorem dX9_see_97 : decode cX9_see 97 = .ok (.putfield 177, 3) := by decide +kernel
theorem dX9_see_100 : decode cX9_see 100 = .ok (.aload_n 0, 1) := by decide +kernel
theorem dX9_see_101 : decode cX9_see 101 = .ok (.getfield 177, 3) := by decide +kernel
theorem dX9_see_104 : decode cX9_see 104 = .ok (.ireturn, 1) := by decide +kernel
theorem dX9_unsee_0 : decode cX9_unsee 0 = .ok (.aload_n 0, 1) := by decide +kernel
theorem dX9_unsee_1 : decode cX9_unsee 1 = .ok (.iconst 0, 1) := by decide +kernel
theorem dX9_unsee_2 : decode cX9_unsee 2 = .ok (.putfield 75, 3) := by decide +kernel
theorem dX9_unsee_5 : decode cX9_unsee 5 = .ok (.aload_n 0, 1) := by decide +kernel
theorem dX9_unsee_6 : decode cX9_unsee 6 = .ok (.getfield 177, 3) := by decide +kernel
theorem dX9_unsee_9 : decode cX9_unsee 9 = .ok (.istore_n 1, 1) := by decide +kernel
theorem dX9_unsee_10 : decode cX9_unsee 10 = .ok (.aload_n 0, 1) := by decide +kernel
theorem dX9_unsee_11 : decode cX9_unsee 11 = .ok (.iconst 0, 1) := by decide +kernel
theorem dX9_unsee_12 : decode cX9_unsee 12 = .ok (.putfield 177, 3) := by decide +kernel
theorem dX9_unsee_15 : decode cX9_unsee 15 = .ok (.iload_n 1, 1) := by decide +kernel
theorem dX9_unsee_16 : decode cX9_unsee 16 = .ok (.ireturn, 1) := by decide +kernel
theorem dX9_cellFrom_0 : decode cX9_cellFrom 0 = .ok (.iload_n 1, 1) := by decide +kernel
theorem dX9_cellFrom_1 : decode cX9_cellFrom 1 = .ok (.istore 4, 2) := by decide +kernel
theorem dX9_cellFrom_3 : decode cX9_cellFrom 3 = .ok (.iconst 0, 1) := by decide +kernel
theorem dX9_cellFrom_4 : decode cX9_cellFrom 4 = .ok (.istore 5, 2) := by decide +kernel
theorem dX9_cellFrom_6 : decode cX9_cellFrom 6 = .ok (.iload 5, 2) := by decide +kernel
theorem dX9_cellFrom_8 : decode cX9_cellFrom 8 = .ok (.iload_n 2, 1) := by decide +kernel
theorem dX9_cellFrom_9 : decode cX9_cellFrom 9 = .ok (.if_icmp .lt 10, 3) := by decide +kernel
theorem dX9_cellFrom_12 : decode cX9_cellFrom 12 = .ok (.iload 5, 2) := by decide +kernel
theorem dX9_cellFrom_14 : decode cX9_cellFrom 14 = .ok (.iload_n 2, 1) := by decide +kernel
theorem dX9_cellFrom_15 : decode cX9_cellFrom 15 = .ok (.ineg, 1) := by decide +kernel
theorem dX9_cellFrom_16 : decode cX9_cellFrom 16 = .ok (.if_icmp .ge 27, 3) := by decide +kernel
theorem dX9_cellFrom_19 : decode cX9_cellFrom 19 = .ok (.aload_n 0, 1) := by decide +kernel
theorem dX9_cellFrom_20 : decode cX9_cellFrom 20 = .ok (.iload 4, 2) := by decide +kernel
theorem dX9_cellFrom_22 : decode cX9_cellFrom 22 = .ok (.iload_n 2, 1) := by decide +kernel
theorem dX9_cellFrom_23 : decode cX9_cellFrom 23 = .ok (.ifCond .ge 7, 3) := by decide +kernel
theorem dX9_cellFrom_26 : decode cX9_cellFrom 26 = .ok (.iconst 0, 1) := by decide +kernel
theorem dX9_cellFrom_27 : decode cX9_cellFrom 27 = .ok (.goto 4, 3) := by decide +kernel
theorem dX9_cellFrom_30 : decode cX9_cellFrom 30 = .ok (.iconst 1, 1) := by decide +kernel
theorem dX9_cellFrom_31 : decode cX9_cellFrom 31 = .ok (.iconst 0, 1) := by decide +kernel
theorem dX9_cellFrom_32 : decode cX9_cellFrom 32 = .ok (.invokevirtual 187, 3) := by decide +kernel
theorem dX9_cellFrom_35 : decode cX9_cellFrom 35 = .ok (.istore 4, 2) := by decide +kernel
theorem dX9_cellFrom_37 : decode cX9_cellFrom 37 = .ok (.iinc 5 1, 3) := by decide +kernel
theorem dX9_cellFrom_40 : decode cX9_cellFrom 40 = .ok (.goto (-34), 3) := by decide +kernel
theorem dX9_cellFrom_43 : decode cX9_cellFrom 43 = .ok (.iconst 0, 1) := by decide +kernel
theorem dX9_cellFrom_44 : decode cX9_cellFrom 44 = .ok (.istore 5, 2) := by decide +kernel
theorem dX9_cellFrom_46 : decode cX9_cellFrom 46 = .ok (.iload 5, 2) := by decide +kernel
theorem dX9_cellFrom_48 : decode cX9_cellFrom 48 = .ok (.iload_n 3, 1) := by decide +kernel
theorem dX9_cellFrom_49 : decode cX9_cellFrom 49 = .ok (.if_icmp .lt 10, 3) := by decide +kernel
theorem dX9_cellFrom_52 : decode cX9_cellFrom 52 = .ok (.iload 5, 2) := by decide +kernel
theorem dX9_cellFrom_54 : decode cX9_cellFrom 54 = .ok (.iload_n 3, 1) := by decide +kernel
theorem dX9_cellFrom_55 : decode cX9_cellFrom 55 = .ok (.ineg, 1) := by decide +kernel
theorem dX9_cellFrom_56 : decode cX9_cellFrom 56 = .ok (.if_icmp .ge 27, 3) := by decide +kernel
theorem dX9_cellFrom_59 : decode cX9_cellFrom 59 = .ok (.aload_n 0, 1) := by decide +kernel
theorem dX9_cellFrom_60 : decode cX9_cellFrom 60 = .ok (.iload 4, 2) := by decide +kernel
theorem dX9_cellFrom_62 : decode cX9_cellFrom 62 = .ok (.iload_n 3, 1) := by decide +kernel
theorem dX9_cellFrom_63 : decode cX9_cellFrom 63 = .ok (.ifCond .ge 7, 3) := by decide +kernel
theorem dX9_cellFrom_66 : decode cX9_cellFrom 66 = .ok (.iconst 2, 1) := by decide +kernel
theorem dX9_cellFrom_67 : decode cX9_cellFrom 67 = .ok (.goto 4, 3) := by decide +kernel
theorem dX9_cellFrom_70 : decode cX9_cellFrom 70 = .ok (.iconst 3, 1) := by decide +kernel
theorem dX9_cellFrom_71 : decode cX9_cellFrom 71 = .ok (.iconst 0, 1) := by decide +kernel
theorem dX9_cellFrom_72 : decode cX9_cellFrom 72 = .ok (.invokevirtual 187, 3) := by decide +kernel
theorem dX9_cellFrom_75 : decode cX9_cellFrom 75 = .ok (.istore 4, 2) := by decide +kernel
theorem dX9_cellFrom_77 : decode cX9_cellFrom 77 = .ok (.iinc 5 1, 3) := by decide +kernel
theorem dX9_cellFrom_80 : decode cX9_cellFrom 80 = .ok (.goto (-34), 3) := by decide +kernel
theorem dX9_cellFrom_83 : decode cX9_cellFrom 83 = .ok (.iload 4, 2) := by decide +kernel
theorem dX9_cellFrom_85 : decode cX9_cellFrom 85 = .ok (.ireturn, 1) := by decide +kernel
theorem dX9_stands_0 : decode cX9_stands 0 = .ok (.aload_n 0, 1) := by decide +kernel
theorem dX9_stands_1 : decode cX9_stands 1 = .ok (.iconst 0, 1) := by decide +kernel
theorem dX9_stands_2 : decode cX9_stands 2 = .ok (.putfield 75, 3) := by decide +kernel
theorem dX9_stands_5 : decode cX9_stands 5 = .ok (.iconst 0, 1) := by decide +kernel
theorem dX9_stands_6 : decode cX9_stands 6 = .ok (.istore_n 1, 1) := by decide +kernel
theorem dX9_stands_7 : decode cX9_stands 7 = .ok (.iconst 0, 1) := by decide +kernel
theorem dX9_stands_8 : decode cX9_stands 8 = .ok (.istore_n 2, 1) := by decide +kernel
theorem dX9_stands_9 : decode cX9_stands 9 = .ok (.iload_n 2, 1) := by decide +kernel
theorem dX9_stands_10 : decode cX9_stands 10 = .ok (.aload_n 0, 1) := by decide +kernel
theorem dX9_stands_11 : decode cX9_stands 11 = .ok (.getfield 13, 3) := by decide +kernel
theorem dX9_stands_14 : decode cX9_stands 14 = .ok (.aload_n 0, 1) := by decide +kernel
theorem dX9_stands_15 : decode cX9_stands 15 = .ok (.getfield 17, 3) := by decide +kernel
theorem dX9_stands_18 : decode cX9_stands 18 = .ok (.imul, 1) := by decide +kernel
theorem dX9_stands_19 : decode cX9_stands 19 = .ok (.if_icmp .ge 90, 3) := by decide +kernel
theorem dX9_stands_22 : decode cX9_stands 22 = .ok (.iconst 1, 1) := by decide +kernel
theorem dX9_stands_23 : decode cX9_stands 23 = .ok (.istore_n 3, 1) := by decide +kernel
theorem dX9_stands_24 : decode cX9_stands 24 = .ok (.iconst 0, 1) := by decide +kernel
theorem dX9_stands_25 : decode cX9_stands 25 = .ok (.istore 4, 2) := by decide +kernel
theorem dX9_stands_27 : decode cX9_stands 27 = .ok (.iload 4, 2) := by decide +kernel
theorem dX9_stands_29 : decode cX9_stands 29 = .ok (.aload_n 0, 1) := by decide +kernel
theorem dX9_stands_30 : decode cX9_stands 30 = .ok (.getfield 177, 3) := by decide +kernel
theorem dX9_stands_33 : decode cX9_stands 33 = .ok (.if_icmp .ge 56, 3) := by decide +kernel
theorem dX9_stands_36 : decode cX9_stands 36 = .ok (.iload_n 3, 1) := by decide +kernel
theorem dX9_stands_37 : decode cX9_stands 37 = .ok (.ifCond .eq 44, 3) := by decide +kernel
theorem dX9_stands_40 : decode cX9_stands 40 = .ok (.aload_n 0, 1) := by decide +kernel
theorem dX9_stands_41 : decode cX9_stands 41 = .ok (.aload_n 0, 1) := by decide +kernel
theorem dX9_stands_42 : decode cX9_stands 42 = .ok (.getfield 35, 3) := by decide +kernel
theorem dX9_stands_45 : decode cX9_stands 45 = .ok (.aload_n 0, 1) := by decide +kernel
theorem dX9_stands_46 : decode cX9_stands 46 = .ok (.iload_n 2, 1) := by decide +kernel
theorem dX9_stands_47 : decode cX9_stands 47 = .ok (.aload_n 0, 1) := by decide +kernel
theorem dX9_stands_48 : decode cX9_stands 48 = .ok (.getfield 51, 3) := by decide +kernel
theorem dX9_stands_51 : decode cX9_stands 51 = .ok (.iload 4, 2) := by decide +kernel
theorem dX9_stands_53 : decode cX9_stands 53 = .ok (.iaload, 1) := by decide +kernel
theorem dX9_stands_54 : decode cX9_stands 54 = .ok (.aload_n 0, 1) := by decide +kernel
theorem dX9_stands_55 : decode cX9_stands 55 = .ok (.getfield 54, 3) := by decide +kernel
theorem dX9_stands_58 : decode cX9_stands 58 = .ok (.iload 4, 2) := by decide +kernel
theorem dX9_stands_60 : decode cX9_stands 60 = .ok (.iaload, 1) := by decide +kernel
theorem dX9_stands_61 : decode cX9_stands 61 = .ok (.invokevirtual 265, 3) := by decide +kernel
theorem dX9_stands_64 : decode cX9_stands 64 = .ok (.invokevirtual 144, 3) := by decide +kernel
theorem dX9_stands_67 : decode cX9_stands 67 = .ok (.aload_n 0, 1) := by decide +kernel
theorem dX9_stands_68 : decode cX9_stands 68 = .ok (.getfield 57, 3) := by decide +kernel
theorem dX9_stands_71 : decode cX9_stands 71 = .ok (.iload 4, 2) := by decide +kernel
theorem dX9_stands_73 : decode cX9_stands 73 = .ok (.iaload, 1) := by decide +kernel
theorem dX9_stands_74 : decode cX9_stands 74 = .ok (.if_icmp .ne 7, 3) := by decide +kernel
theorem dX9_stands_77 : decode cX9_stands 77 = .ok (.iconst 1, 1) := by decide +kernel
theorem dX9_stands_78 : decode cX9_stands 78 = .ok (.goto 4, 3) := by decide +kernel
theorem dX9_stands_81 : decode cX9_stands 81 = .ok (.iconst 0, 1) := by decide +kernel
theorem dX9_stands_82 : decode cX9_stands 82 = .ok (.istore_n 3, 1) := by decide +kernel
theorem dX9_stands_83 : decode cX9_stands 83 = .ok (.iinc 4 1, 3) := by decide +kernel
theorem dX9_stands_86 : decode cX9_stands 86 = .ok (.goto (-59), 3) := by decide +kernel
theorem dX9_stands_89 : decode cX9_stands 89 = .ok (.iload_n 1, 1) := by decide +kernel
theorem dX9_stands_90 : decode cX9_stands 90 = .ok (.iload_n 3, 1) := by decide +kernel
theorem dX9_stands_91 : decode cX9_stands 91 = .ok (.ifCond .eq 9, 3) := by decide +kernel
theorem dX9_stands_94 : decode cX9_stands 94 = .ok (.iconst 1, 1) := by decide +kernel
theorem dX9_stands_95 : decode cX9_stands 95 = .ok (.iload_n 2, 1) := by decide +kernel
theorem dX9_stands_96 : decode cX9_stands 96 = .ok (.ishl, 1) := by decide +kernel
theorem dX9_stands_97 : decode cX9_stands 97 = .ok (.goto 4, 3) := by decide +kernel
theorem dX9_stands_100 : decode cX9_stands 100 = .ok (.iconst 0, 1) := by decide +kernel
theorem dX9_stands_101 : decode cX9_stands 101 = .ok (.ior, 1) := by decide +kernel
theorem dX9_stands_102 : decode cX9_stands 102 = .ok (.istore_n 1, 1) := by decide +kernel
theorem dX9_stands_103 : decode cX9_stands 103 = .ok (.iinc 2 1, 3) := by decide +kernel
theorem dX9_stands_106 : decode cX9_stands 106 = .ok (.goto (-97), 3) := by decide +kernel
theorem dX9_stands_109 : decode cX9_stands 109 = .ok (.iload_n 1, 1) := by decide +kernel
theorem dX9_stands_110 : decode cX9_stands 110 = .ok (.ireturn, 1) := by decide +kernel
theorem dX9_layGains_0 : decode cX9_layGains 0 = .ok (.aload_n 0, 1) := by decide +kernel
theorem dX9_layGains_1 : decode cX9_layGains 1 = .ok (.invokevirtual 248, 3) := by decide +kernel
theorem dX9_layGains_4 : decode cX9_layGains 4 = .ok (.aload_n 0, 1) := by decide +kernel
theorem dX9_layGains_5 : decode cX9_layGains 5 = .ok (.aload_n 0, 1) := by decide +kernel
theorem dX9_layGains_6 : decode cX9_layGains 6 = .ok (.getfield 38, 3) := by decide +kernel
theorem dX9_layGains_9 : decode cX9_layGains 9 = .ok (.iload_n 1, 1) := by decide +kernel
theorem dX9_layGains_10 : decode cX9_layGains 10 = .ok (.iload_n 3, 1) := by decide +kernel
theorem dX9_layGains_11 : decode cX9_layGains 11 = .ok (.iconst 4, 1) := by decide +kernel
theorem dX9_layGains_12 : decode cX9_layGains 12 = .ok (.idiv, 1) := by decide +kernel
theorem dX9_layGains_13 : decode cX9_layGains 13 = .ok (.invokevirtual 200, 3) := by decide +kernel
theorem dX9_layGains_16 : decode cX9_layGains 16 = .ok (.istore 4, 2) := by decide +kernel
theorem dX9_layGains_18 : decode cX9_layGains 18 = .ok (.aload_n 0, 1) := by decide +kernel
theorem dX9_layGains_19 : decode cX9_layGains 19 = .ok (.aload_n 0, 1) := by decide +kernel
theorem dX9_layGains_20 : decode cX9_layGains 20 = .ok (.getfield 38, 3) := by decide +kernel
theorem dX9_layGains_23 : decode cX9_layGains 23 = .ok (.iload_n 2, 1) := by decide +kernel
theorem dX9_layGains_24 : decode cX9_layGains 24 = .ok (.iload_n 3, 1) := by decide +kernel
theorem dX9_layGains_25 : decode cX9_layGains 25 = .ok (.iconst 4, 1) := by decide +kernel
theorem dX9_layGains_26 : decode cX9_layGains 26 = .ok (.irem, 1) := by decide +kernel
theorem dX9_layGains_27 : decode cX9_layGains 27 = .ok (.invokevirtual 200, 3) := by decide +kernel
theorem dX9_layGains_30 : decode cX9_layGains 30 = .ok (.istore 5, 2) := by decide +kernel
theorem dX9_layGains_32 : decode cX9_layGains 32 = .ok (.aload_n 0, 1) := by decide +kernel
theorem dX9_layGains_33 : decode cX9_layGains 33 = .ok (.getfield 38, 3) := by decide +kernel
theorem dX9_layGains_36 : decode cX9_layGains 36 = .ok (.iload_n 1, 1) := by decide +kernel
theorem dX9_layGains_37 : decode cX9_layGains 37 = .ok (.iaload, 1) := by decide +kernel
theorem dX9_layGains_38 : decode cX9_layGains 38 = .ok (.aload_n 0, 1) := by decide +kernel
theorem dX9_layGains_39 : decode cX9_layGains 39 = .ok (.getfield 38, 3) := by decide +kernel
theorem dX9_layGains_42 : decode cX9_layGains 42 = .ok (.iload_n 2, 1) := by decide +kernel
theorem dX9_layGains_43 : decode cX9_layGains 43 = .ok (.iaload, 1) := by decide +kernel
theorem dX9_layGains_44 : decode cX9_layGains 44 = .ok (.if_icmp .ne 7, 3) := by decide +kernel
theorem dX9_layGains_47 : decode cX9_layGains 47 = .ok (.iconst 3, 1) := by decide +kernel
theorem dX9_layGains_48 : decode cX9_layGains 48 = .ok (.goto 4, 3) := by decide +kernel
theorem dX9_layGains_51 : decode cX9_layGains 51 = .ok (.iconst 0, 1) := by decide +kernel
theorem dX9_layGains_52 : decode cX9_layGains 52 = .ok (.istore 6, 2) := by decide +kernel
theorem dX9_layGains_54 : decode cX9_layGains 54 = .ok (.aload_n 0, 1) := by decide +kernel
theorem dX9_layGains_55 : decode cX9_layGains 55 = .ok (.getfield 69, 3) := by decide +kernel
theorem dX9_layGains_58 : decode cX9_layGains 58 = .ok (.iconst 2, 1) := by decide +kernel
theorem dX9_layGains_59 : decode cX9_layGains 59 = .ok (.iload_n 3, 1) := by decide +kernel
theorem dX9_layGains_60 : decode cX9_layGains 60 = .ok (.imul, 1) := by decide +kernel
theorem dX9_layGains_61 : decode cX9_layGains 61 = .ok (.iload 6, 2) := by decide +kernel
theorem dX9_layGains_63 : decode cX9_layGains 63 = .ok (.iload 4, 2) := by decide +kernel
theorem dX9_layGains_65 : decode cX9_layGains 65 = .ok (.ifCond .eq 7, 3) := by decide +kernel
theorem dX9_layGains_68 : decode cX9_layGains 68 = .ok (.iconst 1, 1) := by decide +kernel
theorem dX9_layGains_69 : decode cX9_layGains 69 = .ok (.goto 4, 3) := by decide +kernel
theorem dX9_layGains_72 : decode cX9_layGains 72 = .ok (.iconst 0, 1) := by decide +kernel
theorem dX9_layGains_73 : decode cX9_layGains 73 = .ok (.iadd, 1) := by decide +kernel
theorem dX9_layGains_74 : decode cX9_layGains 74 = .ok (.aload_n 0, 1) := by decide +kernel
theorem dX9_layGains_75 : decode cX9_layGains 75 = .ok (.aload_n 0, 1) := by decide +kernel
theorem dX9_layGains_76 : decode cX9_layGains 76 = .ok (.getfield 38, 3) := by decide +kernel
theorem dX9_layGains_79 : decode cX9_layGains 79 = .ok (.aload_n 0, 1) := by decide +kernel
theorem dX9_layGains_80 : decode cX9_layGains 80 = .ok (.getfield 38, 3) := by decide +kernel
