theorem dX9_layGains_83 : decode cX9_layGains 83 = .ok (.iload_n 1, 1) := by decide +kernel
theorem dX9_layGains_84 : decode cX9_layGains 84 = .ok (.iaload, 1) := by decide +kernel
theorem dX9_layGains_85 : decode cX9_layGains 85 = .ok (.invokevirtual 144, 3) := by decide +kernel
theorem dX9_layGains_88 : decode cX9_layGains 88 = .ok (.iconst 3, 1) := by decide +kernel
theorem dX9_layGains_89 : decode cX9_layGains 89 = .ok (.if_icmp .ne 7, 3) := by decide +kernel
theorem dX9_layGains_92 : decode cX9_layGains 92 = .ok (.iconst 1, 1) := by decide +kernel
theorem dX9_layGains_93 : decode cX9_layGains 93 = .ok (.goto 4, 3) := by decide +kernel
theorem dX9_layGains_96 : decode cX9_layGains 96 = .ok (.iconst 0, 1) := by decide +kernel
theorem dX9_layGains_97 : decode cX9_layGains 97 = .ok (.iadd, 1) := by decide +kernel
theorem dX9_layGains_98 : decode cX9_layGains 98 = .ok (.iastore, 1) := by decide +kernel
theorem dX9_layGains_99 : decode cX9_layGains 99 = .ok (.aload_n 0, 1) := by decide +kernel
theorem dX9_layGains_100 : decode cX9_layGains 100 = .ok (.getfield 69, 3) := by decide +kernel
theorem dX9_layGains_103 : decode cX9_layGains 103 = .ok (.iconst 2, 1) := by decide +kernel
theorem dX9_layGains_104 : decode cX9_layGains 104 = .ok (.iload_n 3, 1) := by decide +kernel
theorem dX9_layGains_105 : decode cX9_layGains 105 = .ok (.imul, 1) := by decide +kernel
theorem dX9_layGains_106 : decode cX9_layGains 106 = .ok (.iconst 1, 1) := by decide +kernel
theorem dX9_layGains_107 : decode cX9_layGains 107 = .ok (.iadd, 1) := by decide +kernel
theorem dX9_layGains_108 : decode cX9_layGains 108 = .ok (.iload 6, 2) := by decide +kernel
theorem dX9_layGains_110 : decode cX9_layGains 110 = .ok (.iload 5, 2) := by decide +kernel
theorem dX9_layGains_112 : decode cX9_layGains 112 = .ok (.ifCond .eq 7, 3) := by decide +kernel
theorem dX9_layGains_115 : decode cX9_layGains 115 = .ok (.iconst 1, 1) := by decide +kernel
theorem dX9_layGains_116 : decode cX9_layGains 116 = .ok (.goto 4, 3) := by decide +kernel
theorem dX9_layGains_119 : decode cX9_layGains 119 = .ok (.iconst 0, 1) := by decide +kernel
theorem dX9_layGains_120 : decode cX9_layGains 120 = .ok (.iadd, 1) := by decide +kernel
theorem dX9_layGains_121 : decode cX9_layGains 121 = .ok (.aload_n 0, 1) := by decide +kernel
theorem dX9_layGains_122 : decode cX9_layGains 122 = .ok (.aload_n 0, 1) := by decide +kernel
theorem dX9_layGains_123 : decode cX9_layGains 123 = .ok (.getfield 38, 3) := by decide +kernel
theorem dX9_layGains_126 : decode cX9_layGains 126 = .ok (.aload_n 0, 1) := by decide +kernel
theorem dX9_layGains_127 : decode cX9_layGains 127 = .ok (.getfield 38, 3) := by decide +kernel
theorem dX9_layGains_130 : decode cX9_layGains 130 = .ok (.iload_n 2, 1) := by decide +kernel
theorem dX9_layGains_131 : decode cX9_layGains 131 = .ok (.iaload, 1) := by decide +kernel
theorem dX9_layGains_132 : decode cX9_layGains 132 = .ok (.invokevirtual 144, 3) := by decide +kernel
theorem dX9_layGains_135 : decode cX9_layGains 135 = .ok (.iconst 3, 1) := by decide +kernel
theorem dX9_layGains_136 : decode cX9_layGains 136 = .ok (.if_icmp .ne 7, 3) := by decide +kernel
theorem dX9_layGains_139 : decode cX9_layGains 139 = .ok (.iconst 1, 1) := by decide +kernel
theorem dX9_layGains_140 : decode cX9_layGains 140 = .ok (.goto 4, 3) := by decide +kernel
theorem dX9_layGains_143 : decode cX9_layGains 143 = .ok (.iconst 0, 1) := by decide +kernel
theorem dX9_layGains_144 : decode cX9_layGains 144 = .ok (.iadd, 1) := by decide +kernel
theorem dX9_layGains_145 : decode cX9_layGains 145 = .ok (.iastore, 1) := by decide +kernel
theorem dX9_layGains_146 : decode cX9_layGains 146 = .ok (.return_, 1) := by decide +kernel
theorem dX9_rests_0 : decode cX9_rests 0 = .ok (.aload_n 0, 1) := by decide +kernel
theorem dX9_rests_1 : decode cX9_rests 1 = .ok (.iconst 0, 1) := by decide +kernel
theorem dX9_rests_2 : decode cX9_rests 2 = .ok (.putfield 75, 3) := by decide +kernel
theorem dX9_rests_5 : decode cX9_rests 5 = .ok (.aload_n 0, 1) := by decide +kernel
theorem dX9_rests_6 : decode cX9_rests 6 = .ok (.iload_n 1, 1) := by decide +kernel
theorem dX9_rests_7 : decode cX9_rests 7 = .ok (.invokevirtual 191, 3) := by decide +kernel
theorem dX9_rests_10 : decode cX9_rests 10 = .ok (.ifCond .ne 11, 3) := by decide +kernel
theorem dX9_rests_13 : decode cX9_rests 13 = .ok (.aload_n 0, 1) := by decide +kernel
theorem dX9_rests_14 : decode cX9_rests 14 = .ok (.iload_n 2, 1) := by decide +kernel
theorem dX9_rests_15 : decode cX9_rests 15 = .ok (.invokevirtual 191, 3) := by decide +kernel
theorem dX9_rests_18 : decode cX9_rests 18 = .ok (.ifCond .eq 5, 3) := by decide +kernel
theorem dX9_rests_21 : decode cX9_rests 21 = .ok (.iconst (-1), 1) := by decide +kernel
theorem dX9_rests_22 : decode cX9_rests 22 = .ok (.ireturn, 1) := by decide +kernel
theorem dX9_rests_23 : decode cX9_rests 23 = .ok (.iload_n 1, 1) := by decide +kernel
theorem dX9_rests_24 : decode cX9_rests 24 = .ok (.iload_n 2, 1) := by decide +kernel
theorem dX9_rests_25 : decode cX9_rests 25 = .ok (.if_icmp .eq 13, 3) := by decide +kernel
theorem dX9_rests_28 : decode cX9_rests 28 = .ok (.iload_n 3, 1) := by decide +kernel
theorem dX9_rests_29 : decode cX9_rests 29 = .ok (.i2l, 1) := by decide +kernel
theorem dX9_rests_30 : decode cX9_rests 30 = .ok (.lconst 0, 1) := by decide +kernel
theorem dX9_rests_31 : decode cX9_rests 31 = .ok (.lconst 1, 1) := by decide +kernel
theorem dX9_rests_32 : decode cX9_rests 32 = .ok (.invokestatic 81, 3) := by decide +kernel
theorem dX9_rests_35 : decode cX9_rests 35 = .ok (.ifCond .ne 6, 3) := by decide +kernel
theorem dX9_rests_38 : decode cX9_rests 38 = .ok (.bipush (-2), 2) := by decide +kernel
theorem dX9_rests_40 : decode cX9_rests 40 = .ok (.ireturn, 1) := by decide +kernel
theorem dX9_rests_41 : decode cX9_rests 41 = .ok (.iconst 0, 1) := by decide +kernel
theorem dX9_rests_42 : decode cX9_rests 42 = .ok (.istore 4, 2) := by decide +kernel
theorem dX9_rests_44 : decode cX9_rests 44 = .ok (.iload 4, 2) := by decide +kernel
theorem dX9_rests_46 : decode cX9_rests 46 = .ok (.bipush 16, 2) := by decide +kernel
theorem dX9_rests_48 : decode cX9_rests 48 = .ok (.if_icmp .ge 17, 3) := by decide +kernel
theorem dX9_rests_51 : decode cX9_rests 51 = .ok (.aload_n 0, 1) := by decide +kernel
theorem dX9_rests_52 : decode cX9_rests 52 = .ok (.iload_n 1, 1) := by decide +kernel
theorem dX9_rests_53 : decode cX9_rests 53 = .ok (.iload_n 2, 1) := by decide +kernel
theorem dX9_rests_54 : decode cX9_rests 54 = .ok (.iload 4, 2) := by decide +kernel
theorem dX9_rests_56 : decode cX9_rests 56 = .ok (.invokevirtual 268, 3) := by decide +kernel
theorem dX9_rests_59 : decode cX9_rests 59 = .ok (.iinc 4 1, 3) := by decide +kernel
theorem dX9_rests_62 : decode cX9_rests 62 = .ok (.goto (-18), 3) := by decide +kernel
theorem dX9_rests_65 : decode cX9_rests 65 = .ok (.aload_n 0, 1) := by decide +kernel
theorem dX9_rests_66 : decode cX9_rests 66 = .ok (.iconst 0, 1) := by decide +kernel
theorem dX9_rests_67 : decode cX9_rests 67 = .ok (.putfield 272, 3) := by decide +kernel
theorem dX9_rests_70 : decode cX9_rests 70 = .ok (.aload_n 0, 1) := by decide +kernel
theorem dX9_rests_71 : decode cX9_rests 71 = .ok (.bipush (-9), 2) := by decide +kernel
theorem dX9_rests_73 : decode cX9_rests 73 = .ok (.putfield 275, 3) := by decide +kernel
theorem dX9_rests_76 : decode cX9_rests 76 = .ok (.iconst 0, 1) := by decide +kernel
theorem dX9_rests_77 : decode cX9_rests 77 = .ok (.istore 4, 2) := by decide +kernel
theorem dX9_rests_79 : decode cX9_rests 79 = .ok (.iload 4, 2) := by decide +kernel
theorem dX9_rests_81 : decode cX9_rests 81 = .ok (.bipush 16, 2) := by decide +kernel
theorem dX9_rests_83 : decode cX9_rests 83 = .ok (.if_icmp .ge 154, 3) := by decide +kernel
theorem dX9_rests_86 : decode cX9_rests 86 = .ok (.iconst 1, 1) := by decide +kernel
theorem dX9_rests_87 : decode cX9_rests 87 = .ok (.istore 5, 2) := by decide +kernel
theorem dX9_rests_89 : decode cX9_rests 89 = .ok (.iconst 0, 1) := by decide +kernel
theorem dX9_rests_90 : decode cX9_rests 90 = .ok (.istore 6, 2) := by decide +kernel
theorem dX9_rests_92 : decode cX9_rests 92 = .ok (.iload 6, 2) := by decide +kernel
theorem dX9_rests_94 : decode cX9_rests 94 = .ok (.iconst 4, 1) := by decide +kernel
theorem dX9_rests_95 : decode cX9_rests 95 = .ok (.if_icmp .ge 82, 3) := by decide +kernel
theorem dX9_rests_98 : decode cX9_rests 98 = .ok (.iload 5, 2) := by decide +kernel
theorem dX9_rests_100 : decode cX9_rests 100 = .ok (.ifCond .eq 68, 3) := by decide +kernel
theorem dX9_rests_103 : decode cX9_rests 103 = .ok (.aload_n 0, 1) := by decide +kernel
theorem dX9_rests_104 : decode cX9_rests 104 = .ok (.getfield 69, 3) := by decide +kernel
theorem dX9_rests_107 : decode cX9_rests 107 = .ok (.iconst 2, 1) := by decide +kernel
theorem dX9_rests_108 : decode cX9_rests 108 = .ok (.iconst 4, 1) := by decide +kernel
theorem dX9_rests_109 : decode cX9_rests 109 = .ok (.iload 6, 2) := by decide +kernel
theorem dX9_rests_111 : decode cX9_rests 111 = .ok (.imul, 1) := by decide +kernel
theorem dX9_rests_112 : decode cX9_rests 112 = .ok (.iload 4, 2) := by decide +kernel
theorem dX9_rests_114 : decode cX9_rests 114 = .ok (.iconst 4, 1) := by decide +kernel
theorem dX9_rests_115 : decode cX9_rests 115 = .ok (.irem, 1) := by decide +kernel
theorem dX9_rests_116 : decode cX9_rests 116 = .ok (.iadd, 1) := by decide +kernel
theorem dX9_rests_117 : decode cX9_rests 117 = .ok (.imul, 1) := by decide +kernel
theorem dX9_rests_118 : decode cX9_rests 118 = .ok (.iaload, 1) := by decide +kernel
theorem dX9_rests_119 : decode cX9_rests 119 = .ok (.aload_n 0, 1) := by decide +kernel
theorem dX9_rests_120 : decode cX9_rests 120 = .ok (.getfield 69, 3) := by decide +kernel
theorem dX9_rests_123 : decode cX9_rests 123 = .ok (.iconst 2, 1) := by decide +kernel
theorem dX9_rests_124 : decode cX9_rests 124 = .ok (.iload 4, 2) := by decide +kernel
theorem dX9_rests_126 : decode cX9_rests 126 = .ok (.imul, 1) := by decide +kernel
theorem dX9_rests_127 : decode cX9_rests 127 = .ok (.iaload, 1) := by decide +kernel
theorem dX9_rests_128 : decode cX9_rests 128 = .ok (.if_icmp .gt 40, 3) := by decide +kernel
theorem dX9_rests_131 : decode cX9_rests 131 = .ok (.aload_n 0, 1) := by decide +kernel
theorem dX9_rests_132 : decode cX9_rests 132 = .ok (.getfield 69, 3) := by decide +kernel
theorem dX9_rests_135 : decode cX9_rests 135 = .ok (.iconst 2, 1) := by decide +kernel
theorem dX9_rests_136 : decode cX9_rests 136 = .ok (.iload 4, 2) := by decide +kernel
theorem dX9_rests_138 : decode cX9_rests 138 = .ok (.iload 4, 2) := by decide +kernel
theorem dX9_rests_140 : decode cX9_rests 140 = .ok (.iconst 4, 1) := by decide +kernel
theorem dX9_rests_141 : decode cX9_rests 141 = .ok (.irem, 1) := by decide +kernel
theorem dX9_rests_142 : decode cX9_rests 142 = .ok (.isub, 1) := by decide +kernel
theorem dX9_rests_143 : decode cX9_rests 143 = .ok (.iload 6, 2) := by decide +kernel
theorem dX9_rests_145 : decode cX9_rests 145 = .ok (.iadd, 1) := by decide +kernel
theorem dX9_rests_146 : decode cX9_rests 146 = .ok (.imul, 1) := by decide +kernel
theorem dX9_rests_147 : decode cX9_rests 147 = .ok (.iconst 1, 1) := by decide +kernel
theorem dX9_rests_148 : decode cX9_rests 148 = .ok (.iadd, 1) := by decide +kernel
theorem dX9_rests_149 : decode cX9_rests 149 = .ok (.iaload, 1) := by decide +kernel
theorem dX9_rests_150 : decode cX9_rests 150 = .ok (.aload_n 0, 1) := by decide +kernel
theorem dX9_rests_151 : decode cX9_rests 151 = .ok (.getfield 69, 3) := by decide +kernel
theorem dX9_rests_154 : decode cX9_rests 154 = .ok (.iconst 2, 1) := by decide +kernel
theorem dX9_rests_155 : decode cX9_rests 155 = .ok (.iload 4, 2) := by decide +kernel
theorem dX9_rests_157 : decode cX9_rests 157 = .ok (.imul, 1) := by decide +kernel
theorem dX9_rests_158 : decode cX9_rests 158 = .ok (.iconst 1, 1) := by decide +kernel
theorem dX9_rests_159 : decode cX9_rests 159 = .ok (.iadd, 1) := by decide +kernel
theorem dX9_rests_160 : decode cX9_rests 160 = .ok (.iaload, 1) := by decide +kernel
theorem dX9_rests_161 : decode cX9_rests 161 = .ok (.if_icmp .gt 7, 3) := by decide +kernel
theorem dX9_rests_164 : decode cX9_rests 164 = .ok (.iconst 1, 1) := by decide +kernel
theorem dX9_rests_165 : decode cX9_rests 165 = .ok (.goto 4, 3) := by decide +kernel
theorem dX9_rests_168 : decode cX9_rests 168 = .ok (.iconst 0, 1) := by decide +kernel
theorem dX9_rests_169 : decode cX9_rests 169 = .ok (.istore 5, 2) := by decide +kernel
theorem dX9_rests_171 : decode cX9_rests 171 = .ok (.iinc 6 1, 3) := by decide +kernel
theorem dX9_rests_174 : decode cX9_rests 174 = .ok (.goto (-82), 3) := by decide +kernel
theorem dX9_rests_177 : decode cX9_rests 177 = .ok (.aload_n 0, 1) := by decide +kernel
theorem dX9_rests_178 : decode cX9_rests 178 = .ok (.iload 5, 2) := by decide +kernel
theorem dX9_rests_180 : decode cX9_rests 180 = .ok (.ifCond .eq 25, 3) := by decide +kernel
theorem dX9_rests_183 : decode cX9_rests 183 = .ok (.aload_n 0, 1) := by decide +kernel
theorem dX9_rests_184 : decode cX9_rests 184 = .ok (.getfield 272, 3) := by decide +kernel
theorem dX9_rests_187 : decode cX9_rests 187 = .ok (.ifCond .ne 18, 3) := by decide +kernel
theorem dX9_rests_190 : decode cX9_rests 190 = .ok (.bipush 10, 2) := by decide +kernel
theorem dX9_rests_192 : decode cX9_rests 192 = .ok (.iload 4, 2) := by decide +kernel
theorem dX9_rests_194 : decode cX9_rests 194 = .ok (.iconst 4, 1) := by decide +kernel
theorem dX9_rests_195 : decode cX9_rests 195 = .ok (.idiv, 1) := by decide +kernel
theorem dX9_rests_196 : decode cX9_rests 196 = .ok (.imul, 1) := by decide +kernel
theorem dX9_rests_197 : decode cX9_rests 197 = .ok (.iload 4, 2) := by decide +kernel
theorem dX9_rests_199 : decode cX9_rests 199 = .ok (.iconst 4, 1) := by decide +kernel
theorem dX9_rests_200 : decode cX9_rests 200 = .ok (.irem, 1) := by decide +kernel
theorem dX9_rests_201 : decode cX9_rests 201 = .ok (.iadd, 1) := by decide +kernel
theorem dX9_rests_202 : decode cX9_rests 202 = .ok (.goto 7, 3) := by decide +kernel
theorem dX9_rests_205 : decode cX9_rests 205 = .ok (.aload_n 0, 1) := by decide +kernel
theorem dX9_rests_206 : decode cX9_rests 206 = .ok (.getfield 275, 3) := by decide +kernel
theorem dX9_rests_209 : decode cX9_rests 209 = .ok (.putfield 275, 3) := by decide +kernel
theorem dX9_rests_212 : decode cX9_rests 212 = .ok (.aload_n 0, 1) := by decide +kernel
theorem dX9_rests_213 : decode cX9_rests 213 = .ok (.dup, 1) := by decide +kernel
theorem dX9_rests_214 : decode cX9_rests 214 = .ok (.getfield 272, 3) := by decide +kernel
theorem dX9_rests_217 : decode cX9_rests 217 = .ok (.iload 5, 2) := by decide +kernel
theorem dX9_rests_219 : decode cX9_rests 219 = .ok (.ifCond .eq 7, 3) := by decide +kernel
theorem dX9_rests_222 : decode cX9_rests 222 = .ok (.iconst 1, 1) := by decide +kernel
theorem dX9_rests_223 : decode cX9_rests 223 = .ok (.goto 4, 3) := by decide +kernel
theorem dX9_rests_226 : decode cX9_rests 226 = .ok (.iconst 0, 1) := by decide +kernel
theorem dX9_rests_227 : decode cX9_rests 227 = .ok (.iadd, 1) := by decide +kernel
theorem dX9_rests_228 : decode cX9_rests 228 = .ok (.putfield 272, 3) := by decide +kernel
theorem dX9_rests_231 : decode cX9_rests 231 = .ok (.iinc 4 1, 3) := by decide +kernel
theorem dX9_rests_234 : decode cX9_rests 234 = .ok (.goto (-155), 3) := by decide +kernel
theorem dX9_rests_237 : decode cX9_rests 237 = .ok (.iload_n 3, 1) := by decide +kernel
theorem dX9_rests_238 : decode cX9_rests 238 = .ok (.ifCond .ne 10, 3) := by decide +kernel
theorem dX9_rests_241 : decode cX9_rests 241 = .ok (.aload_n 0, 1) := by decide +kernel
theorem dX9_rests_242 : decode cX9_rests 242 = .ok (.getfield 272, 3) := by decide +kernel
theorem dX9_rests_245 : decode cX9_rests 245 = .ok (.goto 7, 3) := by decide +kernel
theorem dX9_rests_248 : decode cX9_rests 248 = .ok (.aload_n 0, 1) := by decide +kernel
theorem dX9_rests_249 : decode cX9_rests 249 = .ok (.getfield 275, 3) := by decide +kernel
theorem dX9_rests_252 : decode cX9_rests 252 = .ok (.ireturn, 1) := by decide +kernel
theorem dX9_strays_0 : decode cX9_strays 0 = .ok (.aload_n 0, 1) := by decide +kernel
theorem dX9_strays_1 : decode cX9_strays 1 = .ok (.iconst 0, 1) := by decide +kernel
theorem dX9_strays_2 : decode cX9_strays 2 = .ok (.putfield 75, 3) := by decide +kernel
theorem dX9_strays_5 : decode cX9_strays 5 = .ok (.aload_n 0, 1) := by decide +kernel
theorem dX9_strays_6 : decode cX9_strays 6 = .ok (.iload_n 1, 1) := by decide +kernel
theorem dX9_strays_7 : decode cX9_strays 7 = .ok (.invokevirtual 191, 3) := by decide +kernel
theorem dX9_strays_10 : decode cX9_strays 10 = .ok (.ifCond .eq 5, 3) := by decide +kernel
theorem dX9_strays_13 : decode cX9_strays 13 = .ok (.iconst (-1), 1) := by decide +kernel
theorem dX9_strays_14 : decode cX9_strays 14 = .ok (.ireturn, 1) := by decide +kernel
theorem dX9_strays_15 : decode cX9_strays 15 = .ok (.iload_n 2, 1) := by decide +kernel
theorem dX9_strays_16 : decode cX9_strays 16 = .ok (.i2l, 1) := by decide +kernel
theorem dX9_strays_17 : decode cX9_strays 17 = .ok (.lconst 1, 1) := by decide +kernel
theorem dX9_strays_18 : decode cX9_strays 18 = .ok (.ldc2_w 278, 3) := by decide +kernel
theorem dX9_strays_21 : decode cX9_strays 21 = .ok (.invokestatic 81, 3) := by decide +kernel
theorem dX9_strays_24 : decode cX9_strays 24 = .ok (.ifCond .ne 6, 3) := by decide +kernel
theorem dX9_strays_27 : decode cX9_strays 27 = .ok (.bipush (-2), 2) := by decide +kernel
theorem dX9_strays_29 : decode cX9_strays 29 = .ok (.ireturn, 1) := by decide +kernel
theorem dX9_strays_30 : decode cX9_strays 30 = .ok (.iconst 0, 1) := by decide +kernel
theorem dX9_strays_31 : decode cX9_strays 31 = .ok (.istore 4, 2) := by decide +kernel
theorem dX9_strays_33 : decode cX9_strays 33 = .ok (.iconst 0, 1) := by decide +kernel
theorem dX9_strays_34 : decode cX9_strays 34 = .ok (.istore 5, 2) := by decide +kernel
theorem dX9_strays_36 : decode cX9_strays 36 = .ok (.iload 5, 2) := by decide +kernel
theorem dX9_strays_38 : decode cX9_strays 38 = .ok (.iconst 4, 1) := by decide +kernel
theorem dX9_strays_39 : decode cX9_strays 39 = .ok (.iload_n 2, 1) := by decide +kernel
theorem dX9_strays_40 : decode cX9_strays 40 = .ok (.invokestatic 280, 3) := by decide +kernel
theorem dX9_strays_43 : decode cX9_strays 43 = .ok (.if_icmp .ge 71, 3) := by decide +kernel
theorem dX9_strays_46 : decode cX9_strays 46 = .ok (.aload_n 0, 1) := by decide +kernel
theorem dX9_strays_47 : decode cX9_strays 47 = .ok (.invokevirtual 248, 3) := by decide +kernel
theorem dX9_strays_50 : decode cX9_strays 50 = .ok (.iconst 0, 1) := by decide +kernel
theorem dX9_strays_51 : decode cX9_strays 51 = .ok (.istore 6, 2) := by decide +kernel
theorem dX9_strays_53 : decode cX9_strays 53 = .ok (.iload 6, 2) := by decide +kernel
theorem dX9_strays_55 : decode cX9_strays 55 = .ok (.iload_n 2, 1) := by decide +kernel
theorem dX9_strays_56 : decode cX9_strays 56 = .ok (.if_icmp .ge 30, 3) := by decide +kernel
theorem dX9_strays_59 : decode cX9_strays 59 = .ok (.aload_n 0, 1) := by decide +kernel
theorem dX9_strays_60 : decode cX9_strays 60 = .ok (.aload_n 0, 1) := by decide +kernel
theorem dX9_strays_61 : decode cX9_strays 61 = .ok (.getfield 38, 3) := by decide +kernel
theorem dX9_strays_64 : decode cX9_strays 64 = .ok (.iload_n 1, 1) := by decide +kernel
theorem dX9_strays_65 : decode cX9_strays 65 = .ok (.iload 5, 2) := by decide +kernel
theorem dX9_strays_67 : decode cX9_strays 67 = .ok (.iconst 4, 1) := by decide +kernel
theorem dX9_strays_68 : decode cX9_strays 68 = .ok (.iload 6, 2) := by decide +kernel
theorem dX9_strays_70 : decode cX9_strays 70 = .ok (.invokestatic 280, 3) := by decide +kernel
theorem dX9_strays_73 : decode cX9_strays 73 = .ok (.idiv, 1) := by decide +kernel
theorem dX9_strays_74 : decode cX9_strays 74 = .ok (.iconst 4, 1) := by decide +kernel
theorem dX9_strays_75 : decode cX9_strays 75 = .ok (.irem, 1) := by decide +kernel
theorem dX9_strays_76 : decode cX9_strays 76 = .ok (.invokevirtual 200, 3) := by decide +kernel
theorem dX9_strays_79 : decode cX9_strays 79 = .ok (.pop, 1) := by decide +kernel
theorem dX9_strays_80 : decode cX9_strays 80 = .ok (.iinc 6 1, 3) := by decide +kernel
theorem dX9_strays_83 : decode cX9_strays 83 = .ok (.goto (-30), 3) := by decide +kernel
theorem dX9_strays_86 : decode cX9_strays 86 = .ok (.iload 4, 2) := by decide +kernel
theorem dX9_strays_88 : decode cX9_strays 88 = .ok (.aload_n 0, 1) := by decide +kernel
theorem dX9_strays_89 : decode cX9_strays 89 = .ok (.aload_n 0, 1) := by decide +kernel
theorem dX9_strays_90 : decode cX9_strays 90 = .ok (.getfield 38, 3) := by decide +kernel
theorem dX9_strays_93 : decode cX9_strays 93 = .ok (.iload_n 1, 1) := by decide +kernel
theorem dX9_strays_94 : decode cX9_strays 94 = .ok (.invokevirtual 162, 3) := by decide +kernel
theorem dX9_strays_97 : decode cX9_strays 97 = .ok (.ifCond .eq 7, 3) := by decide +kernel
theorem dX9_strays_100 : decode cX9_strays 100 = .ok (.iconst 1, 1) := by decide +kernel
theorem dX9_strays_101 : decode cX9_strays 101 = .ok (.goto 4, 3) := by decide +kernel
theorem dX9_strays_104 : decode cX9_strays 104 = .ok (.iconst 0, 1) := by decide +kernel
theorem dX9_strays_105 : decode cX9_strays 105 = .ok (.iadd, 1) := by decide +kernel
theorem dX9_strays_106 : decode cX9_strays 106 = .ok (.istore 4, 2) := by decide +kernel
theorem dX9_strays_108 : decode cX9_strays 108 = .ok (.iinc 5 1, 3) := by decide +kernel
theorem dX9_strays_111 : decode cX9_strays 111 = .ok (.goto (-75), 3) := by decide +kernel
theorem dX9_strays_114 : decode cX9_strays 114 = .ok (.iload 4, 2) := by decide +kernel
theorem dX9_strays_116 : decode cX9_strays 116 = .ok (.iconst 4, 1) := by decide +kernel
theorem dX9_strays_117 : decode cX9_strays 117 = .ok (.iload_n 2, 1) := by decide +kernel
theorem dX9_strays_118 : decode cX9_strays 118 = .ok (.invokestatic 280, 3) := by decide +kernel
theorem dX9_strays_121 : decode cX9_strays 121 = .ok (.iload_n 3, 1) := by decide +kernel
theorem dX9_strays_122 : decode cX9_strays 122 = .ok (.invokestatic 260, 3) := by decide +kernel
theorem dX9_strays_125 : decode cX9_strays 125 = .ok (.ireturn, 1) := by decide +kernel
theorem dX9_seed_0 : decode cX9_seed 0 = .ok (.aload_n 0, 1) := by decide +kernel
theorem dX9_seed_1 : decode cX9_seed 1 = .ok (.iconst 0, 1) := by decide +kernel
theorem dX9_seed_2 : decode cX9_seed 2 = .ok (.putfield 75, 3) := by decide +kernel
theorem dX9_seed_5 : decode cX9_seed 5 = .ok (.aload_n 0, 1) := by decide +kernel
theorem dX9_seed_6 : decode cX9_seed 6 = .ok (.getfield 283, 3) := by decide +kernel
theorem dX9_seed_9 : decode cX9_seed 9 = .ok (.lstore_n 3, 1) := by decide +kernel
theorem dX9_seed_10 : decode cX9_seed 10 = .ok (.aload_n 0, 1) := by decide +kernel
theorem dX9_seed_11 : decode cX9_seed 11 = .ok (.lload_n 1, 1) := by decide +kernel
theorem dX9_seed_12 : decode cX9_seed 12 = .ok (.putfield 283, 3) := by decide +kernel
theorem dX9_seed_15 : decode cX9_seed 15 = .ok (.lload_n 3, 1) := by decide +kernel
theorem dX9_seed_16 : decode cX9_seed 16 = .ok (.lreturn, 1) := by decide +kernel
theorem dX9_nights_0 : decode cX9_nights 0 = .ok (.aload_n 0, 1) := by decide +kernel
theorem dX9_nights_1 : decode cX9_nights 1 = .ok (.iconst 0, 1) := by decide +kernel
theorem dX9_nights_2 : decode cX9_nights 2 = .ok (.putfield 75, 3) := by decide +kernel
theorem dX9_nights_5 : decode cX9_nights 5 = .ok (.iload_n 1, 1) := by decide +kernel
theorem dX9_nights_6 : decode cX9_nights 6 = .ok (.i2l, 1) := by decide +kernel
theorem dX9_nights_7 : decode cX9_nights 7 = .ok (.lconst 1, 1) := by decide +kernel
theorem dX9_nights_8 : decode cX9_nights 8 = .ok (.ldc2_w 287, 3) := by decide +kernel
theorem dX9_nights_11 : decode cX9_nights 11 = .ok (.invokestatic 81, 3) := by decide +kernel
theorem dX9_nights_14 : decode cX9_nights 14 = .ok (.ifCond .ne 6, 3) := by decide +kernel
theorem dX9_nights_17 : decode cX9_nights 17 = .ok (.bipush (-2), 2) := by decide +kernel
theorem dX9_nights_19 : decode cX9_nights 19 = .ok (.ireturn, 1) := by decide +kernel
theorem dX9_nights_20 : decode cX9_nights 20 = .ok (.aload_n 0, 1) := by decide +kernel
theorem dX9_nights_21 : decode cX9_nights 21 = .ok (.invokevirtual 248, 3) := by decide +kernel
theorem dX9_nights_24 : decode cX9_nights 24 = .ok (.iconst 0, 1) := by decide +kernel
theorem dX9_nights_25 : decode cX9_nights 25 = .ok (.istore_n 2, 1) := by decide +kernel
theorem dX9_nights_26 : decode cX9_nights 26 = .ok (.iconst 0, 1) := by decide +kernel
theorem dX9_nights_27 : decode cX9_nights 27 = .ok (.istore_n 3, 1) := by decide +kernel
theorem dX9_nights_28 : decode cX9_nights 28 = .ok (.iload_n 3, 1) := by decide +kernel
theorem dX9_nights_29 : decode cX9_nights 29 = .ok (.iload_n 1, 1) := by decide +kernel
theorem dX9_nights_30 : decode cX9_nights 30 = .ok (.if_icmp .ge 86, 3) := by decide +kernel
theorem dX9_nights_33 : decode cX9_nights 33 = .ok (.aload_n 0, 1) := by decide +kernel
theorem dX9_nights_34 : decode cX9_nights 34 = .ok (.aload_n 0, 1) := by decide +kernel
theorem dX9_nights_35 : decode cX9_nights 35 = .ok (.getfield 283, 3) := by decide +kernel
theorem dX9_nights_38 : decode cX9_nights 38 = .ok (.ldc2_w 289, 3) := by decide +kernel
theorem dX9_nights_41 : decode cX9_nights 41 = .ok (.lmul, 1) := by decide +kernel
theorem dX9_nights_42 : decode cX9_nights 42 = .ok (.ldc2_w 291, 3) := by decide +kernel
theorem dX9_nights_45 : decode cX9_nights 45 = .ok (.ladd, 1) := by decide +kernel
theorem dX9_nights_46 : decode cX9_nights 46 = .ok (.putfield 283, 3) := by decide +kernel
theorem dX9_nights_49 : decode cX9_nights 49 = .ok (.aload_n 0, 1) := by decide +kernel
theorem dX9_nights_50 : decode cX9_nights 50 = .ok (.getfield 283, 3) := by decide +kernel
theorem dX9_nights_53 : decode cX9_nights 53 = .ok (.bipush 33, 2) := by decide +kernel
theorem dX9_nights_55 : decode cX9_nights 55 = .ok (.lushr, 1) := by decide +kernel
theorem dX9_nights_56 : decode cX9_nights 56 = .ok (.ldc2_w 293, 3) := by decide +kernel
theorem dX9_nights_59 : decode cX9_nights 59 = .ok (.lrem, 1) := by decide +kernel
theorem dX9_nights_60 : decode cX9_nights 60 = .ok (.l2i, 1) := by decide +kernel
theorem dX9_nights_61 : decode cX9_nights 61 = .ok (.istore 4, 2) := by decide +kernel
theorem dX9_nights_63 : decode cX9_nights 63 = .ok (.aload_n 0, 1) := by decide +kernel
theorem dX9_nights_64 : decode cX9_nights 64 = .ok (.iload 4, 2) := by decide +kernel
theorem dX9_nights_66 : decode cX9_nights 66 = .ok (.bipush 20, 2) := by decide +kernel
theorem dX9_nights_68 : decode cX9_nights 68 = .ok (.if_icmp .ge 21, 3) := by decide +kernel
theorem dX9_nights_71 : decode cX9_nights 71 = .ok (.bipush 100, 2) := by decide +kernel
theorem dX9_nights_73 : decode cX9_nights 73 = .ok (.bipush 10, 2) := by decide +kernel
theorem dX9_nights_75 : decode cX9_nights 75 = .ok (.iload 4, 2) := by decide +kernel
theorem dX9_nights_77 : decode cX9_nights 77 = .ok (.iconst 4, 1) := by decide +kernel
theorem dX9_nights_78 : decode cX9_nights 78 = .ok (.idiv, 1) := by decide +kernel
theorem dX9_nights_79 : decode cX9_nights 79 = .ok (.imul, 1) := by decide +kernel
theorem dX9_nights_80 : decode cX9_nights 80 = .ok (.iadd, 1) := by decide +kernel
theorem dX9_nights_81 : decode cX9_nights 81 = .ok (.iload 4, 2) := by decide +kernel
theorem dX9_nights_83 : decode cX9_nights 83 = .ok (.iconst 4, 1) := by decide +kernel
theorem dX9_nights_84 : decode cX9_nights 84 = .ok (.irem, 1) := by decide +kernel
theorem dX9_nights_85 : decode cX9_nights 85 = .ok (.iadd, 1) := by decide +kernel
theorem dX9_nights_86 : decode cX9_nights 86 = .ok (.goto 9, 3) := by decide +kernel
theorem dX9_nights_89 : decode cX9_nights 89 = .ok (.sipush 180, 3) := by decide +kernel
theorem dX9_nights_92 : decode cX9_nights 92 = .ok (.iload 4, 2) := by decide +kernel
theorem dX9_nights_94 : decode cX9_nights 94 = .ok (.iadd, 1) := by decide +kernel
theorem dX9_nights_95 : decode cX9_nights 95 = .ok (.invokevirtual 251, 3) := by decide +kernel
theorem dX9_nights_98 : decode cX9_nights 98 = .ok (.pop, 1) := by decide +kernel
theorem dX9_nights_99 : decode cX9_nights 99 = .ok (.iload_n 2, 1) := by decide +kernel
theorem dX9_nights_100 : decode cX9_nights 100 = .ok (.aload_n 0, 1) := by decide +kernel
theorem dX9_nights_101 : decode cX9_nights 101 = .ok (.aload_n 0, 1) := by decide +kernel
theorem dX9_nights_102 : decode cX9_nights 102 = .ok (.getfield 38, 3) := by decide +kernel
theorem dX9_nights_105 : decode cX9_nights 105 = .ok (.invokevirtual 206, 3) := by decide +kernel
theorem dX9_nights_108 : decode cX9_nights 108 = .ok (.iadd, 1) := by decide +kernel
theorem dX9_nights_109 : decode cX9_nights 109 = .ok (.istore_n 2, 1) := by decide +kernel
theorem dX9_nights_110 : decode cX9_nights 110 = .ok (.iinc 3 1, 3) := by decide +kernel
theorem dX9_nights_113 : decode cX9_nights 113 = .ok (.goto (-85), 3) := by decide +kernel
theorem dX9_nights_116 : decode cX9_nights 116 = .ok (.iload_n 2, 1) := by decide +kernel
theorem dX9_nights_117 : decode cX9_nights 117 = .ok (.ireturn, 1) := by decide +kernel
theorem dX9_keep_0 : decode cX9_keep 0 = .ok (.aload_n 0, 1) := by decide +kernel
theorem dX9_keep_1 : decode cX9_keep 1 = .ok (.iconst 0, 1) := by decide +kernel
theorem dX9_keep_2 : decode cX9_keep 2 = .ok (.putfield 75, 3) := by decide +kernel
theorem dX9_keep_5 : decode cX9_keep 5 = .ok (.iload_n 1, 1) := by decide +kernel
theorem dX9_keep_6 : decode cX9_keep 6 = .ok (.i2l, 1) := by decide +kernel
theorem dX9_keep_7 : decode cX9_keep 7 = .ok (.lconst 0, 1) := by decide +kernel
theorem dX9_keep_8 : decode cX9_keep 8 = .ok (.lconst 1, 1) := by decide +kernel
theorem dX9_keep_9 : decode cX9_keep 9 = .ok (.invokestatic 81, 3) := by decide +kernel
theorem dX9_keep_12 : decode cX9_keep 12 = .ok (.ifCond .ne 5, 3) := by decide +kernel
theorem dX9_keep_15 : decode cX9_keep 15 = .ok (.iconst (-1), 1) := by decide +kernel
theorem dX9_keep_16 : decode cX9_keep 16 = .ok (.ireturn, 1) := by decide +kernel
theorem dX9_keep_17 : decode cX9_keep 17 = .ok (.aload_n 0, 1) := by decide +kernel
theorem dX9_keep_18 : decode cX9_keep 18 = .ok (.getfield 47, 3) := by decide +kernel
theorem dX9_keep_21 : decode cX9_keep 21 = .ok (.iload_n 1, 1) := by decide +kernel
theorem dX9_keep_22 : decode cX9_keep 22 = .ok (.iconst 1, 1) := by decide +kernel
theorem dX9_keep_23 : decode cX9_keep 23 = .ok (.bastore, 1) := by decide +kernel
theorem dX9_keep_24 : decode cX9_keep 24 = .ok (.iconst 0, 1) := by decide +kernel
theorem dX9_keep_25 : decode cX9_keep 25 = .ok (.istore_n 2, 1) := by decide +kernel
theorem dX9_keep_26 : decode cX9_keep 26 = .ok (.iload_n 2, 1) := by decide +kernel
theorem dX9_keep_27 : decode cX9_keep 27 = .ok (.bipush 16, 2) := by decide +kernel
theorem dX9_keep_29 : decode cX9_keep 29 = .ok (.if_icmp .ge 26, 3) := by decide +kernel
theorem dX9_keep_32 : decode cX9_keep 32 = .ok (.aload_n 0, 1) := by decide +kernel
theorem dX9_keep_33 : decode cX9_keep 33 = .ok (.getfield 44, 3) := by decide +kernel
theorem dX9_keep_36 : decode cX9_keep 36 = .ok (.bipush 16, 2) := by decide +kernel
theorem dX9_keep_38 : decode cX9_keep 38 = .ok (.iload_n 1, 1) := by decide +kernel
theorem dX9_keep_39 : decode cX9_keep 39 = .ok (.imul, 1) := by decide +kernel
theorem dX9_keep_40 : decode cX9_keep 40 = .ok (.iload_n 2, 1) := by decide +kernel
theorem dX9_keep_41 : decode cX9_keep 41 = .ok (.iadd, 1) := by decide +kernel
theorem dX9_keep_42 : decode cX9_keep 42 = .ok (.aload_n 0, 1) := by decide +kernel
theorem dX9_keep_43 : decode cX9_keep 43 = .ok (.getfield 35, 3) := by decide +kernel
theorem dX9_keep_46 : decode cX9_keep 46 = .ok (.iload_n 2, 1) := by decide +kernel
theorem dX9_keep_47 : decode cX9_keep 47 = .ok (.iaload, 1) := by decide +kernel
theorem dX9_keep_48 : decode cX9_keep 48 = .ok (.iastore, 1) := by decide +kernel
theorem dX9_keep_49 : decode cX9_keep 49 = .ok (.iinc 2 1, 3) := by decide +kernel
theorem dX9_keep_52 : decode cX9_keep 52 = .ok (.goto (-26), 3) := by decide +kernel
theorem dX9_keep_55 : decode cX9_keep 55 = .ok (.aload_n 0, 1) := by decide +kernel
theorem dX9_keep_56 : decode cX9_keep 56 = .ok (.aload_n 0, 1) := by decide +kernel
theorem dX9_keep_57 : decode cX9_keep 57 = .ok (.getfield 35, 3) := by decide +kernel
theorem dX9_keep_60 : decode cX9_keep 60 = .ok (.invokevirtual 206, 3) := by decide +kernel
theorem dX9_keep_63 : decode cX9_keep 63 = .ok (.ireturn, 1) := by decide +kernel
theorem dX9_goOn_0 : decode cX9_goOn 0 = .ok (.aload_n 0, 1) := by decide +kernel
theorem dX9_goOn_1 : decode cX9_goOn 1 = .ok (.iconst 0, 1) := by decide +kernel
theorem dX9_goOn_2 : decode cX9_goOn 2 = .ok (.putfield 75, 3) := by decide +kernel
theorem dX9_goOn_5 : decode cX9_goOn 5 = .ok (.iload_n 1, 1) := by decide +kernel
theorem dX9_goOn_6 : decode cX9_goOn 6 = .ok (.i2l, 1) := by decide +kernel
theorem dX9_goOn_7 : decode cX9_goOn 7 = .ok (.lconst 0, 1) := by decide +kernel
theorem dX9_goOn_8 : decode cX9_goOn 8 = .ok (.lconst 1, 1) := by decide +kernel
theorem dX9_goOn_9 : decode cX9_goOn 9 = .ok (.invokestatic 81, 3) := by decide +kernel
theorem dX9_goOn_12 : decode cX9_goOn 12 = .ok (.ifCond .ne 5, 3) := by decide +kernel
theorem dX9_goOn_15 : decode cX9_goOn 15 = .ok (.iconst (-1), 1) := by decide +kernel
theorem dX9_goOn_16 : decode cX9_goOn 16 = .ok (.ireturn, 1) := by decide +kernel
theorem dX9_goOn_17 : decode cX9_goOn 17 = .ok (.aload_n 0, 1) := by decide +kernel
theorem dX9_goOn_18 : decode cX9_goOn 18 = .ok (.getfield 47, 3) := by decide +kernel
theorem dX9_goOn_21 : decode cX9_goOn 21 = .ok (.iload_n 1, 1) := by decide +kernel
theorem dX9_goOn_22 : decode cX9_goOn 22 = .ok (.baload, 1) := by decide +kernel
theorem dX9_goOn_23 : decode cX9_goOn 23 = .ok (.ifCond .ne 6, 3) := by decide +kernel
theorem dX9_goOn_26 : decode cX9_goOn 26 = .ok (.bipush (-3), 2) := by decide +kernel
theorem dX9_goOn_28 : decode cX9_goOn 28 = .ok (.ireturn, 1) := by decide +kernel
theorem dX9_goOn_29 : decode cX9_goOn 29 = .ok (.iconst 0, 1) := by decide +kernel
theorem dX9_goOn_30 : decode cX9_goOn 30 = .ok (.istore_n 2, 1) := by decide +kernel
theorem dX9_goOn_31 : decode cX9_goOn 31 = .ok (.iload_n 2, 1) := by decide +kernel
theorem dX9_goOn_32 : decode cX9_goOn 32 = .ok (.bipush 16, 2) := by decide +kernel
theorem dX9_goOn_34 : decode cX9_goOn 34 = .ok (.if_icmp .ge 26, 3) := by decide +kernel
theorem dX9_goOn_37 : decode cX9_goOn 37 = .ok (.aload_n 0, 1) := by decide +kernel
theorem dX9_goOn_38 : decode cX9_goOn 38 = .ok (.getfield 35, 3) := by decide +kernel
theorem dX9_goOn_41 : decode cX9_goOn 41 = .ok (.iload_n 2, 1) := by decide +kernel
theorem dX9_goOn_42 : decode cX9_goOn 42 = .ok (.aload_n 0, 1) := by decide +kernel
theorem dX9_goOn_43 : decode cX9_goOn 43 = .ok (.getfield 44, 3) := by decide +kernel
theorem dX9_goOn_46 : decode cX9_goOn 46 = .ok (.bipush 16, 2) := by decide +kernel
theorem dX9_goOn_48 : decode cX9_goOn 48 = .ok (.iload_n 1, 1) := by decide +kernel
theorem dX9_goOn_49 : decode cX9_goOn 49 = .ok (.imul, 1) := by decide +kernel
theorem dX9_goOn_50 : decode cX9_goOn 50 = .ok (.iload_n 2, 1) := by decide +kernel
theorem dX9_goOn_51 : decode cX9_goOn 51 = .ok (.iadd, 1) := by decide +kernel
theorem dX9_goOn_52 : decode cX9_goOn 52 = .ok (.iaload, 1) := by decide +kernel
theorem dX9_goOn_53 : decode cX9_goOn 53 = .ok (.iastore, 1) := by decide +kernel
theorem dX9_goOn_54 : decode cX9_goOn 54 = .ok (.iinc 2 1, 3) := by decide +kernel
theorem dX9_goOn_57 : decode cX9_goOn 57 = .ok (.goto (-26), 3) := by decide +kernel
theorem dX9_goOn_60 : decode cX9_goOn 60 = .ok (.aload_n 0, 1) := by decide +kernel
theorem dX9_goOn_61 : decode cX9_goOn 61 = .ok (.iconst 0, 1) := by decide +kernel
theorem dX9_goOn_62 : decode cX9_goOn 62 = .ok (.putfield 131, 3) := by decide +kernel
theorem dX9_goOn_65 : decode cX9_goOn 65 = .ok (.aload_n 0, 1) := by decide +kernel
theorem dX9_goOn_66 : decode cX9_goOn 66 = .ok (.aload_n 0, 1) := by decide +kernel
theorem dX9_goOn_67 : decode cX9_goOn 67 = .ok (.getfield 35, 3) := by decide +kernel
theorem dX9_goOn_70 : decode cX9_goOn 70 = .ok (.invokevirtual 206, 3) := by decide +kernel
theorem dX9_goOn_73 : decode cX9_goOn 73 = .ok (.ireturn, 1) := by decide +kernel
theorem dJ6_bitCount_0f7a4_0 : decode cJ6_bitCount_0f7a4 0 = .ok (.iload_n 0, 1) := by decide +kernel
theorem dJ6_bitCount_0f7a4_1 : decode cJ6_bitCount_0f7a4 1 = .ok (.iload_n 0, 1) := by decide +kernel
theorem dJ6_bitCount_0f7a4_2 : decode cJ6_bitCount_0f7a4 2 = .ok (.iconst 1, 1) := by decide +kernel
theorem dJ6_bitCount_0f7a4_3 : decode cJ6_bitCount_0f7a4 3 = .ok (.iushr, 1) := by decide +kernel
theorem dJ6_bitCount_0f7a4_4 : decode cJ6_bitCount_0f7a4 4 = .ok (.ldc_w 265, 3) := by decide +kernel
theorem dJ6_bitCount_0f7a4_7 : decode cJ6_bitCount_0f7a4 7 = .ok (.iand, 1) := by decide +kernel
theorem dJ6_bitCount_0f7a4_8 : decode cJ6_bitCount_0f7a4 8 = .ok (.isub, 1) := by decide +kernel
theorem dJ6_bitCount_0f7a4_9 : decode cJ6_bitCount_0f7a4 9 = .ok (.istore_n 0, 1) := by decide +kernel
theorem dJ6_bitCount_0f7a4_10 : decode cJ6_bitCount_0f7a4 10 = .ok (.iload_n 0, 1) := by decide +kernel
theorem dJ6_bitCount_0f7a4_11 : decode cJ6_bitCount_0f7a4 11 = .ok (.ldc_w 266, 3) := by decide +kernel
theorem dJ6_bitCount_0f7a4_14 : decode cJ6_bitCount_0f7a4 14 = .ok (.iand, 1) := by decide +kernel
theorem dJ6_bitCount_0f7a4_15 : decode cJ6_bitCount_0f7a4 15 = .ok (.iload_n 0, 1) := by decide +kernel
theorem dJ6_bitCount_0f7a4_16 : decode cJ6_bitCount_0f7a4 16 = .ok (.iconst 2, 1) := by decide +kernel
theorem dJ6_bitCount_0f7a4_17 : decode cJ6_bitCount_0f7a4 17 = .ok (.iushr, 1) := by decide +kernel
theorem dJ6_bitCount_0f7a4_18 : decode cJ6_bitCount_0f7a4 18 = .ok (.ldc_w 266, 3) := by decide +kernel
theorem dJ6_bitCount_0f7a4_21 : decode cJ6_bitCount_0f7a4 21 = .ok (.iand, 1) := by decide +kernel
theorem dJ6_bitCount_0f7a4_22 : decode cJ6_bitCount_0f7a4 22 = .ok (.iadd, 1) := by decide +kernel
theorem dJ6_bitCount_0f7a4_23 : decode cJ6_bitCount_0f7a4 23 = .ok (.istore_n 0, 1) := by decide +kernel
theorem dJ6_bitCount_0f7a4_24 : decode cJ6_bitCount_0f7a4 24 = .ok (.iload_n 0, 1) := by decide +kernel
theorem dJ6_bitCount_0f7a4_25 : decode cJ6_bitCount_0f7a4 25 = .ok (.iload_n 0, 1) := by decide +kernel
theorem dJ6_bitCount_0f7a4_26 : decode cJ6_bitCount_0f7a4 26 = .ok (.iconst 4, 1) := by decide +kernel
theorem dJ6_bitCount_0f7a4_27 : decode cJ6_bitCount_0f7a4 27 = .ok (.iushr, 1) := by decide +kernel
theorem dJ6_bitCount_0f7a4_28 : decode cJ6_bitCount_0f7a4 28 = .ok (.iadd, 1) := by decide +kernel
theorem dJ6_bitCount_0f7a4_29 : decode cJ6_bitCount_0f7a4 29 = .ok (.ldc_w 267, 3) := by decide +kernel
theorem dJ6_bitCount_0f7a4_32 : decode cJ6_bitCount_0f7a4 32 = .ok (.iand, 1) := by decide +kernel
theorem dJ6_bitCount_0f7a4_33 : decode cJ6_bitCount_0f7a4 33 = .ok (.istore_n 0, 1) := by decide +kernel
theorem dJ6_bitCount_0f7a4_34 : decode cJ6_bitCount_0f7a4 34 = .ok (.iload_n 0, 1) := by decide +kernel
theorem dJ6_bitCount_0f7a4_35 : decode cJ6_bitCount_0f7a4 35 = .ok (.iload_n 0, 1) := by decide +kernel
theorem dJ6_bitCount_0f7a4_36 : decode cJ6_bitCount_0f7a4 36 = .ok (.bipush 8, 2) := by decide +kernel
theorem dJ6_bitCount_0f7a4_38 : decode cJ6_bitCount_0f7a4 38 = .ok (.iushr, 1) := by decide +kernel
theorem dJ6_bitCount_0f7a4_39 : decode cJ6_bitCount_0f7a4 39 = .ok (.iadd, 1) := by decide +kernel
theorem dJ6_bitCount_0f7a4_40 : decode cJ6_bitCount_0f7a4 40 = .ok (.istore_n 0, 1) := by decide +kernel
theorem dJ6_bitCount_0f7a4_41 : decode cJ6_bitCount_0f7a4 41 = .ok (.iload_n 0, 1) := by decide +kernel
theorem dJ6_bitCount_0f7a4_42 : decode cJ6_bitCount_0f7a4 42 = .ok (.iload_n 0, 1) := by decide +kernel
theorem dJ6_bitCount_0f7a4_43 : decode cJ6_bitCount_0f7a4 43 = .ok (.bipush 16, 2) := by decide +kernel
theorem dJ6_bitCount_0f7a4_45 : decode cJ6_bitCount_0f7a4 45 = .ok (.iushr, 1) := by decide +kernel
theorem dJ6_bitCount_0f7a4_46 : decode cJ6_bitCount_0f7a4 46 = .ok (.iadd, 1) := by decide +kernel
theorem dJ6_bitCount_0f7a4_47 : decode cJ6_bitCount_0f7a4 47 = .ok (.istore_n 0, 1) := by decide +kernel
theorem dJ6_bitCount_0f7a4_48 : decode cJ6_bitCount_0f7a4 48 = .ok (.iload_n 0, 1) := by decide +kernel
theorem dJ6_bitCount_0f7a4_49 : decode cJ6_bitCount_0f7a4 49 = .ok (.bipush 63, 2) := by decide +kernel
theorem dJ6_bitCount_0f7a4_51 : decode cJ6_bitCount_0f7a4 51 = .ok (.iand, 1) := by decide +kernel
theorem dJ6_bitCount_0f7a4_52 : decode cJ6_bitCount_0f7a4 52 = .ok (.ireturn, 1) := by decide +kernel
theorem dJ9_abs_0f7a4_0 : decode cJ9_abs_0f7a4 0 = .ok (.iload_n 0, 1) := by decide +kernel
theorem dJ9_abs_0f7a4_1 : decode cJ9_abs_0f7a4 1 = .ok (.ifCond .ge 8, 3) := by decide +kernel
theorem dJ9_abs_0f7a4_4 : decode cJ9_abs_0f7a4 4 = .ok (.iload_n 0, 1) := by decide +kernel
theorem dJ9_abs_0f7a4_5 : decode cJ9_abs_0f7a4 5 = .ok (.ineg, 1) := by decide +kernel
theorem dJ9_abs_0f7a4_6 : decode cJ9_abs_0f7a4 6 = .ok (.goto 4, 3) := by decide +kernel
theorem dJ9_abs_0f7a4_9 : decode cJ9_abs_0f7a4 9 = .ok (.iload_n 0, 1) := by decide +kernel
theorem dJ9_abs_0f7a4_10 : decode cJ9_abs_0f7a4 10 = .ok (.ireturn, 1) := by decide +kernel
theorem dJ9_min_7cf53_0 : decode cJ9_min_7cf53 0 = .ok (.iload_n 0, 1) := by decide +kernel
theorem dJ9_min_7cf53_1 : decode cJ9_min_7cf53 1 = .ok (.iload_n 1, 1) := by decide +kernel
theorem dJ9_min_7cf53_2 : decode cJ9_min_7cf53 2 = .ok (.if_icmp .gt 7, 3) := by decide +kernel
theorem dJ9_min_7cf53_5 : decode cJ9_min_7cf53 5 = .ok (.iload_n 0, 1) := by decide +kernel
theorem dJ9_min_7cf53_6 : decode cJ9_min_7cf53 6 = .ok (.goto 4, 3) := by decide +kernel
theorem dJ9_min_7cf53_9 : decode cJ9_min_7cf53 9 = .ok (.iload_n 1, 1) := by decide +kernel
theorem dJ9_min_7cf53_10 : decode cJ9_min_7cf53 10 = .ok (.ireturn, 1) := by decide +kernel
theorem dL_law_0 : decode cL_law 0 = .ok (.new 7, 3) := by decide +kernel
theorem dL_law_3 : decode cL_law 3 = .ok (.dup, 1) := by decide +kernel
theorem dL_law_4 : decode cL_law 4 = .ok (.invokespecial 9, 3) := by decide +kernel
theorem dL_law_7 : decode cL_law 7 = .ok (.astore_n 1, 1) := by decide +kernel
theorem dL_law_8 : decode cL_law 8 = .ok (.new 10, 3) := by decide +kernel
theorem dL_law_11 : decode cL_law 11 = .ok (.dup, 1) := by decide +kernel
theorem dL_law_12 : decode cL_law 12 = .ok (.invokespecial 12, 3) := by decide +kernel
theorem dL_law_15 : decode cL_law 15 = .ok (.astore_n 2, 1) := by decide +kernel
theorem dL_law_16 : decode cL_law 16 = .ok (.iconst 0, 1) := by decide +kernel
theorem dL_law_17 : decode cL_law 17 = .ok (.istore_n 3, 1) := by decide +kernel
theorem dL_law_18 : decode cL_law 18 = .ok (.iload_n 3, 1) := by decide +kernel
theorem dL_law_19 : decode cL_law 19 = .ok (.aload_n 0, 1) := by decide +kernel
theorem dL_law_20 : decode cL_law 20 = .ok (.arraylength, 1) := by decide +kernel
theorem dL_law_21 : decode cL_law 21 = .ok (.iconst 4, 1) := by decide +kernel
theorem dL_law_22 : decode cL_law 22 = .ok (.isub, 1) := by decide +kernel
theorem dL_law_23 : decode cL_law 23 = .ok (.if_icmp .gt 1003, 3) := by decide +kernel
theorem dL_law_26 : decode cL_law 26 = .ok (.aload_n 0, 1) := by decide +kernel
theorem dL_law_27 : decode cL_law 27 = .ok (.iload_n 3, 1) := by decide +kernel
theorem dL_law_28 : decode cL_law 28 = .ok (.iaload, 1) := by decide +kernel
theorem dL_law_29 : decode cL_law 29 = .ok (.bipush 31, 2) := by decide +kernel
theorem dL_law_31 : decode cL_law 31 = .ok (.iand, 1) := by decide +kernel
theorem dL_law_32 : decode cL_law 32 = .ok (.tableswitch 988 0 28 #[132, 155, 168, 181, 194, 217, 240, 299, 332, 365, 388, 411, 424, 447, 480, 513, 536, 559, 582, 645, 694, 737, 750, 763, 806, 865, 919, 942, 965], 132) := by decide +kernel
theorem dL_law_164 : decode cL_law 164 = .ok (.aload_n 1, 1) := by decide +kernel
theorem dL_law_165 : decode cL_law 165 = .ok (.aload_n 0, 1) := by decide +kernel
theorem dL_law_166 : decode cL_law 166 = .ok (.iload_n 3, 1) := by decide +kernel
theorem dL_law_167 : decode cL_law 167 = .ok (.iconst 1, 1) := by decide +kernel
theorem dL_law_168 : decode cL_law 168 = .ok (.iadd, 1) := by decide +kernel
theorem dL_law_169 : decode cL_law 169 = .ok (.iaload, 1) := by decide +kernel
theorem dL_law_170 : decode cL_law 170 = .ok (.invokevirtual 13, 3) := by decide +kernel
theorem dL_law_173 : decode cL_law 173 = .ok (.aload_n 2, 1) := by decide +kernel
theorem dL_law_174 : decode cL_law 174 = .ok (.aload_n 0, 1) := by decide +kernel
theorem dL_law_175 : decode cL_law 175 = .ok (.iload_n 3, 1) := by decide +kernel
theorem dL_law_176 : decode cL_law 176 = .ok (.iconst 1, 1) := by decide +kernel
theorem dL_law_177 : decode cL_law 177 = .ok (.iadd, 1) := by decide +kernel
theorem dL_law_178 : decode cL_law 178 = .ok (.iaload, 1) := by decide +kernel
theorem dL_law_179 : decode cL_law 179 = .ok (.invokevirtual 17, 3) := by decide +kernel
theorem dL_law_182 : decode cL_law 182 = .ok (.if_icmp .eq 838, 3) := by decide +kernel
theorem dL_law_185 : decode cL_law 185 = .ok (.iconst 0, 1) := by decide +kernel
theorem dL_law_186 : decode cL_law 186 = .ok (.ireturn, 1) := by decide +kernel
theorem dL_law_187 : decode cL_law 187 = .ok (.aload_n 1, 1) := by decide +kernel
theorem dL_law_188 : decode cL_law 188 = .ok (.invokevirtual 18, 3) := by decide +kernel
theorem dL_law_191 : decode cL_law 191 = .ok (.aload_n 2, 1) := by decide +kernel
theorem dL_law_192 : decode cL_law 192 = .ok (.invokevirtual 22, 3) := by decide +kernel
theorem dL_law_195 : decode cL_law 195 = .ok (.if_icmp .eq 825, 3) := by decide +kernel
theorem dL_law_198 : decode cL_law 198 = .ok (.iconst 0, 1) := by decide +kernel
theorem dL_law_199 : decode cL_law 199 = .ok (.ireturn, 1) := by decide +kernel
theorem dL_law_200 : decode cL_law 200 = .ok (.aload_n 1, 1) := by decide +kernel
theorem dL_law_201 : decode cL_law 201 = .ok (.invokevirtual 23, 3) := by decide +kernel
theorem dL_law_204 : decode cL_law 204 = .ok (.aload_n 2, 1) := by decide +kernel
theorem dL_law_205 : decode cL_law 205 = .ok (.invokevirtual 26, 3) := by decide +kernel
theorem dL_law_208 : decode cL_law 208 = .ok (.if_icmp .eq 812, 3) := by decide +kernel
theorem dL_law_211 : decode cL_law 211 = .ok (.iconst 0, 1) := by decide +kernel
theorem dL_law_212 : decode cL_law 212 = .ok (.ireturn, 1) := by decide +kernel
theorem dL_law_213 : decode cL_law 213 = .ok (.aload_n 1, 1) := by decide +kernel
theorem dL_law_214 : decode cL_law 214 = .ok (.invokevirtual 27, 3) := by decide +kernel
theorem dL_law_217 : decode cL_law 217 = .ok (.aload_n 2, 1) := by decide +kernel
theorem dL_law_218 : decode cL_law 218 = .ok (.invokevirtual 30, 3) := by decide +kernel
theorem dL_law_221 : decode cL_law 221 = .ok (.if_icmp .eq 799, 3) := by decide +kernel
theorem dL_law_224 : decode cL_law 224 = .ok (.iconst 0, 1) := by decide +kernel
theorem dL_law_225 : decode cL_law 225 = .ok (.ireturn, 1) := by decide +kernel
theorem dL_law_226 : decode cL_law 226 = .ok (.aload_n 1, 1) := by decide +kernel
theorem dL_law_227 : decode cL_law 227 = .ok (.aload_n 0, 1) := by decide +kernel
theorem dL_law_228 : decode cL_law 228 = .ok (.iload_n 3, 1) := by decide +kernel
theorem dL_law_229 : decode cL_law 229 = .ok (.iconst 1, 1) := by decide +kernel
theorem dL_law_230 : decode cL_law 230 = .ok (.iadd, 1) := by decide +kernel
theorem dL_law_231 : decode cL_law 231 = .ok (.iaload, 1) := by decide +kernel
theorem dL_law_232 : decode cL_law 232 = .ok (.invokevirtual 31, 3) := by decide +kernel
theorem dL_law_235 : decode cL_law 235 = .ok (.aload_n 2, 1) := by decide +kernel
theorem dL_law_236 : decode cL_law 236 = .ok (.aload_n 0, 1) := by decide +kernel
theorem dL_law_237 : decode cL_law 237 = .ok (.iload_n 3, 1) := by decide +kernel
theorem dL_law_238 : decode cL_law 238 = .ok (.iconst 1, 1) := by decide +kernel
theorem dL_law_239 : decode cL_law 239 = .ok (.iadd, 1) := by decide +kernel
theorem dL_law_240 : decode cL_law 240 = .ok (.iaload, 1) := by decide +kernel
theorem dL_law_241 : decode cL_law 241 = .ok (.invokevirtual 34, 3) := by decide +kernel
theorem dL_law_244 : decode cL_law 244 = .ok (.if_icmp .eq 776, 3) := by decide +kernel
theorem dL_law_247 : decode cL_law 247 = .ok (.iconst 0, 1) := by decide +kernel
theorem dL_law_248 : decode cL_law 248 = .ok (.ireturn, 1) := by decide +kernel
theorem dL_law_249 : decode cL_law 249 = .ok (.aload_n 1, 1) := by decide +kernel
theorem dL_law_250 : decode cL_law 250 = .ok (.aload_n 0, 1) := by decide +kernel
theorem dL_law_251 : decode cL_law 251 = .ok (.iload_n 3, 1) := by decide +kernel
theorem dL_law_252 : decode cL_law 252 = .ok (.iconst 1, 1) := by decide +kernel
theorem dL_law_253 : decode cL_law 253 = .ok (.iadd, 1) := by decide +kernel
theorem dL_law_254 : decode cL_law 254 = .ok (.iaload, 1) := by decide +kernel
theorem dL_law_255 : decode cL_law 255 = .ok (.invokevirtual 35, 3) := by decide +kernel
theorem dL_law_258 : decode cL_law 258 = .ok (.aload_n 2, 1) := by decide +kernel
theorem dL_law_259 : decode cL_law 259 = .ok (.aload_n 0, 1) := by decide +kernel
theorem dL_law_260 : decode cL_law 260 = .ok (.iload_n 3, 1) := by decide +kernel
theorem dL_law_261 : decode cL_law 261 = .ok (.iconst 1, 1) := by decide +kernel
theorem dL_law_262 : decode cL_law 262 = .ok (.iadd, 1) := by decide +kernel
theorem dL_law_263 : decode cL_law 263 = .ok (.iaload, 1) := by decide +kernel
theorem dL_law_264 : decode cL_law 264 = .ok (.invokevirtual 38, 3) := by decide +kernel
theorem dL_law_267 : decode cL_law 267 = .ok (.if_icmp .eq 753, 3) := by decide +kernel
theorem dL_law_270 : decode cL_law 270 = .ok (.iconst 0, 1) := by decide +kernel
theorem dL_law_271 : decode cL_law 271 = .ok (.ireturn, 1) := by decide +kernel
theorem dL_law_272 : decode cL_law 272 = .ok (.aload_n 1, 1) := by decide +kernel
theorem dL_law_273 : decode cL_law 273 = .ok (.aload_n 0, 1) := by decide +kernel
theorem dL_law_274 : decode cL_law 274 = .ok (.iload_n 3, 1) := by decide +kernel
theorem dL_law_275 : decode cL_law 275 = .ok (.iconst 1, 1) := by decide +kernel
theorem dL_law_276 : decode cL_law 276 = .ok (.iadd, 1) := by decide +kernel
theorem dL_law_277 : decode cL_law 277 = .ok (.iaload, 1) := by decide +kernel
theorem dL_law_278 : decode cL_law 278 = .ok (.aload_n 0, 1) := by decide +kernel
theorem dL_law_279 : decode cL_law 279 = .ok (.iload_n 3, 1) := by decide +kernel
theorem dL_law_280 : decode cL_law 280 = .ok (.iconst 2, 1) := by decide +kernel
theorem dL_law_281 : decode cL_law 281 = .ok (.iadd, 1) := by decide +kernel
theorem dL_law_282 : decode cL_law 282 = .ok (.iaload, 1) := by decide +kernel
theorem dL_law_283 : decode cL_law 283 = .ok (.aload_n 0, 1) := by decide +kernel
theorem dL_law_284 : decode cL_law 284 = .ok (.iload_n 3, 1) := by decide +kernel
theorem dL_law_285 : decode cL_law 285 = .ok (.iconst 3, 1) := by decide +kernel
theorem dL_law_286 : decode cL_law 286 = .ok (.iadd, 1) := by decide +kernel
theorem dL_law_287 : decode cL_law 287 = .ok (.iaload, 1) := by decide +kernel
theorem dL_law_288 : decode cL_law 288 = .ok (.ifCond .eq 7, 3) := by decide +kernel
theorem dL_law_291 : decode cL_law 291 = .ok (.iconst 1, 1) := by decide +kernel
theorem dL_law_292 : decode cL_law 292 = .ok (.goto 4, 3) := by decide +kernel
theorem dL_law_295 : decode cL_law 295 = .ok (.iconst 0, 1) := by decide +kernel
theorem dL_law_296 : decode cL_law 296 = .ok (.invokevirtual 39, 3) := by decide +kernel
theorem dL_law_299 : decode cL_law 299 = .ok (.aload_n 2, 1) := by decide +kernel
theorem dL_law_300 : decode cL_law 300 = .ok (.aload_n 0, 1) := by decide +kernel
theorem dL_law_301 : decode cL_law 301 = .ok (.iload_n 3, 1) := by decide +kernel
theorem dL_law_302 : decode cL_law 302 = .ok (.iconst 1, 1) := by decide +kernel
theorem dL_law_303 : decode cL_law 303 = .ok (.iadd, 1) := by decide +kernel
theorem dL_law_304 : decode cL_law 304 = .ok (.iaload, 1) := by decide +kernel
theorem dL_law_305 : decode cL_law 305 = .ok (.aload_n 0, 1) := by decide +kernel
theorem dL_law_306 : decode cL_law 306 = .ok (.iload_n 3, 1) := by decide +kernel
theorem dL_law_307 : decode cL_law 307 = .ok (.iconst 2, 1) := by decide +kernel
theorem dL_law_308 : decode cL_law 308 = .ok (.iadd, 1) := by decide +kernel
theorem dL_law_309 : decode cL_law 309 = .ok (.iaload, 1) := by decide +kernel
theorem dL_law_310 : decode cL_law 310 = .ok (.aload_n 0, 1) := by decide +kernel
theorem dL_law_311 : decode cL_law 311 = .ok (.iload_n 3, 1) := by decide +kernel
theorem dL_law_312 : decode cL_law 312 = .ok (.iconst 3, 1) := by decide +kernel
theorem dL_law_313 : decode cL_law 313 = .ok (.iadd, 1) := by decide +kernel
theorem dL_law_314 : decode cL_law 314 = .ok (.iaload, 1) := by decide +kernel
theorem dL_law_315 : decode cL_law 315 = .ok (.ifCond .eq 7, 3) := by decide +kernel
theorem dL_law_318 : decode cL_law 318 = .ok (.iconst 1, 1) := by decide +kernel
theorem dL_law_319 : decode cL_law 319 = .ok (.goto 4, 3) := by decide +kernel
theorem dL_law_322 : decode cL_law 322 = .ok (.iconst 0, 1) := by decide +kernel
theorem dL_law_323 : decode cL_law 323 = .ok (.invokevirtual 43, 3) := by decide +kernel
theorem dL_law_326 : decode cL_law 326 = .ok (.if_icmp .eq 694, 3) := by decide +kernel
theorem dL_law_329 : decode cL_law 329 = .ok (.iconst 0, 1) := by decide +kernel
theorem dL_law_330 : decode cL_law 330 = .ok (.ireturn, 1) := by decide +kernel
theorem dL_law_331 : decode cL_law 331 = .ok (.aload_n 1, 1) := by decide +kernel
theorem dL_law_332 : decode cL_law 332 = .ok (.aload_n 0, 1) := by decide +kernel
theorem dL_law_333 : decode cL_law 333 = .ok (.iload_n 3, 1) := by decide +kernel
theorem dL_law_334 : decode cL_law 334 = .ok (.iconst 1, 1) := by decide +kernel
theorem dL_law_335 : decode cL_law 335 = .ok (.iadd, 1) := by decide +kernel
theorem dL_law_336 : decode cL_law 336 = .ok (.iaload, 1) := by decide +kernel
theorem dL_law_337 : decode cL_law 337 = .ok (.aload_n 0, 1) := by decide +kernel
theorem dL_law_338 : decode cL_law 338 = .ok (.iload_n 3, 1) := by decide +kernel
theorem dL_law_339 : decode cL_law 339 = .ok (.iconst 2, 1) := by decide +kernel
theorem dL_law_340 : decode cL_law 340 = .ok (.iadd, 1) := by decide +kernel
theorem dL_law_341 : decode cL_law 341 = .ok (.iaload, 1) := by decide +kernel
theorem dL_law_342 : decode cL_law 342 = .ok (.invokevirtual 44, 3) := by decide +kernel
theorem dL_law_345 : decode cL_law 345 = .ok (.aload_n 2, 1) := by decide +kernel
theorem dL_law_346 : decode cL_law 346 = .ok (.aload_n 0, 1) := by decide +kernel
theorem dL_law_347 : decode cL_law 347 = .ok (.iload_n 3, 1) := by decide +kernel
theorem dL_law_348 : decode cL_law 348 = .ok (.iconst 1, 1) := by decide +kernel
theorem dL_law_349 : decode cL_law 349 = .ok (.iadd, 1) := by decide +kernel
theorem dL_law_350 : decode cL_law 350 = .ok (.iaload, 1) := by decide +kernel
theorem dL_law_351 : decode cL_law 351 = .ok (.aload_n 0, 1) := by decide +kernel
theorem dL_law_352 : decode cL_law 352 = .ok (.iload_n 3, 1) := by decide +kernel
theorem dL_law_353 : decode cL_law 353 = .ok (.iconst 2, 1) := by decide +kernel
theorem dL_law_354 : decode cL_law 354 = .ok (.iadd, 1) := by decide +kernel
theorem dL_law_355 : decode cL_law 355 = .ok (.iaload, 1) := by decide +kernel
theorem dL_law_356 : decode cL_law 356 = .ok (.invokevirtual 48, 3) := by decide +kernel
theorem dL_law_359 : decode cL_law 359 = .ok (.if_icmp .eq 661, 3) := by decide +kernel
theorem dL_law_362 : decode cL_law 362 = .ok (.iconst 0, 1) := by decide +kernel
theorem dL_law_363 : decode cL_law 363 = .ok (.ireturn, 1) := by decide +kernel
theorem dL_law_364 : decode cL_law 364 = .ok (.aload_n 1, 1) := by decide +kernel
theorem dL_law_365 : decode cL_law 365 = .ok (.aload_n 0, 1) := by decide +kernel
theorem dL_law_366 : decode cL_law 366 = .ok (.iload_n 3, 1) := by decide +kernel
theorem dL_law_367 : decode cL_law 367 = .ok (.iconst 1, 1) := by decide +kernel
theorem dL_law_368 : decode cL_law 368 = .ok (.iadd, 1) := by decide +kernel
theorem dL_law_369 : decode cL_law 369 = .ok (.iaload, 1) := by decide +kernel
theorem dL_law_370 : decode cL_law 370 = .ok (.aload_n 0, 1) := by decide +kernel
theorem dL_law_371 : decode cL_law 371 = .ok (.iload_n 3, 1) := by decide +kernel
theorem dL_law_372 : decode cL_law 372 = .ok (.iconst 2, 1) := by decide +kernel
theorem dL_law_373 : decode cL_law 373 = .ok (.iadd, 1) := by decide +kernel
theorem dL_law_374 : decode cL_law 374 = .ok (.iaload, 1) := by decide +kernel
theorem dL_law_375 : decode cL_law 375 = .ok (.invokevirtual 49, 3) := by decide +kernel
theorem dL_law_378 : decode cL_law 378 = .ok (.aload_n 2, 1) := by decide +kernel
theorem dL_law_379 : decode cL_law 379 = .ok (.aload_n 0, 1) := by decide +kernel
theorem dL_law_380 : decode cL_law 380 = .ok (.iload_n 3, 1) := by decide +kernel
theorem dL_law_381 : decode cL_law 381 = .ok (.iconst 1, 1) := by decide +kernel
theorem dL_law_382 : decode cL_law 382 = .ok (.iadd, 1) := by decide +kernel
theorem dL_law_383 : decode cL_law 383 = .ok (.iaload, 1) := by decide +kernel
theorem dL_law_384 : decode cL_law 384 = .ok (.aload_n 0, 1) := by decide +kernel
theorem dL_law_385 : decode cL_law 385 = .ok (.iload_n 3, 1) := by decide +kernel
theorem dL_law_386 : decode cL_law 386 = .ok (.iconst 2, 1) := by decide +kernel
theorem dL_law_387 : decode cL_law 387 = .ok (.iadd, 1) := by decide +kernel
theorem dL_law_388 : decode cL_law 388 = .ok (.iaload, 1) := by decide +kernel
theorem dL_law_389 : decode cL_law 389 = .ok (.invokevirtual 52, 3) := by decide +kernel
theorem dL_law_392 : decode cL_law 392 = .ok (.if_icmp .eq 628, 3) := by decide +kernel
theorem dL_law_395 : decode cL_law 395 = .ok (.iconst 0, 1) := by decide +kernel
theorem dL_law_396 : decode cL_law 396 = .ok (.ireturn, 1) := by decide +kernel
theorem dL_law_397 : decode cL_law 397 = .ok (.aload_n 1, 1) := by decide +kernel
theorem dL_law_398 : decode cL_law 398 = .ok (.aload_n 0, 1) := by decide +kernel
theorem dL_law_399 : decode cL_law 399 = .ok (.iload_n 3, 1) := by decide +kernel
theorem dL_law_400 : decode cL_law 400 = .ok (.iconst 1, 1) := by decide +kernel
theorem dL_law_401 : decode cL_law 401 = .ok (.iadd, 1) := by decide +kernel
theorem dL_law_402 : decode cL_law 402 = .ok (.iaload, 1) := by decide +kernel
theorem dL_law_403 : decode cL_law 403 = .ok (.invokevirtual 53, 3) := by decide +kernel
theorem dL_law_406 : decode cL_law 406 = .ok (.aload_n 2, 1) := by decide +kernel
theorem dL_law_407 : decode cL_law 407 = .ok (.aload_n 0, 1) := by decide +kernel
theorem dL_law_408 : decode cL_law 408 = .ok (.iload_n 3, 1) := by decide +kernel
theorem dL_law_409 : decode cL_law 409 = .ok (.iconst 1, 1) := by decide +kernel
theorem dL_law_410 : decode cL_law 410 = .ok (.iadd, 1) := by decide +kernel
theorem dL_law_411 : decode cL_law 411 = .ok (.iaload, 1) := by decide +kernel
theorem dL_law_412 : decode cL_law 412 = .ok (.invokevirtual 56, 3) := by decide +kernel
theorem dL_law_415 : decode cL_law 415 = .ok (.if_icmp .eq 605, 3) := by decide +kernel
theorem dL_law_418 : decode cL_law 418 = .ok (.iconst 0, 1) := by decide +kernel
theorem dL_law_419 : decode cL_law 419 = .ok (.ireturn, 1) := by decide +kernel
theorem dL_law_420 : decode cL_law 420 = .ok (.aload_n 1, 1) := by decide +kernel
theorem dL_law_421 : decode cL_law 421 = .ok (.aload_n 0, 1) := by decide +kernel
theorem dL_law_422 : decode cL_law 422 = .ok (.iload_n 3, 1) := by decide +kernel
theorem dL_law_423 : decode cL_law 423 = .ok (.iconst 1, 1) := by decide +kernel
theorem dL_law_424 : decode cL_law 424 = .ok (.iadd, 1) := by decide +kernel
theorem dL_law_425 : decode cL_law 425 = .ok (.iaload, 1) := by decide +kernel
theorem dL_law_426 : decode cL_law 426 = .ok (.invokevirtual 57, 3) := by decide +kernel
theorem dL_law_429 : decode cL_law 429 = .ok (.aload_n 2, 1) := by decide +kernel
theorem dL_law_430 : decode cL_law 430 = .ok (.aload_n 0, 1) := by decide +kernel
theorem dL_law_431 : decode cL_law 431 = .ok (.iload_n 3, 1) := by decide +kernel
theorem dL_law_432 : decode cL_law 432 = .ok (.iconst 1, 1) := by decide +kernel
theorem dL_law_433 : decode cL_law 433 = .ok (.iadd, 1) := by decide +kernel
theorem dL_law_434 : decode cL_law 434 = .ok (.iaload, 1) := by decide +kernel
theorem dL_law_435 : decode cL_law 435 = .ok (.invokevirtual 60, 3) := by decide +kernel
theorem dL_law_438 : decode cL_law 438 = .ok (.if_icmp .eq 582, 3) := by decide +kernel
theorem dL_law_441 : decode cL_law 441 = .ok (.iconst 0, 1) := by decide +kernel
theorem dL_law_442 : decode cL_law 442 = .ok (.ireturn, 1) := by decide +kernel
theorem dL_law_443 : decode cL_law 443 = .ok (.aload_n 1, 1) := by decide +kernel
theorem dL_law_444 : decode cL_law 444 = .ok (.invokevirtual 61, 3) := by decide +kernel
theorem dL_law_447 : decode cL_law 447 = .ok (.aload_n 2, 1) := by decide +kernel
theorem dL_law_448 : decode cL_law 448 = .ok (.invokevirtual 64, 3) := by decide +kernel
theorem dL_law_451 : decode cL_law 451 = .ok (.if_icmp .eq 569, 3) := by decide +kernel
theorem dL_law_454 : decode cL_law 454 = .ok (.iconst 0, 1) := by decide +kernel
theorem dL_law_455 : decode cL_law 455 = .ok (.ireturn, 1) := by decide +kernel
theorem dL_law_456 : decode cL_law 456 = .ok (.aload_n 1, 1) := by decide +kernel
theorem dL_law_457 : decode cL_law 457 = .ok (.aload_n 0, 1) := by decide +kernel
theorem dL_law_458 : decode cL_law 458 = .ok (.iload_n 3, 1) := by decide +kernel
theorem dL_law_459 : decode cL_law 459 = .ok (.iconst 1, 1) := by decide +kernel
theorem dL_law_460 : decode cL_law 460 = .ok (.iadd, 1) := by decide +kernel
theorem dL_law_461 : decode cL_law 461 = .ok (.iaload, 1) := by decide +kernel
theorem dL_law_462 : decode cL_law 462 = .ok (.invokevirtual 65, 3) := by decide +kernel
theorem dL_law_465 : decode cL_law 465 = .ok (.aload_n 2, 1) := by decide +kernel
theorem dL_law_466 : decode cL_law 466 = .ok (.aload_n 0, 1) := by decide +kernel
theorem dL_law_467 : decode cL_law 467 = .ok (.iload_n 3, 1) := by decide +kernel
theorem dL_law_468 : decode cL_law 468 = .ok (.iconst 1, 1) := by decide +kernel
theorem dL_law_469 : decode cL_law 469 = .ok (.iadd, 1) := by decide +kernel
theorem dL_law_470 : decode cL_law 470 = .ok (.iaload, 1) := by decide +kernel
theorem dL_law_471 : decode cL_law 471 = .ok (.invokevirtual 68, 3) := by decide +kernel
theorem dL_law_474 : decode cL_law 474 = .ok (.if_icmp .eq 546, 3) := by decide +kernel
theorem dL_law_477 : decode cL_law 477 = .ok (.iconst 0, 1) := by decide +kernel
theorem dL_law_478 : decode cL_law 478 = .ok (.ireturn, 1) := by decide +kernel
theorem dL_law_479 : decode cL_law 479 = .ok (.aload_n 1, 1) := by decide +kernel
theorem dL_law_480 : decode cL_law 480 = .ok (.aload_n 0, 1) := by decide +kernel
theorem dL_law_481 : decode cL_law 481 = .ok (.iload_n 3, 1) := by decide +kernel
theorem dL_law_482 : decode cL_law 482 = .ok (.iconst 1, 1) := by decide +kernel
theorem dL_law_483 : decode cL_law 483 = .ok (.iadd, 1) := by decide +kernel
theorem dL_law_484 : decode cL_law 484 = .ok (.iaload, 1) := by decide +kernel
theorem dL_law_485 : decode cL_law 485 = .ok (.aload_n 0, 1) := by decide +kernel
theorem dL_law_486 : decode cL_law 486 = .ok (.iload_n 3, 1) := by decide +kernel
theorem dL_law_487 : decode cL_law 487 = .ok (.iconst 2, 1) := by decide +kernel
theorem dL_law_488 : decode cL_law 488 = .ok (.iadd, 1) := by decide +kernel
theorem dL_law_489 : decode cL_law 489 = .ok (.iaload, 1) := by decide +kernel
theorem dL_law_490 : decode cL_law 490 = .ok (.invokevirtual 69, 3) := by decide +kernel
theorem dL_law_493 : decode cL_law 493 = .ok (.aload_n 2, 1) := by decide +kernel
theorem dL_law_494 : decode cL_law 494 = .ok (.aload_n 0, 1) := by decide +kernel
theorem dL_law_495 : decode cL_law 495 = .ok (.iload_n 3, 1) := by decide +kernel
theorem dL_law_496 : decode cL_law 496 = .ok (.iconst 1, 1) := by decide +kernel
theorem dL_law_497 : decode cL_law 497 = .ok (.iadd, 1) := by decide +kernel
theorem dL_law_498 : decode cL_law 498 = .ok (.iaload, 1) := by decide +kernel
theorem dL_law_499 : decode cL_law 499 = .ok (.aload_n 0, 1) := by decide +kernel
theorem dL_law_500 : decode cL_law 500 = .ok (.iload_n 3, 1) := by decide +kernel
theorem dL_law_501 : decode cL_law 501 = .ok (.iconst 2, 1) := by decide +kernel
theorem dL_law_502 : decode cL_law 502 = .ok (.iadd, 1) := by decide +kernel
theorem dL_law_503 : decode cL_law 503 = .ok (.iaload, 1) := by decide +kernel
theorem dL_law_504 : decode cL_law 504 = .ok (.invokevirtual 72, 3) := by decide +kernel
theorem dL_law_507 : decode cL_law 507 = .ok (.if_icmp .eq 513, 3) := by decide +kernel
theorem dL_law_510 : decode cL_law 510 = .ok (.iconst 0, 1) := by decide +kernel
theorem dL_law_511 : decode cL_law 511 = .ok (.ireturn, 1) := by decide +kernel
theorem dL_law_512 : decode cL_law 512 = .ok (.aload_n 1, 1) := by decide +kernel
theorem dL_law_513 : decode cL_law 513 = .ok (.aload_n 0, 1) := by decide +kernel
theorem dL_law_514 : decode cL_law 514 = .ok (.iload_n 3, 1) := by decide +kernel
theorem dL_law_515 : decode cL_law 515 = .ok (.iconst 1, 1) := by decide +kernel
theorem dL_law_516 : decode cL_law 516 = .ok (.iadd, 1) := by decide +kernel
theorem dL_law_517 : decode cL_law 517 = .ok (.iaload, 1) := by decide +kernel
theorem dL_law_518 : decode cL_law 518 = .ok (.aload_n 0, 1) := by decide +kernel
theorem dL_law_519 : decode cL_law 519 = .ok (.iload_n 3, 1) := by decide +kernel
theorem dL_law_520 : decode cL_law 520 = .ok (.iconst 2, 1) := by decide +kernel
theorem dL_law_521 : decode cL_law 521 = .ok (.iadd, 1) := by decide +kernel
theorem dL_law_522 : decode cL_law 522 = .ok (.iaload, 1) := by decide +kernel
theorem dL_law_523 : decode cL_law 523 = .ok (.invokevirtual 73, 3) := by decide +kernel
theorem dL_law_526 : decode cL_law 526 = .ok (.aload_n 2, 1) := by decide +kernel
theorem dL_law_527 : decode cL_law 527 = .ok (.aload_n 0, 1) := by decide +kernel
theorem dL_law_528 : decode cL_law 528 = .ok (.iload_n 3, 1) := by decide +kernel
theorem dL_law_529 : decode cL_law 529 = .ok (.iconst 1, 1) := by decide +kernel
theorem dL_law_530 : decode cL_law 530 = .ok (.iadd, 1) := by decide +kernel
theorem dL_law_531 : decode cL_law 531 = .ok (.iaload, 1) := by decide +kernel
theorem dL_law_532 : decode cL_law 532 = .ok (.aload_n 0, 1) := by decide +kernel
theorem dL_law_533 : decode cL_law 533 = .ok (.iload_n 3, 1) := by decide +kernel
theorem dL_law_534 : decode cL_law 534 = .ok (.iconst 2, 1) := by decide +kernel
theorem dL_law_535 : decode cL_law 535 = .ok (.iadd, 1) := by decide +kernel
theorem dL_law_536 : decode cL_law 536 = .ok (.iaload, 1) := by decide +kernel
theorem dL_law_537 : decode cL_law 537 = .ok (.invokevirtual 76, 3) := by decide +kernel
theorem dL_law_540 : decode cL_law 540 = .ok (.if_icmp .eq 480, 3) := by decide +kernel
theorem dL_law_543 : decode cL_law 543 = .ok (.iconst 0, 1) := by decide +kernel
theorem dL_law_544 : decode cL_law 544 = .ok (.ireturn, 1) := by decide +kernel
theorem dL_law_545 : decode cL_law 545 = .ok (.aload_n 1, 1) := by decide +kernel
theorem dL_law_546 : decode cL_law 546 = .ok (.aload_n 0, 1) := by decide +kernel
theorem dL_law_547 : decode cL_law 547 = .ok (.iload_n 3, 1) := by decide +kernel
theorem dL_law_548 : decode cL_law 548 = .ok (.iconst 1, 1) := by decide +kernel
theorem dL_law_549 : decode cL_law 549 = .ok (.iadd, 1) := by decide +kernel
theorem dL_law_550 : decode cL_law 550 = .ok (.iaload, 1) := by decide +kernel
theorem dL_law_551 : decode cL_law 551 = .ok (.invokevirtual 77, 3) := by decide +kernel
theorem dL_law_554 : decode cL_law 554 = .ok (.aload_n 2, 1) := by decide +kernel
theorem dL_law_555 : decode cL_law 555 = .ok (.aload_n 0, 1) := by decide +kernel
theorem dL_law_556 : decode cL_law 556 = .ok (.iload_n 3, 1) := by decide +kernel
theorem dL_law_557 : decode cL_law 557 = .ok (.iconst 1, 1) := by decide +kernel
theorem dL_law_558 : decode cL_law 558 = .ok (.iadd, 1) := by decide +kernel
theorem dL_law_559 : decode cL_law 559 = .ok (.iaload, 1) := by decide +kernel
theorem dL_law_560 : decode cL_law 560 = .ok (.invokevirtual 80, 3) := by decide +kernel
theorem dL_law_563 : decode cL_law 563 = .ok (.if_icmp .eq 457, 3) := by decide +kernel
theorem dL_law_566 : decode cL_law 566 = .ok (.iconst 0, 1) := by decide +kernel
theorem dL_law_567 : decode cL_law 567 = .ok (.ireturn, 1) := by decide +kernel
theorem dL_law_568 : decode cL_law 568 = .ok (.aload_n 1, 1) := by decide +kernel
theorem dL_law_569 : decode cL_law 569 = .ok (.aload_n 0, 1) := by decide +kernel
theorem dL_law_570 : decode cL_law 570 = .ok (.iload_n 3, 1) := by decide +kernel
theorem dL_law_571 : decode cL_law 571 = .ok (.iconst 1, 1) := by decide +kernel
theorem dL_law_572 : decode cL_law 572 = .ok (.iadd, 1) := by decide +kernel
theorem dL_law_573 : decode cL_law 573 = .ok (.iaload, 1) := by decide +kernel
theorem dL_law_574 : decode cL_law 574 = .ok (.invokevirtual 81, 3) := by decide +kernel
theorem dL_law_577 : decode cL_law 577 = .ok (.aload_n 2, 1) := by decide +kernel
theorem dL_law_578 : decode cL_law 578 = .ok (.aload_n 0, 1) := by decide +kernel
theorem dL_law_579 : decode cL_law 579 = .ok (.iload_n 3, 1) := by decide +kernel
theorem dL_law_580 : decode cL_law 580 = .ok (.iconst 1, 1) := by decide +kernel
theorem dL_law_581 : decode cL_law 581 = .ok (.iadd, 1) := by decide +kernel
theorem dL_law_582 : decode cL_law 582 = .ok (.iaload, 1) := by decide +kernel
theorem dL_law_583 : decode cL_law 583 = .ok (.invokevirtual 84, 3) := by decide +kernel
theorem dL_law_586 : decode cL_law 586 = .ok (.if_icmp .eq 434, 3) := by decide +kernel
theorem dL_law_589 : decode cL_law 589 = .ok (.iconst 0, 1) := by decide +kernel
theorem dL_law_590 : decode cL_law 590 = .ok (.ireturn, 1) := by decide +kernel
theorem dL_law_591 : decode cL_law 591 = .ok (.aload_n 1, 1) := by decide +kernel
theorem dL_law_592 : decode cL_law 592 = .ok (.aload_n 0, 1) := by decide +kernel
theorem dL_law_593 : decode cL_law 593 = .ok (.iload_n 3, 1) := by decide +kernel
theorem dL_law_594 : decode cL_law 594 = .ok (.iconst 1, 1) := by decide +kernel
theorem dL_law_595 : decode cL_law 595 = .ok (.iadd, 1) := by decide +kernel
theorem dL_law_596 : decode cL_law 596 = .ok (.iaload, 1) := by decide +kernel
theorem dL_law_597 : decode cL_law 597 = .ok (.invokevirtual 85, 3) := by decide +kernel
theorem dL_law_600 : decode cL_law 600 = .ok (.aload_n 2, 1) := by decide +kernel
theorem dL_law_601 : decode cL_law 601 = .ok (.aload_n 0, 1) := by decide +kernel
theorem dL_law_602 : decode cL_law 602 = .ok (.iload_n 3, 1) := by decide +kernel
theorem dL_law_603 : decode cL_law 603 = .ok (.iconst 1, 1) := by decide +kernel
theorem dL_law_604 : decode cL_law 604 = .ok (.iadd, 1) := by decide +kernel
theorem dL_law_605 : decode cL_law 605 = .ok (.iaload, 1) := by decide +kernel
theorem dL_law_606 : decode cL_law 606 = .ok (.invokevirtual 88, 3) := by decide +kernel
theorem dL_law_609 : decode cL_law 609 = .ok (.if_icmp .eq 411, 3) := by decide +kernel
theorem dL_law_612 : decode cL_law 612 = .ok (.iconst 0, 1) := by decide +kernel
theorem dL_law_613 : decode cL_law 613 = .ok (.ireturn, 1) := by decide +kernel
theorem dL_law_614 : decode cL_law 614 = .ok (.aload_n 1, 1) := by decide +kernel
theorem dL_law_615 : decode cL_law 615 = .ok (.aload_n 0, 1) := by decide +kernel
theorem dL_law_616 : decode cL_law 616 = .ok (.iload_n 3, 1) := by decide +kernel
theorem dL_law_617 : decode cL_law 617 = .ok (.iconst 1, 1) := by decide +kernel
theorem dL_law_618 : decode cL_law 618 = .ok (.iadd, 1) := by decide +kernel
theorem dL_law_619 : decode cL_law 619 = .ok (.iaload, 1) := by decide +kernel
theorem dL_law_620 : decode cL_law 620 = .ok (.aload_n 0, 1) := by decide +kernel
theorem dL_law_621 : decode cL_law 621 = .ok (.iload_n 3, 1) := by decide +kernel
theorem dL_law_622 : decode cL_law 622 = .ok (.iconst 2, 1) := by decide +kernel
theorem dL_law_623 : decode cL_law 623 = .ok (.iadd, 1) := by decide +kernel
theorem dL_law_624 : decode cL_law 624 = .ok (.iaload, 1) := by decide +kernel
theorem dL_law_625 : decode cL_law 625 = .ok (.i2l, 1) := by decide +kernel
theorem dL_law_626 : decode cL_law 626 = .ok (.bipush 32, 2) := by decide +kernel
theorem dL_law_628 : decode cL_law 628 = .ok (.lshl, 1) := by decide +kernel
theorem dL_law_629 : decode cL_law 629 = .ok (.aload_n 0, 1) := by decide +kernel
theorem dL_law_630 : decode cL_law 630 = .ok (.iload_n 3, 1) := by decide +kernel
theorem dL_law_631 : decode cL_law 631 = .ok (.iconst 3, 1) := by decide +kernel
theorem dL_law_632 : decode cL_law 632 = .ok (.iadd, 1) := by decide +kernel
theorem dL_law_633 : decode cL_law 633 = .ok (.iaload, 1) := by decide +kernel
theorem dL_law_634 : decode cL_law 634 = .ok (.i2l, 1) := by decide +kernel
theorem dL_law_635 : decode cL_law 635 = .ok (.ldc2_w 89, 3) := by decide +kernel
theorem dL_law_638 : decode cL_law 638 = .ok (.land, 1) := by decide +kernel
theorem dL_law_639 : decode cL_law 639 = .ok (.lor, 1) := by decide +kernel
theorem dL_law_640 : decode cL_law 640 = .ok (.invokevirtual 91, 3) := by decide +kernel
theorem dL_law_643 : decode cL_law 643 = .ok (.aload_n 2, 1) := by decide +kernel
theorem dL_law_644 : decode cL_law 644 = .ok (.aload_n 0, 1) := by decide +kernel
theorem dL_law_645 : decode cL_law 645 = .ok (.iload_n 3, 1) := by decide +kernel
theorem dL_law_646 : decode cL_law 646 = .ok (.iconst 1, 1) := by decide +kernel
theorem dL_law_647 : decode cL_law 647 = .ok (.iadd, 1) := by decide +kernel
theorem dL_law_648 : decode cL_law 648 = .ok (.iaload, 1) := by decide +kernel
theorem dL_law_649 : decode cL_law 649 = .ok (.aload_n 0, 1) := by decide +kernel
theorem dL_law_650 : decode cL_law 650 = .ok (.iload_n 3, 1) := by decide +kernel
theorem dL_law_651 : decode cL_law 651 = .ok (.iconst 2, 1) := by decide +kernel
theorem dL_law_652 : decode cL_law 652 = .ok (.iadd, 1) := by decide +kernel
theorem dL_law_653 : decode cL_law 653 = .ok (.iaload, 1) := by decide +kernel
theorem dL_law_654 : decode cL_law 654 = .ok (.i2l, 1) := by decide +kernel
theorem dL_law_655 : decode cL_law 655 = .ok (.bipush 32, 2) := by decide +kernel
theorem dL_law_657 : decode cL_law 657 = .ok (.lshl, 1) := by decide +kernel
theorem dL_law_658 : decode cL_law 658 = .ok (.aload_n 0, 1) := by decide +kernel
theorem dL_law_659 : decode cL_law 659 = .ok (.iload_n 3, 1) := by decide +kernel
theorem dL_law_660 : decode cL_law 660 = .ok (.iconst 3, 1) := by decide +kernel
theorem dL_law_661 : decode cL_law 661 = .ok (.iadd, 1) := by decide +kernel
theorem dL_law_662 : decode cL_law 662 = .ok (.iaload, 1) := by decide +kernel
theorem dL_law_663 : decode cL_law 663 = .ok (.i2l, 1) := by decide +kernel
theorem dL_law_664 : decode cL_law 664 = .ok (.ldc2_w 89, 3) := by decide +kernel
theorem dL_law_667 : decode cL_law 667 = .ok (.land, 1) := by decide +kernel
theorem dL_law_668 : decode cL_law 668 = .ok (.lor, 1) := by decide +kernel
theorem dL_law_669 : decode cL_law 669 = .ok (.invokevirtual 95, 3) := by decide +kernel
theorem dL_law_672 : decode cL_law 672 = .ok (.if_icmp .eq 348, 3) := by decide +kernel
theorem dL_law_675 : decode cL_law 675 = .ok (.iconst 0, 1) := by decide +kernel
theorem dL_law_676 : decode cL_law 676 = .ok (.ireturn, 1) := by decide +kernel
theorem dL_law_677 : decode cL_law 677 = .ok (.aload_n 1, 1) := by decide +kernel
theorem dL_law_678 : decode cL_law 678 = .ok (.aload_n 0, 1) := by decide +kernel
theorem dL_law_679 : decode cL_law 679 = .ok (.iload_n 3, 1) := by decide +kernel
theorem dL_law_680 : decode cL_law 680 = .ok (.iconst 1, 1) := by decide +kernel
theorem dL_law_681 : decode cL_law 681 = .ok (.iadd, 1) := by decide +kernel
theorem dL_law_682 : decode cL_law 682 = .ok (.iaload, 1) := by decide +kernel
theorem dL_law_683 : decode cL_law 683 = .ok (.aload_n 0, 1) := by decide +kernel
theorem dL_law_684 : decode cL_law 684 = .ok (.iload_n 3, 1) := by decide +kernel
theorem dL_law_685 : decode cL_law 685 = .ok (.iconst 2, 1) := by decide +kernel
theorem dL_law_686 : decode cL_law 686 = .ok (.iadd, 1) := by decide +kernel
theorem dL_law_687 : decode cL_law 687 = .ok (.iaload, 1) := by decide +kernel
theorem dL_law_688 : decode cL_law 688 = .ok (.ifCond .eq 7, 3) := by decide +kernel
theorem dL_law_691 : decode cL_law 691 = .ok (.iconst 1, 1) := by decide +kernel
theorem dL_law_692 : decode cL_law 692 = .ok (.goto 4, 3) := by decide +kernel
theorem dL_law_695 : decode cL_law 695 = .ok (.iconst 0, 1) := by decide +kernel
theorem dL_law_696 : decode cL_law 696 = .ok (.invokevirtual 96, 3) := by decide +kernel
theorem dL_law_699 : decode cL_law 699 = .ok (.aload_n 2, 1) := by decide +kernel
theorem dL_law_700 : decode cL_law 700 = .ok (.aload_n 0, 1) := by decide +kernel
theorem dL_law_701 : decode cL_law 701 = .ok (.iload_n 3, 1) := by decide +kernel
theorem dL_law_702 : decode cL_law 702 = .ok (.iconst 1, 1) := by decide +kernel
theorem dL_law_703 : decode cL_law 703 = .ok (.iadd, 1) := by decide +kernel
theorem dL_law_704 : decode cL_law 704 = .ok (.iaload, 1) := by decide +kernel
theorem dL_law_705 : decode cL_law 705 = .ok (.aload_n 0, 1) := by decide +kernel
theorem dL_law_706 : decode cL_law 706 = .ok (.iload_n 3, 1) := by decide +kernel
theorem dL_law_707 : decode cL_law 707 = .ok (.iconst 2, 1) := by decide +kernel
theorem dL_law_708 : decode cL_law 708 = .ok (.iadd, 1) := by decide +kernel
theorem dL_law_709 : decode cL_law 709 = .ok (.iaload, 1) := by decide +kernel
theorem dL_law_710 : decode cL_law 710 = .ok (.ifCond .eq 7, 3) := by decide +kernel
theorem dL_law_713 : decode cL_law 713 = .ok (.iconst 1, 1) := by decide +kernel
theorem dL_law_714 : decode cL_law 714 = .ok (.goto 4, 3) := by decide +kernel
theorem dL_law_717 : decode cL_law 717 = .ok (.iconst 0, 1) := by decide +kernel
theorem dL_law_718 : decode cL_law 718 = .ok (.invokevirtual 100, 3) := by decide +kernel
theorem dL_law_721 : decode cL_law 721 = .ok (.if_icmp .eq 299, 3) := by decide +kernel
theorem dL_law_724 : decode cL_law 724 = .ok (.iconst 0, 1) := by decide +kernel
theorem dL_law_725 : decode cL_law 725 = .ok (.ireturn, 1) := by decide +kernel
theorem dL_law_726 : decode cL_law 726 = .ok (.aload_n 1, 1) := by decide +kernel
theorem dL_law_727 : decode cL_law 727 = .ok (.aload_n 0, 1) := by decide +kernel
theorem dL_law_728 : decode cL_law 728 = .ok (.iload_n 3, 1) := by decide +kernel
theorem dL_law_729 : decode cL_law 729 = .ok (.iconst 1, 1) := by decide +kernel
theorem dL_law_730 : decode cL_law 730 = .ok (.iadd, 1) := by decide +kernel
theorem dL_law_731 : decode cL_law 731 = .ok (.iaload, 1) := by decide +kernel
theorem dL_law_732 : decode cL_law 732 = .ok (.aload_n 0, 1) := by decide +kernel
theorem dL_law_733 : decode cL_law 733 = .ok (.iload_n 3, 1) := by decide +kernel
theorem dL_law_734 : decode cL_law 734 = .ok (.iconst 2, 1) := by decide +kernel
theorem dL_law_735 : decode cL_law 735 = .ok (.iadd, 1) := by decide +kernel
theorem dL_law_736 : decode cL_law 736 = .ok (.iaload, 1) := by decide +kernel
theorem dL_law_737 : decode cL_law 737 = .ok (.aload_n 0, 1) := by decide +kernel
theorem dL_law_738 : decode cL_law 738 = .ok (.iload_n 3, 1) := by decide +kernel
theorem dL_law_739 : decode cL_law 739 = .ok (.iconst 3, 1) := by decide +kernel
theorem dL_law_740 : decode cL_law 740 = .ok (.iadd, 1) := by decide +kernel
theorem dL_law_741 : decode cL_law 741 = .ok (.iaload, 1) := by decide +kernel
theorem dL_law_742 : decode cL_law 742 = .ok (.invokevirtual 101, 3) := by decide +kernel
theorem dL_law_745 : decode cL_law 745 = .ok (.aload_n 2, 1) := by decide +kernel
theorem dL_law_746 : decode cL_law 746 = .ok (.aload_n 0, 1) := by decide +kernel
theorem dL_law_747 : decode cL_law 747 = .ok (.iload_n 3, 1) := by decide +kernel
theorem dL_law_748 : decode cL_law 748 = .ok (.iconst 1, 1) := by decide +kernel
theorem dL_law_749 : decode cL_law 749 = .ok (.iadd, 1) := by decide +kernel
theorem dL_law_750 : decode cL_law 750 = .ok (.iaload, 1) := by decide +kernel
theorem dL_law_751 : decode cL_law 751 = .ok (.aload_n 0, 1) := by decide +kernel
theorem dL_law_752 : decode cL_law 752 = .ok (.iload_n 3, 1) := by decide +kernel
theorem dL_law_753 : decode cL_law 753 = .ok (.iconst 2, 1) := by decide +kernel
theorem dL_law_754 : decode cL_law 754 = .ok (.iadd, 1) := by decide +kernel
theorem dL_law_755 : decode cL_law 755 = .ok (.iaload, 1) := by decide +kernel
theorem dL_law_756 : decode cL_law 756 = .ok (.aload_n 0, 1) := by decide +kernel
theorem dL_law_757 : decode cL_law 757 = .ok (.iload_n 3, 1) := by decide +kernel
theorem dL_law_758 : decode cL_law 758 = .ok (.iconst 3, 1) := by decide +kernel
theorem dL_law_759 : decode cL_law 759 = .ok (.iadd, 1) := by decide +kernel
theorem dL_law_760 : decode cL_law 760 = .ok (.iaload, 1) := by decide +kernel
theorem dL_law_761 : decode cL_law 761 = .ok (.invokevirtual 105, 3) := by decide +kernel
theorem dL_law_764 : decode cL_law 764 = .ok (.if_icmp .eq 256, 3) := by decide +kernel
theorem dL_law_767 : decode cL_law 767 = .ok (.iconst 0, 1) := by decide +kernel
theorem dL_law_768 : decode cL_law 768 = .ok (.ireturn, 1) := by decide +kernel
theorem dL_law_769 : decode cL_law 769 = .ok (.aload_n 1, 1) := by decide +kernel
theorem dL_law_770 : decode cL_law 770 = .ok (.invokevirtual 106, 3) := by decide +kernel
theorem dL_law_773 : decode cL_law 773 = .ok (.aload_n 2, 1) := by decide +kernel
theorem dL_law_774 : decode cL_law 774 = .ok (.invokevirtual 109, 3) := by decide +kernel
theorem dL_law_777 : decode cL_law 777 = .ok (.if_icmp .eq 243, 3) := by decide +kernel
theorem dL_law_780 : decode cL_law 780 = .ok (.iconst 0, 1) := by decide +kernel
theorem dL_law_781 : decode cL_law 781 = .ok (.ireturn, 1) := by decide +kernel
theorem dL_law_782 : decode cL_law 782 = .ok (.aload_n 1, 1) := by decide +kernel
theorem dL_law_783 : decode cL_law 783 = .ok (.invokevirtual 110, 3) := by decide +kernel
theorem dL_law_786 : decode cL_law 786 = .ok (.aload_n 2, 1) := by decide +kernel
theorem dL_law_787 : decode cL_law 787 = .ok (.invokevirtual 113, 3) := by decide +kernel
theorem dL_law_790 : decode cL_law 790 = .ok (.if_icmp .eq 230, 3) := by decide +kernel
theorem dL_law_793 : decode cL_law 793 = .ok (.iconst 0, 1) := by decide +kernel
theorem dL_law_794 : decode cL_law 794 = .ok (.ireturn, 1) := by decide +kernel
theorem dL_law_795 : decode cL_law 795 = .ok (.aload_n 1, 1) := by decide +kernel
theorem dL_law_796 : decode cL_law 796 = .ok (.aload_n 0, 1) := by decide +kernel
theorem dL_law_797 : decode cL_law 797 = .ok (.iload_n 3, 1) := by decide +kernel
theorem dL_law_798 : decode cL_law 798 = .ok (.iconst 1, 1) := by decide +kernel
theorem dL_law_799 : decode cL_law 799 = .ok (.iadd, 1) := by decide +kernel
theorem dL_law_800 : decode cL_law 800 = .ok (.iaload, 1) := by decide +kernel
theorem dL_law_801 : decode cL_law 801 = .ok (.aload_n 0, 1) := by decide +kernel
theorem dL_law_802 : decode cL_law 802 = .ok (.iload_n 3, 1) := by decide +kernel
theorem dL_law_803 : decode cL_law 803 = .ok (.iconst 2, 1) := by decide +kernel
theorem dL_law_804 : decode cL_law 804 = .ok (.iadd, 1) := by decide +kernel
theorem dL_law_805 : decode cL_law 805 = .ok (.iaload, 1) := by decide +kernel
theorem dL_law_806 : decode cL_law 806 = .ok (.aload_n 0, 1) := by decide +kernel
theorem dL_law_807 : decode cL_law 807 = .ok (.iload_n 3, 1) := by decide +kernel
theorem dL_law_808 : decode cL_law 808 = .ok (.iconst 3, 1) := by decide +kernel
theorem dL_law_809 : decode cL_law 809 = .ok (.iadd, 1) := by decide +kernel
theorem dL_law_810 : decode cL_law 810 = .ok (.iaload, 1) := by decide +kernel
theorem dL_law_811 : decode cL_law 811 = .ok (.invokevirtual 114, 3) := by decide +kernel
theorem dL_law_814 : decode cL_law 814 = .ok (.aload_n 2, 1) := by decide +kernel
theorem dL_law_815 : decode cL_law 815 = .ok (.aload_n 0, 1) := by decide +kernel
theorem dL_law_816 : decode cL_law 816 = .ok (.iload_n 3, 1) := by decide +kernel
theorem dL_law_817 : decode cL_law 817 = .ok (.iconst 1, 1) := by decide +kernel
theorem dL_law_818 : decode cL_law 818 = .ok (.iadd, 1) := by decide +kernel
theorem dL_law_819 : decode cL_law 819 = .ok (.iaload, 1) := by decide +kernel
theorem dL_law_820 : decode cL_law 820 = .ok (.aload_n 0, 1) := by decide +kernel
theorem dL_law_821 : decode cL_law 821 = .ok (.iload_n 3, 1) := by decide +kernel
theorem dL_law_822 : decode cL_law 822 = .ok (.iconst 2, 1) := by decide +kernel
theorem dL_law_823 : decode cL_law 823 = .ok (.iadd, 1) := by decide +kernel
theorem dL_law_824 : decode cL_law 824 = .ok (.iaload, 1) := by decide +kernel
theorem dL_law_825 : decode cL_law 825 = .ok (.aload_n 0, 1) := by decide +kernel
theorem dL_law_826 : decode cL_law 826 = .ok (.iload_n 3, 1) := by decide +kernel
theorem dL_law_827 : decode cL_law 827 = .ok (.iconst 3, 1) := by decide +kernel
theorem dL_law_828 : decode cL_law 828 = .ok (.iadd, 1) := by decide +kernel
theorem dL_law_829 : decode cL_law 829 = .ok (.iaload, 1) := by decide +kernel
theorem dL_law_830 : decode cL_law 830 = .ok (.invokevirtual 117, 3) := by decide +kernel
theorem dL_law_833 : decode cL_law 833 = .ok (.if_icmp .eq 187, 3) := by decide +kernel
theorem dL_law_836 : decode cL_law 836 = .ok (.iconst 0, 1) := by decide +kernel
theorem dL_law_837 : decode cL_law 837 = .ok (.ireturn, 1) := by decide +kernel
theorem dL_law_838 : decode cL_law 838 = .ok (.aload_n 1, 1) := by decide +kernel
theorem dL_law_839 : decode cL_law 839 = .ok (.aload_n 0, 1) := by decide +kernel
theorem dL_law_840 : decode cL_law 840 = .ok (.iload_n 3, 1) := by decide +kernel
theorem dL_law_841 : decode cL_law 841 = .ok (.iconst 1, 1) := by decide +kernel
theorem dL_law_842 : decode cL_law 842 = .ok (.iadd, 1) := by decide +kernel
theorem dL_law_843 : decode cL_law 843 = .ok (.iaload, 1) := by decide +kernel
theorem dL_law_844 : decode cL_law 844 = .ok (.aload_n 0, 1) := by decide +kernel
theorem dL_law_845 : decode cL_law 845 = .ok (.iload_n 3, 1) := by decide +kernel
theorem dL_law_846 : decode cL_law 846 = .ok (.iconst 2, 1) := by decide +kernel
theorem dL_law_847 : decode cL_law 847 = .ok (.iadd, 1) := by decide +kernel
theorem dL_law_848 : decode cL_law 848 = .ok (.iaload, 1) := by decide +kernel
theorem dL_law_849 : decode cL_law 849 = .ok (.aload_n 0, 1) := by decide +kernel
theorem dL_law_850 : decode cL_law 850 = .ok (.iload_n 3, 1) := by decide +kernel
theorem dL_law_851 : decode cL_law 851 = .ok (.iconst 3, 1) := by decide +kernel
theorem dL_law_852 : decode cL_law 852 = .ok (.iadd, 1) := by decide +kernel
theorem dL_law_853 : decode cL_law 853 = .ok (.iaload, 1) := by decide +kernel
theorem dL_law_854 : decode cL_law 854 = .ok (.ifCond .eq 7, 3) := by decide +kernel
theorem dL_law_857 : decode cL_law 857 = .ok (.iconst 1, 1) := by decide +kernel
theorem dL_law_858 : decode cL_law 858 = .ok (.goto 4, 3) := by decide +kernel
theorem dL_law_861 : decode cL_law 861 = .ok (.iconst 0, 1) := by decide +kernel
theorem dL_law_862 : decode cL_law 862 = .ok (.invokevirtual 118, 3) := by decide +kernel
theorem dL_law_865 : decode cL_law 865 = .ok (.aload_n 2, 1) := by decide +kernel
theorem dL_law_866 : decode cL_law 866 = .ok (.aload_n 0, 1) := by decide +kernel
theorem dL_law_867 : decode cL_law 867 = .ok (.iload_n 3, 1) := by decide +kernel
theorem dL_law_868 : decode cL_law 868 = .ok (.iconst 1, 1) := by decide +kernel
theorem dL_law_869 : decode cL_law 869 = .ok (.iadd, 1) := by decide +kernel
theorem dL_law_870 : decode cL_law 870 = .ok (.iaload, 1) := by decide +kernel
theorem dL_law_871 : decode cL_law 871 = .ok (.aload_n 0, 1) := by decide +kernel
theorem dL_law_872 : decode cL_law 872 = .ok (.iload_n 3, 1) := by decide +kernel
theorem dL_law_873 : decode cL_law 873 = .ok (.iconst 2, 1) := by decide +kernel
theorem dL_law_874 : decode cL_law 874 = .ok (.iadd, 1) := by decide +kernel
theorem dL_law_875 : decode cL_law 875 = .ok (.iaload, 1) := by decide +kernel
theorem dL_law_876 : decode cL_law 876 = .ok (.aload_n 0, 1) := by decide +kernel
theorem dL_law_877 : decode cL_law 877 = .ok (.iload_n 3, 1) := by decide +kernel
theorem dL_law_878 : decode cL_law 878 = .ok (.iconst 3, 1) := by decide +kernel
theorem dL_law_879 : decode cL_law 879 = .ok (.iadd, 1) := by decide +kernel
theorem dL_law_880 : decode cL_law 880 = .ok (.iaload, 1) := by decide +kernel
theorem dL_law_881 : decode cL_law 881 = .ok (.ifCond .eq 7, 3) := by decide +kernel
theorem dL_law_884 : decode cL_law 884 = .ok (.iconst 1, 1) := by decide +kernel
theorem dL_law_885 : decode cL_law 885 = .ok (.goto 4, 3) := by decide +kernel
theorem dL_law_888 : decode cL_law 888 = .ok (.iconst 0, 1) := by decide +kernel
theorem dL_law_889 : decode cL_law 889 = .ok (.invokevirtual 121, 3) := by decide +kernel
theorem dL_law_892 : decode cL_law 892 = .ok (.if_icmp .eq 128, 3) := by decide +kernel
theorem dL_law_895 : decode cL_law 895 = .ok (.iconst 0, 1) := by decide +kernel
theorem dL_law_896 : decode cL_law 896 = .ok (.ireturn, 1) := by decide +kernel
theorem dL_law_897 : decode cL_law 897 = .ok (.aload_n 1, 1) := by decide +kernel
theorem dL_law_898 : decode cL_law 898 = .ok (.aload_n 0, 1) := by decide +kernel
theorem dL_law_899 : decode cL_law 899 = .ok (.iload_n 3, 1) := by decide +kernel
theorem dL_law_900 : decode cL_law 900 = .ok (.iconst 1, 1) := by decide +kernel
theorem dL_law_901 : decode cL_law 901 = .ok (.iadd, 1) := by decide +kernel
theorem dL_law_902 : decode cL_law 902 = .ok (.iaload, 1) := by decide +kernel
theorem dL_law_903 : decode cL_law 903 = .ok (.i2l, 1) := by decide +kernel
theorem dL_law_904 : decode cL_law 904 = .ok (.bipush 32, 2) := by decide +kernel
theorem dL_law_906 : decode cL_law 906 = .ok (.lshl, 1) := by decide +kernel
theorem dL_law_907 : decode cL_law 907 = .ok (.aload_n 0, 1) := by decide +kernel
theorem dL_law_908 : decode cL_law 908 = .ok (.iload_n 3, 1) := by decide +kernel
theorem dL_law_909 : decode cL_law 909 = .ok (.iconst 2, 1) := by decide +kernel
theorem dL_law_910 : decode cL_law 910 = .ok (.iadd, 1) := by decide +kernel
theorem dL_law_911 : decode cL_law 911 = .ok (.iaload, 1) := by decide +kernel
theorem dL_law_912 : decode cL_law 912 = .ok (.i2l, 1) := by decide +kernel
theorem dL_law_913 : decode cL_law 913 = .ok (.ldc2_w 89, 3) := by decide +kernel
theorem dL_law_916 : decode cL_law 916 = .ok (.land, 1) := by decide +kernel
theorem dL_law_917 : decode cL_law 917 = .ok (.lor, 1) := by decide +kernel
theorem dL_law_918 : decode cL_law 918 = .ok (.invokevirtual 122, 3) := by decide +kernel
theorem dL_law_921 : decode cL_law 921 = .ok (.aload_n 2, 1) := by decide +kernel
theorem dL_law_922 : decode cL_law 922 = .ok (.aload_n 0, 1) := by decide +kernel
theorem dL_law_923 : decode cL_law 923 = .ok (.iload_n 3, 1) := by decide +kernel
theorem dL_law_924 : decode cL_law 924 = .ok (.iconst 1, 1) := by decide +kernel
theorem dL_law_925 : decode cL_law 925 = .ok (.iadd, 1) := by decide +kernel
theorem dL_law_926 : decode cL_law 926 = .ok (.iaload, 1) := by decide +kernel
theorem dL_law_927 : decode cL_law 927 = .ok (.i2l, 1) := by decide +kernel
theorem dL_law_928 : decode cL_law 928 = .ok (.bipush 32, 2) := by decide +kernel
theorem dL_law_930 : decode cL_law 930 = .ok (.lshl, 1) := by decide +kernel
theorem dL_law_931 : decode cL_law 931 = .ok (.aload_n 0, 1) := by decide +kernel
theorem dL_law_932 : decode cL_law 932 = .ok (.iload_n 3, 1) := by decide +kernel
theorem dL_law_933 : decode cL_law 933 = .ok (.iconst 2, 1) := by decide +kernel
theorem dL_law_934 : decode cL_law 934 = .ok (.iadd, 1) := by decide +kernel
theorem dL_law_935 : decode cL_law 935 = .ok (.iaload, 1) := by decide +kernel
theorem dL_law_936 : decode cL_law 936 = .ok (.i2l, 1) := by decide +kernel
theorem dL_law_937 : decode cL_law 937 = .ok (.ldc2_w 89, 3) := by decide +kernel
theorem dL_law_940 : decode cL_law 940 = .ok (.land, 1) := by decide +kernel
theorem dL_law_941 : decode cL_law 941 = .ok (.lor, 1) := by decide +kernel
theorem dL_law_942 : decode cL_law 942 = .ok (.invokevirtual 126, 3) := by decide +kernel
theorem dL_law_945 : decode cL_law 945 = .ok (.lcmp, 1) := by decide +kernel
theorem dL_law_946 : decode cL_law 946 = .ok (.ifCond .eq 74, 3) := by decide +kernel
theorem dL_law_949 : decode cL_law 949 = .ok (.iconst 0, 1) := by decide +kernel
theorem dL_law_950 : decode cL_law 950 = .ok (.ireturn, 1) := by decide +kernel
theorem dL_law_951 : decode cL_law 951 = .ok (.aload_n 1, 1) := by decide +kernel
theorem dL_law_952 : decode cL_law 952 = .ok (.aload_n 0, 1) := by decide +kernel
theorem dL_law_953 : decode cL_law 953 = .ok (.iload_n 3, 1) := by decide +kernel
theorem dL_law_954 : decode cL_law 954 = .ok (.iconst 1, 1) := by decide +kernel
theorem dL_law_955 : decode cL_law 955 = .ok (.iadd, 1) := by decide +kernel
theorem dL_law_956 : decode cL_law 956 = .ok (.iaload, 1) := by decide +kernel
theorem dL_law_957 : decode cL_law 957 = .ok (.invokevirtual 127, 3) := by decide +kernel
theorem dL_law_960 : decode cL_law 960 = .ok (.aload_n 2, 1) := by decide +kernel
theorem dL_law_961 : decode cL_law 961 = .ok (.aload_n 0, 1) := by decide +kernel
theorem dL_law_962 : decode cL_law 962 = .ok (.iload_n 3, 1) := by decide +kernel
theorem dL_law_963 : decode cL_law 963 = .ok (.iconst 1, 1) := by decide +kernel
theorem dL_law_964 : decode cL_law 964 = .ok (.iadd, 1) := by decide +kernel
theorem dL_law_965 : decode cL_law 965 = .ok (.iaload, 1) := by decide +kernel
theorem dL_law_966 : decode cL_law 966 = .ok (.invokevirtual 130, 3) := by decide +kernel
theorem dL_law_969 : decode cL_law 969 = .ok (.if_icmp .eq 51, 3) := by decide +kernel
theorem dL_law_972 : decode cL_law 972 = .ok (.iconst 0, 1) := by decide +kernel
theorem dL_law_973 : decode cL_law 973 = .ok (.ireturn, 1) := by decide +kernel
theorem dL_law_974 : decode cL_law 974 = .ok (.aload_n 1, 1) := by decide +kernel
theorem dL_law_975 : decode cL_law 975 = .ok (.aload_n 0, 1) := by decide +kernel
theorem dL_law_976 : decode cL_law 976 = .ok (.iload_n 3, 1) := by decide +kernel
theorem dL_law_977 : decode cL_law 977 = .ok (.iconst 1, 1) := by decide +kernel
theorem dL_law_978 : decode cL_law 978 = .ok (.iadd, 1) := by decide +kernel
theorem dL_law_979 : decode cL_law 979 = .ok (.iaload, 1) := by decide +kernel
theorem dL_law_980 : decode cL_law 980 = .ok (.invokevirtual 131, 3) := by decide +kernel
theorem dL_law_983 : decode cL_law 983 = .ok (.aload_n 2, 1) := by decide +kernel
theorem dL_law_984 : decode cL_law 984 = .ok (.aload_n 0, 1) := by decide +kernel
theorem dL_law_985 : decode cL_law 985 = .ok (.iload_n 3, 1) := by decide +kernel
theorem dL_law_986 : decode cL_law 986 = .ok (.iconst 1, 1) := by decide +kernel
theorem dL_law_987 : decode cL_law 987 = .ok (.iadd, 1) := by decide +kernel
theorem dL_law_988 : decode cL_law 988 = .ok (.iaload, 1) := by decide +kernel
theorem dL_law_989 : decode cL_law 989 = .ok (.invokevirtual 134, 3) := by decide +kernel
theorem dL_law_992 : decode cL_law 992 = .ok (.if_icmp .eq 28, 3) := by decide +kernel
theorem dL_law_995 : decode cL_law 995 = .ok (.iconst 0, 1) := by decide +kernel
theorem dL_law_996 : decode cL_law 996 = .ok (.ireturn, 1) := by decide +kernel
theorem dL_law_997 : decode cL_law 997 = .ok (.aload_n 1, 1) := by decide +kernel
theorem dL_law_998 : decode cL_law 998 = .ok (.aload_n 0, 1) := by decide +kernel
theorem dL_law_999 : decode cL_law 999 = .ok (.iload_n 3, 1) := by decide +kernel
theorem dL_law_1000 : decode cL_law 1000 = .ok (.iconst 1, 1) := by decide +kernel
theorem dL_law_1001 : decode cL_law 1001 = .ok (.iadd, 1) := by decide +kernel
theorem dL_law_1002 : decode cL_law 1002 = .ok (.iaload, 1) := by decide +kernel
theorem dL_law_1003 : decode cL_law 1003 = .ok (.invokevirtual 135, 3) := by decide +kernel
theorem dL_law_1006 : decode cL_law 1006 = .ok (.aload_n 2, 1) := by decide +kernel
theorem dL_law_1007 : decode cL_law 1007 = .ok (.aload_n 0, 1) := by decide +kernel
theorem dL_law_1008 : decode cL_law 1008 = .ok (.iload_n 3, 1) := by decide +kernel
theorem dL_law_1009 : decode cL_law 1009 = .ok (.iconst 1, 1) := by decide +kernel
theorem dL_law_1010 : decode cL_law 1010 = .ok (.iadd, 1) := by decide +kernel
theorem dL_law_1011 : decode cL_law 1011 = .ok (.iaload, 1) := by decide +kernel
theorem dL_law_1012 : decode cL_law 1012 = .ok (.invokevirtual 138, 3) := by decide +kernel
theorem dL_law_1015 : decode cL_law 1015 = .ok (.if_icmp .eq 5, 3) := by decide +kernel
theorem dL_law_1018 : decode cL_law 1018 = .ok (.iconst 0, 1) := by decide +kernel
theorem dL_law_1019 : decode cL_law 1019 = .ok (.ireturn, 1) := by decide +kernel
theorem dL_law_1020 : decode cL_law 1020 = .ok (.iinc 3 4, 3) := by decide +kernel
theorem dL_law_1023 : decode cL_law 1023 = .ok (.goto (-1005), 3) := by decide +kernel
theorem dL_law_1026 : decode cL_law 1026 = .ok (.iconst 1, 1) := by decide +kernel
theorem dL_law_1027 : decode cL_law 1027 = .ok (.ireturn, 1) := by decide +kernel
