theorem dX9_readPattern_50 : decode cX9_readPattern 50 = .ok (.goto 16, 3) := by decide +kernel
theorem dX9_readPattern_53 : decode cX9_readPattern 53 = .ok (.aload_n 0, 1) := by decide +kernel
theorem dX9_readPattern_54 : decode cX9_readPattern 54 = .ok (.bipush 48, 2) := by decide +kernel
theorem dX9_readPattern_56 : decode cX9_readPattern 56 = .ok (.iconst 0, 1) := by decide +kernel
theorem dX9_readPattern_57 : decode cX9_readPattern 57 = .ok (.aload_n 0, 1) := by decide +kernel
theorem dX9_readPattern_58 : decode cX9_readPattern 58 = .ok (.getfield 98, 3) := by decide +kernel
theorem dX9_readPattern_61 : decode cX9_readPattern 61 = .ok (.iconst 1, 1) := by decide +kernel
theorem dX9_readPattern_62 : decode cX9_readPattern 62 = .ok (.isub, 1) := by decide +kernel
theorem dX9_readPattern_63 : decode cX9_readPattern 63 = .ok (.invokevirtual 108, 3) := by decide +kernel
theorem dX9_readPattern_66 : decode cX9_readPattern 66 = .ok (.putfield 112, 3) := by decide +kernel
theorem dX9_readPattern_69 : decode cX9_readPattern 69 = .ok (.aload_n 0, 1) := by decide +kernel
theorem dX9_readPattern_70 : decode cX9_readPattern 70 = .ok (.getfield 112, 3) := by decide +kernel
theorem dX9_readPattern_73 : decode cX9_readPattern 73 = .ok (.bipush (-9), 2) := by decide +kernel
theorem dX9_readPattern_75 : decode cX9_readPattern 75 = .ok (.if_icmp .ne 5, 3) := by decide +kernel
theorem dX9_readPattern_78 : decode cX9_readPattern 78 = .ok (.iconst 0, 1) := by decide +kernel
theorem dX9_readPattern_79 : decode cX9_readPattern 79 = .ok (.ireturn, 1) := by decide +kernel
theorem dX9_readPattern_80 : decode cX9_readPattern 80 = .ok (.iconst 0, 1) := by decide +kernel
theorem dX9_readPattern_81 : decode cX9_readPattern 81 = .ok (.istore_n 1, 1) := by decide +kernel
theorem dX9_readPattern_82 : decode cX9_readPattern 82 = .ok (.iload_n 1, 1) := by decide +kernel
theorem dX9_readPattern_83 : decode cX9_readPattern 83 = .ok (.aload_n 0, 1) := by decide +kernel
theorem dX9_readPattern_84 : decode cX9_readPattern 84 = .ok (.getfield 95, 3) := by decide +kernel
theorem dX9_readPattern_87 : decode cX9_readPattern 87 = .ok (.aload_n 0, 1) := by decide +kernel
theorem dX9_readPattern_88 : decode cX9_readPattern 88 = .ok (.getfield 98, 3) := by decide +kernel
theorem dX9_readPattern_91 : decode cX9_readPattern 91 = .ok (.imul, 1) := by decide +kernel
theorem dX9_readPattern_92 : decode cX9_readPattern 92 = .ok (.if_icmp .ge 32, 3) := by decide +kernel
theorem dX9_readPattern_95 : decode cX9_readPattern 95 = .ok (.aload_n 0, 1) := by decide +kernel
theorem dX9_readPattern_96 : decode cX9_readPattern 96 = .ok (.getfield 29, 3) := by decide +kernel
theorem dX9_readPattern_99 : decode cX9_readPattern 99 = .ok (.iload_n 1, 1) := by decide +kernel
theorem dX9_readPattern_100 : decode cX9_readPattern 100 = .ok (.aload_n 0, 1) := by decide +kernel
theorem dX9_readPattern_101 : decode cX9_readPattern 101 = .ok (.invokevirtual 115, 3) := by decide +kernel
theorem dX9_readPattern_104 : decode cX9_readPattern 104 = .ok (.iastore, 1) := by decide +kernel
theorem dX9_readPattern_105 : decode cX9_readPattern 105 = .ok (.aload_n 0, 1) := by decide +kernel
theorem dX9_readPattern_106 : decode cX9_readPattern 106 = .ok (.getfield 29, 3) := by decide +kernel
theorem dX9_readPattern_109 : decode cX9_readPattern 109 = .ok (.iload_n 1, 1) := by decide +kernel
theorem dX9_readPattern_110 : decode cX9_readPattern 110 = .ok (.iaload, 1) := by decide +kernel
theorem dX9_readPattern_111 : decode cX9_readPattern 111 = .ok (.bipush (-9), 2) := by decide +kernel
theorem dX9_readPattern_113 : decode cX9_readPattern 113 = .ok (.if_icmp .ne 5, 3) := by decide +kernel
theorem dX9_readPattern_116 : decode cX9_readPattern 116 = .ok (.iconst 0, 1) := by decide +kernel
theorem dX9_readPattern_117 : decode cX9_readPattern 117 = .ok (.ireturn, 1) := by decide +kernel
theorem dX9_readPattern_118 : decode cX9_readPattern 118 = .ok (.iinc 1 1, 3) := by decide +kernel
theorem dX9_readPattern_121 : decode cX9_readPattern 121 = .ok (.goto (-39), 3) := by decide +kernel
theorem dX9_readPattern_124 : decode cX9_readPattern 124 = .ok (.iconst 1, 1) := by decide +kernel
theorem dX9_readPattern_125 : decode cX9_readPattern 125 = .ok (.ireturn, 1) := by decide +kernel
theorem dX9_readPaper_0 : decode cX9_readPaper 0 = .ok (.aload_n 0, 1) := by decide +kernel
theorem dX9_readPaper_1 : decode cX9_readPaper 1 = .ok (.iconst 0, 1) := by decide +kernel
theorem dX9_readPaper_2 : decode cX9_readPaper 2 = .ok (.putfield 92, 3) := by decide +kernel
theorem dX9_readPaper_5 : decode cX9_readPaper 5 = .ok (.aload_n 0, 1) := by decide +kernel
theorem dX9_readPaper_6 : decode cX9_readPaper 6 = .ok (.iconst 0, 1) := by decide +kernel
theorem dX9_readPaper_7 : decode cX9_readPaper 7 = .ok (.putfield 101, 3) := by decide +kernel
theorem dX9_readPaper_10 : decode cX9_readPaper 10 = .ok (.aload_n 0, 1) := by decide +kernel
theorem dX9_readPaper_11 : decode cX9_readPaper 11 = .ok (.getfield 89, 3) := by decide +kernel
theorem dX9_readPaper_14 : decode cX9_readPaper 14 = .ok (.ifCond .eq 14, 3) := by decide +kernel
theorem dX9_readPaper_17 : decode cX9_readPaper 17 = .ok (.aload_n 0, 1) := by decide +kernel
theorem dX9_readPaper_18 : decode cX9_readPaper 18 = .ok (.getfield 7, 3) := by decide +kernel
theorem dX9_readPaper_21 : decode cX9_readPaper 21 = .ok (.iconst 0, 1) := by decide +kernel
theorem dX9_readPaper_22 : decode cX9_readPaper 22 = .ok (.iaload, 1) := by decide +kernel
theorem dX9_readPaper_23 : decode cX9_readPaper 23 = .ok (.bipush 87, 2) := by decide +kernel
theorem dX9_readPaper_25 : decode cX9_readPaper 25 = .ok (.if_icmp .eq 5, 3) := by decide +kernel
theorem dX9_readPaper_28 : decode cX9_readPaper 28 = .ok (.iconst 0, 1) := by decide +kernel
theorem dX9_readPaper_29 : decode cX9_readPaper 29 = .ok (.ireturn, 1) := by decide +kernel
theorem dX9_readPaper_30 : decode cX9_readPaper 30 = .ok (.aload_n 0, 1) := by decide +kernel
theorem dX9_readPaper_31 : decode cX9_readPaper 31 = .ok (.iconst 1, 1) := by decide +kernel
theorem dX9_readPaper_32 : decode cX9_readPaper 32 = .ok (.putfield 92, 3) := by decide +kernel
theorem dX9_readPaper_35 : decode cX9_readPaper 35 = .ok (.aload_n 0, 1) := by decide +kernel
theorem dX9_readPaper_36 : decode cX9_readPaper 36 = .ok (.invokevirtual 119, 3) := by decide +kernel
theorem dX9_readPaper_39 : decode cX9_readPaper 39 = .ok (.ifCond .ne 8, 3) := by decide +kernel
theorem dX9_readPaper_42 : decode cX9_readPaper 42 = .ok (.aload_n 0, 1) := by decide +kernel
theorem dX9_readPaper_43 : decode cX9_readPaper 43 = .ok (.getfield 92, 3) := by decide +kernel
theorem dX9_readPaper_46 : decode cX9_readPaper 46 = .ok (.ireturn, 1) := by decide +kernel
theorem dX9_readPaper_47 : decode cX9_readPaper 47 = .ok (.aload_n 0, 1) := by decide +kernel
theorem dX9_readPaper_48 : decode cX9_readPaper 48 = .ok (.getfield 92, 3) := by decide +kernel
theorem dX9_readPaper_51 : decode cX9_readPaper 51 = .ok (.aload_n 0, 1) := by decide +kernel
theorem dX9_readPaper_52 : decode cX9_readPaper 52 = .ok (.getfield 89, 3) := by decide +kernel
theorem dX9_readPaper_55 : decode cX9_readPaper 55 = .ok (.if_icmp .ge 15, 3) := by decide +kernel
theorem dX9_readPaper_58 : decode cX9_readPaper 58 = .ok (.aload_n 0, 1) := by decide +kernel
theorem dX9_readPaper_59 : decode cX9_readPaper 59 = .ok (.invokevirtual 122, 3) := by decide +kernel
theorem dX9_readPaper_62 : decode cX9_readPaper 62 = .ok (.ifCond .ne (-15), 3) := by decide +kernel
theorem dX9_readPaper_65 : decode cX9_readPaper 65 = .ok (.aload_n 0, 1) := by decide +kernel
theorem dX9_readPaper_66 : decode cX9_readPaper 66 = .ok (.getfield 92, 3) := by decide +kernel
theorem dX9_readPaper_69 : decode cX9_readPaper 69 = .ok (.ireturn, 1) := by decide +kernel
theorem dX9_readPaper_70 : decode cX9_readPaper 70 = .ok (.bipush (-9), 2) := by decide +kernel
theorem dX9_readPaper_72 : decode cX9_readPaper 72 = .ok (.ireturn, 1) := by decide +kernel
theorem dX9_fault_0 : decode cX9_fault 0 = .ok (.aload_n 0, 1) := by decide +kernel
theorem dX9_fault_1 : decode cX9_fault 1 = .ok (.iconst 0, 1) := by decide +kernel
theorem dX9_fault_2 : decode cX9_fault 2 = .ok (.putfield 75, 3) := by decide +kernel
theorem dX9_fault_5 : decode cX9_fault 5 = .ok (.aload_n 0, 1) := by decide +kernel
theorem dX9_fault_6 : decode cX9_fault 6 = .ok (.invokevirtual 125, 3) := by decide +kernel
theorem dX9_fault_9 : decode cX9_fault 9 = .ok (.ireturn, 1) := by decide +kernel
theorem dX9_paper_0 : decode cX9_paper 0 = .ok (.aload_n 0, 1) := by decide +kernel
theorem dX9_paper_1 : decode cX9_paper 1 = .ok (.iconst 0, 1) := by decide +kernel
theorem dX9_paper_2 : decode cX9_paper 2 = .ok (.putfield 75, 3) := by decide +kernel
theorem dX9_paper_5 : decode cX9_paper 5 = .ok (.aload_n 0, 1) := by decide +kernel
theorem dX9_paper_6 : decode cX9_paper 6 = .ok (.invokevirtual 125, 3) := by decide +kernel
theorem dX9_paper_9 : decode cX9_paper 9 = .ok (.bipush (-9), 2) := by decide +kernel
theorem dX9_paper_11 : decode cX9_paper 11 = .ok (.if_icmp .eq 6, 3) := by decide +kernel
theorem dX9_paper_14 : decode cX9_paper 14 = .ok (.bipush (-3), 2) := by decide +kernel
theorem dX9_paper_16 : decode cX9_paper 16 = .ok (.ireturn, 1) := by decide +kernel
theorem dX9_paper_17 : decode cX9_paper 17 = .ok (.aload_n 0, 1) := by decide +kernel
theorem dX9_paper_18 : decode cX9_paper 18 = .ok (.aload_n 0, 1) := by decide +kernel
theorem dX9_paper_19 : decode cX9_paper 19 = .ok (.getfield 95, 3) := by decide +kernel
theorem dX9_paper_22 : decode cX9_paper 22 = .ok (.putfield 13, 3) := by decide +kernel
theorem dX9_paper_25 : decode cX9_paper 25 = .ok (.aload_n 0, 1) := by decide +kernel
theorem dX9_paper_26 : decode cX9_paper 26 = .ok (.aload_n 0, 1) := by decide +kernel
theorem dX9_paper_27 : decode cX9_paper 27 = .ok (.getfield 98, 3) := by decide +kernel
theorem dX9_paper_30 : decode cX9_paper 30 = .ok (.putfield 17, 3) := by decide +kernel
theorem dX9_paper_33 : decode cX9_paper 33 = .ok (.aload_n 0, 1) := by decide +kernel
theorem dX9_paper_34 : decode cX9_paper 34 = .ok (.aload_n 0, 1) := by decide +kernel
theorem dX9_paper_35 : decode cX9_paper 35 = .ok (.getfield 112, 3) := by decide +kernel
theorem dX9_paper_38 : decode cX9_paper 38 = .ok (.putfield 128, 3) := by decide +kernel
theorem dX9_paper_41 : decode cX9_paper 41 = .ok (.aload_n 0, 1) := by decide +kernel
theorem dX9_paper_42 : decode cX9_paper 42 = .ok (.aload_n 0, 1) := by decide +kernel
theorem dX9_paper_43 : decode cX9_paper 43 = .ok (.getfield 101, 3) := by decide +kernel
theorem dX9_paper_46 : decode cX9_paper 46 = .ok (.putfield 78, 3) := by decide +kernel
theorem dX9_paper_49 : decode cX9_paper 49 = .ok (.iconst 0, 1) := by decide +kernel
theorem dX9_paper_50 : decode cX9_paper 50 = .ok (.istore_n 1, 1) := by decide +kernel
theorem dX9_paper_51 : decode cX9_paper 51 = .ok (.iload_n 1, 1) := by decide +kernel
theorem dX9_paper_52 : decode cX9_paper 52 = .ok (.bipush 20, 2) := by decide +kernel
theorem dX9_paper_54 : decode cX9_paper 54 = .ok (.if_icmp .ge 38, 3) := by decide +kernel
theorem dX9_paper_57 : decode cX9_paper 57 = .ok (.aload_n 0, 1) := by decide +kernel
theorem dX9_paper_58 : decode cX9_paper 58 = .ok (.getfield 20, 3) := by decide +kernel
theorem dX9_paper_61 : decode cX9_paper 61 = .ok (.iload_n 1, 1) := by decide +kernel
theorem dX9_paper_62 : decode cX9_paper 62 = .ok (.iload_n 1, 1) := by decide +kernel
theorem dX9_paper_63 : decode cX9_paper 63 = .ok (.aload_n 0, 1) := by decide +kernel
theorem dX9_paper_64 : decode cX9_paper 64 = .ok (.getfield 13, 3) := by decide +kernel
theorem dX9_paper_67 : decode cX9_paper 67 = .ok (.aload_n 0, 1) := by decide +kernel
theorem dX9_paper_68 : decode cX9_paper 68 = .ok (.getfield 17, 3) := by decide +kernel
theorem dX9_paper_71 : decode cX9_paper 71 = .ok (.imul, 1) := by decide +kernel
theorem dX9_paper_72 : decode cX9_paper 72 = .ok (.if_icmp .ge 12, 3) := by decide +kernel
theorem dX9_paper_75 : decode cX9_paper 75 = .ok (.aload_n 0, 1) := by decide +kernel
theorem dX9_paper_76 : decode cX9_paper 76 = .ok (.getfield 29, 3) := by decide +kernel
theorem dX9_paper_79 : decode cX9_paper 79 = .ok (.iload_n 1, 1) := by decide +kernel
theorem dX9_paper_80 : decode cX9_paper 80 = .ok (.iaload, 1) := by decide +kernel
theorem dX9_paper_81 : decode cX9_paper 81 = .ok (.goto 4, 3) := by decide +kernel
theorem dX9_paper_84 : decode cX9_paper 84 = .ok (.iconst 0, 1) := by decide +kernel
theorem dX9_paper_85 : decode cX9_paper 85 = .ok (.iastore, 1) := by decide +kernel
theorem dX9_paper_86 : decode cX9_paper 86 = .ok (.iinc 1 1, 3) := by decide +kernel
theorem dX9_paper_89 : decode cX9_paper 89 = .ok (.goto (-38), 3) := by decide +kernel
theorem dX9_paper_92 : decode cX9_paper 92 = .ok (.iconst 0, 1) := by decide +kernel
theorem dX9_paper_93 : decode cX9_paper 93 = .ok (.istore_n 1, 1) := by decide +kernel
theorem dX9_paper_94 : decode cX9_paper 94 = .ok (.iload_n 1, 1) := by decide +kernel
theorem dX9_paper_95 : decode cX9_paper 95 = .ok (.bipush 16, 2) := by decide +kernel
theorem dX9_paper_97 : decode cX9_paper 97 = .ok (.if_icmp .ge 16, 3) := by decide +kernel
theorem dX9_paper_100 : decode cX9_paper 100 = .ok (.aload_n 0, 1) := by decide +kernel
theorem dX9_paper_101 : decode cX9_paper 101 = .ok (.getfield 35, 3) := by decide +kernel
theorem dX9_paper_104 : decode cX9_paper 104 = .ok (.iload_n 1, 1) := by decide +kernel
theorem dX9_paper_105 : decode cX9_paper 105 = .ok (.iconst 0, 1) := by decide +kernel
theorem dX9_paper_106 : decode cX9_paper 106 = .ok (.iastore, 1) := by decide +kernel
theorem dX9_paper_107 : decode cX9_paper 107 = .ok (.iinc 1 1, 3) := by decide +kernel
theorem dX9_paper_110 : decode cX9_paper 110 = .ok (.goto (-16), 3) := by decide +kernel
theorem dX9_paper_113 : decode cX9_paper 113 = .ok (.iconst 0, 1) := by decide +kernel
theorem dX9_paper_114 : decode cX9_paper 114 = .ok (.istore_n 1, 1) := by decide +kernel
theorem dX9_paper_115 : decode cX9_paper 115 = .ok (.iload_n 1, 1) := by decide +kernel
theorem dX9_paper_116 : decode cX9_paper 116 = .ok (.aload_n 0, 1) := by decide +kernel
theorem dX9_paper_117 : decode cX9_paper 117 = .ok (.getfield 78, 3) := by decide +kernel
theorem dX9_paper_120 : decode cX9_paper 120 = .ok (.if_icmp .ge 70, 3) := by decide +kernel
theorem dX9_paper_123 : decode cX9_paper 123 = .ok (.aload_n 0, 1) := by decide +kernel
theorem dX9_paper_124 : decode cX9_paper 124 = .ok (.getfield 23, 3) := by decide +kernel
theorem dX9_paper_127 : decode cX9_paper 127 = .ok (.iload_n 1, 1) := by decide +kernel
theorem dX9_paper_128 : decode cX9_paper 128 = .ok (.aload_n 0, 1) := by decide +kernel
theorem dX9_paper_129 : decode cX9_paper 129 = .ok (.getfield 32, 3) := by decide +kernel
theorem dX9_paper_132 : decode cX9_paper 132 = .ok (.iconst 2, 1) := by decide +kernel
theorem dX9_paper_133 : decode cX9_paper 133 = .ok (.iload_n 1, 1) := by decide +kernel
theorem dX9_paper_134 : decode cX9_paper 134 = .ok (.imul, 1) := by decide +kernel
theorem dX9_paper_135 : decode cX9_paper 135 = .ok (.iaload, 1) := by decide +kernel
theorem dX9_paper_136 : decode cX9_paper 136 = .ok (.iastore, 1) := by decide +kernel
theorem dX9_paper_137 : decode cX9_paper 137 = .ok (.aload_n 0, 1) := by decide +kernel
theorem dX9_paper_138 : decode cX9_paper 138 = .ok (.getfield 26, 3) := by decide +kernel
theorem dX9_paper_141 : decode cX9_paper 141 = .ok (.iload_n 1, 1) := by decide +kernel
theorem dX9_paper_142 : decode cX9_paper 142 = .ok (.aload_n 0, 1) := by decide +kernel
theorem dX9_paper_143 : decode cX9_paper 143 = .ok (.getfield 32, 3) := by decide +kernel
theorem dX9_paper_146 : decode cX9_paper 146 = .ok (.iconst 2, 1) := by decide +kernel
theorem dX9_paper_147 : decode cX9_paper 147 = .ok (.iload_n 1, 1) := by decide +kernel
theorem dX9_paper_148 : decode cX9_paper 148 = .ok (.imul, 1) := by decide +kernel
theorem dX9_paper_149 : decode cX9_paper 149 = .ok (.iconst 1, 1) := by decide +kernel
theorem dX9_paper_150 : decode cX9_paper 150 = .ok (.iadd, 1) := by decide +kernel
theorem dX9_paper_151 : decode cX9_paper 151 = .ok (.iaload, 1) := by decide +kernel
theorem dX9_paper_152 : decode cX9_paper 152 = .ok (.iastore, 1) := by decide +kernel
theorem dX9_paper_153 : decode cX9_paper 153 = .ok (.aload_n 0, 1) := by decide +kernel
theorem dX9_paper_154 : decode cX9_paper 154 = .ok (.getfield 35, 3) := by decide +kernel
theorem dX9_paper_157 : decode cX9_paper 157 = .ok (.iload_n 1, 1) := by decide +kernel
theorem dX9_paper_158 : decode cX9_paper 158 = .ok (.aload_n 0, 1) := by decide +kernel
theorem dX9_paper_159 : decode cX9_paper 159 = .ok (.getfield 23, 3) := by decide +kernel
theorem dX9_paper_162 : decode cX9_paper 162 = .ok (.iload_n 1, 1) := by decide +kernel
theorem dX9_paper_163 : decode cX9_paper 163 = .ok (.iaload, 1) := by decide +kernel
theorem dX9_paper_164 : decode cX9_paper 164 = .ok (.iastore, 1) := by decide +kernel
theorem dX9_paper_165 : decode cX9_paper 165 = .ok (.aload_n 0, 1) := by decide +kernel
theorem dX9_paper_166 : decode cX9_paper 166 = .ok (.getfield 35, 3) := by decide +kernel
theorem dX9_paper_169 : decode cX9_paper 169 = .ok (.iconst 5, 1) := by decide +kernel
theorem dX9_paper_170 : decode cX9_paper 170 = .ok (.iload_n 1, 1) := by decide +kernel
theorem dX9_paper_171 : decode cX9_paper 171 = .ok (.iadd, 1) := by decide +kernel
theorem dX9_paper_172 : decode cX9_paper 172 = .ok (.iconst 3, 1) := by decide +kernel
theorem dX9_paper_173 : decode cX9_paper 173 = .ok (.iastore, 1) := by decide +kernel
theorem dX9_paper_174 : decode cX9_paper 174 = .ok (.aload_n 0, 1) := by decide +kernel
theorem dX9_paper_175 : decode cX9_paper 175 = .ok (.getfield 35, 3) := by decide +kernel
theorem dX9_paper_178 : decode cX9_paper 178 = .ok (.bipush 10, 2) := by decide +kernel
theorem dX9_paper_180 : decode cX9_paper 180 = .ok (.iload_n 1, 1) := by decide +kernel
theorem dX9_paper_181 : decode cX9_paper 181 = .ok (.iadd, 1) := by decide +kernel
theorem dX9_paper_182 : decode cX9_paper 182 = .ok (.iconst 3, 1) := by decide +kernel
theorem dX9_paper_183 : decode cX9_paper 183 = .ok (.iastore, 1) := by decide +kernel
theorem dX9_paper_184 : decode cX9_paper 184 = .ok (.iinc 1 1, 3) := by decide +kernel
theorem dX9_paper_187 : decode cX9_paper 187 = .ok (.goto (-72), 3) := by decide +kernel
theorem dX9_paper_190 : decode cX9_paper 190 = .ok (.aload_n 0, 1) := by decide +kernel
theorem dX9_paper_191 : decode cX9_paper 191 = .ok (.iconst 0, 1) := by decide +kernel
theorem dX9_paper_192 : decode cX9_paper 192 = .ok (.putfield 131, 3) := by decide +kernel
theorem dX9_paper_195 : decode cX9_paper 195 = .ok (.aload_n 0, 1) := by decide +kernel
theorem dX9_paper_196 : decode cX9_paper 196 = .ok (.getfield 47, 3) := by decide +kernel
theorem dX9_paper_199 : decode cX9_paper 199 = .ok (.iconst 0, 1) := by decide +kernel
theorem dX9_paper_200 : decode cX9_paper 200 = .ok (.iconst 0, 1) := by decide +kernel
theorem dX9_paper_201 : decode cX9_paper 201 = .ok (.bastore, 1) := by decide +kernel
theorem dX9_paper_202 : decode cX9_paper 202 = .ok (.aload_n 0, 1) := by decide +kernel
theorem dX9_paper_203 : decode cX9_paper 203 = .ok (.getfield 47, 3) := by decide +kernel
theorem dX9_paper_206 : decode cX9_paper 206 = .ok (.iconst 1, 1) := by decide +kernel
theorem dX9_paper_207 : decode cX9_paper 207 = .ok (.iconst 0, 1) := by decide +kernel
theorem dX9_paper_208 : decode cX9_paper 208 = .ok (.bastore, 1) := by decide +kernel
theorem dX9_paper_209 : decode cX9_paper 209 = .ok (.bipush 100, 2) := by decide +kernel
theorem dX9_paper_211 : decode cX9_paper 211 = .ok (.aload_n 0, 1) := by decide +kernel
theorem dX9_paper_212 : decode cX9_paper 212 = .ok (.getfield 13, 3) := by decide +kernel
theorem dX9_paper_215 : decode cX9_paper 215 = .ok (.imul, 1) := by decide +kernel
theorem dX9_paper_216 : decode cX9_paper 216 = .ok (.bipush 10, 2) := by decide +kernel
theorem dX9_paper_218 : decode cX9_paper 218 = .ok (.aload_n 0, 1) := by decide +kernel
theorem dX9_paper_219 : decode cX9_paper 219 = .ok (.getfield 17, 3) := by decide +kernel
theorem dX9_paper_222 : decode cX9_paper 222 = .ok (.imul, 1) := by decide +kernel
theorem dX9_paper_223 : decode cX9_paper 223 = .ok (.iadd, 1) := by decide +kernel
theorem dX9_paper_224 : decode cX9_paper 224 = .ok (.aload_n 0, 1) := by decide +kernel
theorem dX9_paper_225 : decode cX9_paper 225 = .ok (.getfield 78, 3) := by decide +kernel
theorem dX9_paper_228 : decode cX9_paper 228 = .ok (.iadd, 1) := by decide +kernel
theorem dX9_paper_229 : decode cX9_paper 229 = .ok (.ireturn, 1) := by decide +kernel
theorem dX9_kindOf_0 : decode cX9_kindOf 0 = .ok (.aload_n 1, 1) := by decide +kernel
theorem dX9_kindOf_1 : decode cX9_kindOf 1 = .ok (.bipush 15, 2) := by decide +kernel
theorem dX9_kindOf_3 : decode cX9_kindOf 3 = .ok (.iaload, 1) := by decide +kernel
theorem dX9_kindOf_4 : decode cX9_kindOf 4 = .ok (.iload_n 2, 1) := by decide +kernel
theorem dX9_kindOf_5 : decode cX9_kindOf 5 = .ok (.invokestatic 134, 3) := by decide +kernel
theorem dX9_kindOf_8 : decode cX9_kindOf 8 = .ok (.ifCond .eq 7, 3) := by decide +kernel
theorem dX9_kindOf_11 : decode cX9_kindOf 11 = .ok (.iconst 0, 1) := by decide +kernel
theorem dX9_kindOf_12 : decode cX9_kindOf 12 = .ok (.goto 9, 3) := by decide +kernel
theorem dX9_kindOf_15 : decode cX9_kindOf 15 = .ok (.aload_n 0, 1) := by decide +kernel
theorem dX9_kindOf_16 : decode cX9_kindOf 16 = .ok (.getfield 20, 3) := by decide +kernel
theorem dX9_kindOf_19 : decode cX9_kindOf 19 = .ok (.iload_n 2, 1) := by decide +kernel
theorem dX9_kindOf_20 : decode cX9_kindOf 20 = .ok (.iaload, 1) := by decide +kernel
theorem dX9_kindOf_21 : decode cX9_kindOf 21 = .ok (.ireturn, 1) := by decide +kernel
theorem dX9_goWay_0 : decode cX9_goWay 0 = .ok (.aload_n 0, 1) := by decide +kernel
theorem dX9_goWay_1 : decode cX9_goWay 1 = .ok (.getfield 60, 3) := by decide +kernel
theorem dX9_goWay_4 : decode cX9_goWay 4 = .ok (.iconst 0, 1) := by decide +kernel
theorem dX9_goWay_5 : decode cX9_goWay 5 = .ok (.iaload, 1) := by decide +kernel
theorem dX9_goWay_6 : decode cX9_goWay 6 = .ok (.aload_n 0, 1) := by decide +kernel
theorem dX9_goWay_7 : decode cX9_goWay 7 = .ok (.getfield 13, 3) := by decide +kernel
theorem dX9_goWay_10 : decode cX9_goWay 10 = .ok (.idiv, 1) := by decide +kernel
theorem dX9_goWay_11 : decode cX9_goWay 11 = .ok (.istore_n 3, 1) := by decide +kernel
theorem dX9_goWay_12 : decode cX9_goWay 12 = .ok (.aload_n 0, 1) := by decide +kernel
theorem dX9_goWay_13 : decode cX9_goWay 13 = .ok (.getfield 60, 3) := by decide +kernel
theorem dX9_goWay_16 : decode cX9_goWay 16 = .ok (.iconst 0, 1) := by decide +kernel
theorem dX9_goWay_17 : decode cX9_goWay 17 = .ok (.iaload, 1) := by decide +kernel
theorem dX9_goWay_18 : decode cX9_goWay 18 = .ok (.aload_n 0, 1) := by decide +kernel
theorem dX9_goWay_19 : decode cX9_goWay 19 = .ok (.getfield 13, 3) := by decide +kernel
theorem dX9_goWay_22 : decode cX9_goWay 22 = .ok (.irem, 1) := by decide +kernel
theorem dX9_goWay_23 : decode cX9_goWay 23 = .ok (.istore 4, 2) := by decide +kernel
theorem dX9_goWay_25 : decode cX9_goWay 25 = .ok (.iload_n 2, 1) := by decide +kernel
theorem dX9_goWay_26 : decode cX9_goWay 26 = .ok (.ifCond .eq 7, 3) := by decide +kernel
theorem dX9_goWay_29 : decode cX9_goWay 29 = .ok (.iconst 0, 1) := by decide +kernel
theorem dX9_goWay_30 : decode cX9_goWay 30 = .ok (.goto 7, 3) := by decide +kernel
theorem dX9_goWay_33 : decode cX9_goWay 33 = .ok (.aload_n 0, 1) := by decide +kernel
theorem dX9_goWay_34 : decode cX9_goWay 34 = .ok (.getfield 128, 3) := by decide +kernel
theorem dX9_goWay_37 : decode cX9_goWay 37 = .ok (.istore 5, 2) := by decide +kernel
theorem dX9_goWay_39 : decode cX9_goWay 39 = .ok (.iload_n 1, 1) := by decide +kernel
theorem dX9_goWay_40 : decode cX9_goWay 40 = .ok (.ifCond .ne 81, 3) := by decide +kernel
theorem dX9_goWay_43 : decode cX9_goWay 43 = .ok (.iload 4, 2) := by decide +kernel
theorem dX9_goWay_45 : decode cX9_goWay 45 = .ok (.ifCond .ne 7, 3) := by decide +kernel
theorem dX9_goWay_48 : decode cX9_goWay 48 = .ok (.iconst 1, 1) := by decide +kernel
theorem dX9_goWay_49 : decode cX9_goWay 49 = .ok (.goto 4, 3) := by decide +kernel
theorem dX9_goWay_52 : decode cX9_goWay 52 = .ok (.iconst 0, 1) := by decide +kernel
theorem dX9_goWay_53 : decode cX9_goWay 53 = .ok (.istore 6, 2) := by decide +kernel
theorem dX9_goWay_55 : decode cX9_goWay 55 = .ok (.iload 6, 2) := by decide +kernel
theorem dX9_goWay_57 : decode cX9_goWay 57 = .ok (.ifCond .eq 20, 3) := by decide +kernel
theorem dX9_goWay_60 : decode cX9_goWay 60 = .ok (.iload_n 3, 1) := by decide +kernel
theorem dX9_goWay_61 : decode cX9_goWay 61 = .ok (.aload_n 0, 1) := by decide +kernel
theorem dX9_goWay_62 : decode cX9_goWay 62 = .ok (.getfield 17, 3) := by decide +kernel
theorem dX9_goWay_65 : decode cX9_goWay 65 = .ok (.iadd, 1) := by decide +kernel
theorem dX9_goWay_66 : decode cX9_goWay 66 = .ok (.iload 5, 2) := by decide +kernel
theorem dX9_goWay_68 : decode cX9_goWay 68 = .ok (.isub, 1) := by decide +kernel
theorem dX9_goWay_69 : decode cX9_goWay 69 = .ok (.aload_n 0, 1) := by decide +kernel
theorem dX9_goWay_70 : decode cX9_goWay 70 = .ok (.getfield 17, 3) := by decide +kernel
theorem dX9_goWay_73 : decode cX9_goWay 73 = .ok (.irem, 1) := by decide +kernel
theorem dX9_goWay_74 : decode cX9_goWay 74 = .ok (.goto 4, 3) := by decide +kernel
theorem dX9_goWay_77 : decode cX9_goWay 77 = .ok (.iload_n 3, 1) := by decide +kernel
theorem dX9_goWay_78 : decode cX9_goWay 78 = .ok (.istore_n 3, 1) := by decide +kernel
theorem dX9_goWay_79 : decode cX9_goWay 79 = .ok (.aload_n 0, 1) := by decide +kernel
theorem dX9_goWay_80 : decode cX9_goWay 80 = .ok (.getfield 60, 3) := by decide +kernel
theorem dX9_goWay_83 : decode cX9_goWay 83 = .ok (.iconst 1, 1) := by decide +kernel
theorem dX9_goWay_84 : decode cX9_goWay 84 = .ok (.dup2, 1) := by decide +kernel
theorem dX9_goWay_85 : decode cX9_goWay 85 = .ok (.iaload, 1) := by decide +kernel
theorem dX9_goWay_86 : decode cX9_goWay 86 = .ok (.iload 6, 2) := by decide +kernel
theorem dX9_goWay_88 : decode cX9_goWay 88 = .ok (.ifCond .eq 7, 3) := by decide +kernel
theorem dX9_goWay_91 : decode cX9_goWay 91 = .ok (.iconst 1, 1) := by decide +kernel
theorem dX9_goWay_92 : decode cX9_goWay 92 = .ok (.goto 4, 3) := by decide +kernel
theorem dX9_goWay_95 : decode cX9_goWay 95 = .ok (.iconst 0, 1) := by decide +kernel
theorem dX9_goWay_96 : decode cX9_goWay 96 = .ok (.isub, 1) := by decide +kernel
theorem dX9_goWay_97 : decode cX9_goWay 97 = .ok (.iastore, 1) := by decide +kernel
theorem dX9_goWay_98 : decode cX9_goWay 98 = .ok (.iload 6, 2) := by decide +kernel
theorem dX9_goWay_100 : decode cX9_goWay 100 = .ok (.ifCond .eq 12, 3) := by decide +kernel
theorem dX9_goWay_103 : decode cX9_goWay 103 = .ok (.aload_n 0, 1) := by decide +kernel
theorem dX9_goWay_104 : decode cX9_goWay 104 = .ok (.getfield 13, 3) := by decide +kernel
theorem dX9_goWay_107 : decode cX9_goWay 107 = .ok (.iconst 1, 1) := by decide +kernel
theorem dX9_goWay_108 : decode cX9_goWay 108 = .ok (.isub, 1) := by decide +kernel
theorem dX9_goWay_109 : decode cX9_goWay 109 = .ok (.goto 7, 3) := by decide +kernel
theorem dX9_goWay_112 : decode cX9_goWay 112 = .ok (.iload 4, 2) := by decide +kernel
theorem dX9_goWay_114 : decode cX9_goWay 114 = .ok (.iconst 1, 1) := by decide +kernel
theorem dX9_goWay_115 : decode cX9_goWay 115 = .ok (.isub, 1) := by decide +kernel
theorem dX9_goWay_116 : decode cX9_goWay 116 = .ok (.istore 4, 2) := by decide +kernel
theorem dX9_goWay_118 : decode cX9_goWay 118 = .ok (.goto 167, 3) := by decide +kernel
theorem dX9_goWay_121 : decode cX9_goWay 121 = .ok (.iload_n 1, 1) := by decide +kernel
theorem dX9_goWay_122 : decode cX9_goWay 122 = .ok (.iconst 1, 1) := by decide +kernel
theorem dX9_goWay_123 : decode cX9_goWay 123 = .ok (.if_icmp .ne 77, 3) := by decide +kernel
theorem dX9_goWay_126 : decode cX9_goWay 126 = .ok (.iload 4, 2) := by decide +kernel
theorem dX9_goWay_128 : decode cX9_goWay 128 = .ok (.aload_n 0, 1) := by decide +kernel
theorem dX9_goWay_129 : decode cX9_goWay 129 = .ok (.getfield 13, 3) := by decide +kernel
theorem dX9_goWay_132 : decode cX9_goWay 132 = .ok (.iconst 1, 1) := by decide +kernel
theorem dX9_goWay_133 : decode cX9_goWay 133 = .ok (.isub, 1) := by decide +kernel
theorem dX9_goWay_134 : decode cX9_goWay 134 = .ok (.if_icmp .ne 7, 3) := by decide +kernel
theorem dX9_goWay_137 : decode cX9_goWay 137 = .ok (.iconst 1, 1) := by decide +kernel
theorem dX9_goWay_138 : decode cX9_goWay 138 = .ok (.goto 4, 3) := by decide +kernel
theorem dX9_goWay_141 : decode cX9_goWay 141 = .ok (.iconst 0, 1) := by decide +kernel
theorem dX9_goWay_142 : decode cX9_goWay 142 = .ok (.istore 6, 2) := by decide +kernel
theorem dX9_goWay_144 : decode cX9_goWay 144 = .ok (.iload 6, 2) := by decide +kernel
theorem dX9_goWay_146 : decode cX9_goWay 146 = .ok (.ifCond .eq 15, 3) := by decide +kernel
theorem dX9_goWay_149 : decode cX9_goWay 149 = .ok (.iload_n 3, 1) := by decide +kernel
theorem dX9_goWay_150 : decode cX9_goWay 150 = .ok (.iload 5, 2) := by decide +kernel
theorem dX9_goWay_152 : decode cX9_goWay 152 = .ok (.iadd, 1) := by decide +kernel
theorem dX9_goWay_153 : decode cX9_goWay 153 = .ok (.aload_n 0, 1) := by decide +kernel
theorem dX9_goWay_154 : decode cX9_goWay 154 = .ok (.getfield 17, 3) := by decide +kernel
theorem dX9_goWay_157 : decode cX9_goWay 157 = .ok (.irem, 1) := by decide +kernel
theorem dX9_goWay_158 : decode cX9_goWay 158 = .ok (.goto 4, 3) := by decide +kernel
theorem dX9_goWay_161 : decode cX9_goWay 161 = .ok (.iload_n 3, 1) := by decide +kernel
theorem dX9_goWay_162 : decode cX9_goWay 162 = .ok (.istore_n 3, 1) := by decide +kernel
theorem dX9_goWay_163 : decode cX9_goWay 163 = .ok (.aload_n 0, 1) := by decide +kernel
theorem dX9_goWay_164 : decode cX9_goWay 164 = .ok (.getfield 60, 3) := by decide +kernel
theorem dX9_goWay_167 : decode cX9_goWay 167 = .ok (.iconst 1, 1) := by decide +kernel
theorem dX9_goWay_168 : decode cX9_goWay 168 = .ok (.dup2, 1) := by decide +kernel
theorem dX9_goWay_169 : decode cX9_goWay 169 = .ok (.iaload, 1) := by decide +kernel
theorem dX9_goWay_170 : decode cX9_goWay 170 = .ok (.iload 6, 2) := by decide +kernel
theorem dX9_goWay_172 : decode cX9_goWay 172 = .ok (.ifCond .eq 7, 3) := by decide +kernel
theorem dX9_goWay_175 : decode cX9_goWay 175 = .ok (.iconst 1, 1) := by decide +kernel
theorem dX9_goWay_176 : decode cX9_goWay 176 = .ok (.goto 4, 3) := by decide +kernel
theorem dX9_goWay_179 : decode cX9_goWay 179 = .ok (.iconst 0, 1) := by decide +kernel
theorem dX9_goWay_180 : decode cX9_goWay 180 = .ok (.iadd, 1) := by decide +kernel
theorem dX9_goWay_181 : decode cX9_goWay 181 = .ok (.iastore, 1) := by decide +kernel
theorem dX9_goWay_182 : decode cX9_goWay 182 = .ok (.iload 6, 2) := by decide +kernel
theorem dX9_goWay_184 : decode cX9_goWay 184 = .ok (.ifCond .eq 7, 3) := by decide +kernel
theorem dX9_goWay_187 : decode cX9_goWay 187 = .ok (.iconst 0, 1) := by decide +kernel
theorem dX9_goWay_188 : decode cX9_goWay 188 = .ok (.goto 7, 3) := by decide +kernel
theorem dX9_goWay_191 : decode cX9_goWay 191 = .ok (.iload 4, 2) := by decide +kernel
theorem dX9_goWay_193 : decode cX9_goWay 193 = .ok (.iconst 1, 1) := by decide +kernel
theorem dX9_goWay_194 : decode cX9_goWay 194 = .ok (.iadd, 1) := by decide +kernel
theorem dX9_goWay_195 : decode cX9_goWay 195 = .ok (.istore 4, 2) := by decide +kernel
theorem dX9_goWay_197 : decode cX9_goWay 197 = .ok (.goto 88, 3) := by decide +kernel
theorem dX9_goWay_200 : decode cX9_goWay 200 = .ok (.iload_n 1, 1) := by decide +kernel
theorem dX9_goWay_201 : decode cX9_goWay 201 = .ok (.iconst 2, 1) := by decide +kernel
theorem dX9_goWay_202 : decode cX9_goWay 202 = .ok (.if_icmp .ne 41, 3) := by decide +kernel
theorem dX9_goWay_205 : decode cX9_goWay 205 = .ok (.aload_n 0, 1) := by decide +kernel
theorem dX9_goWay_206 : decode cX9_goWay 206 = .ok (.getfield 60, 3) := by decide +kernel
theorem dX9_goWay_209 : decode cX9_goWay 209 = .ok (.iconst 2, 1) := by decide +kernel
theorem dX9_goWay_210 : decode cX9_goWay 210 = .ok (.dup2, 1) := by decide +kernel
theorem dX9_goWay_211 : decode cX9_goWay 211 = .ok (.iaload, 1) := by decide +kernel
theorem dX9_goWay_212 : decode cX9_goWay 212 = .ok (.iload_n 3, 1) := by decide +kernel
theorem dX9_goWay_213 : decode cX9_goWay 213 = .ok (.ifCond .ne 7, 3) := by decide +kernel
theorem dX9_goWay_216 : decode cX9_goWay 216 = .ok (.iconst 1, 1) := by decide +kernel
theorem dX9_goWay_217 : decode cX9_goWay 217 = .ok (.goto 4, 3) := by decide +kernel
theorem dX9_goWay_220 : decode cX9_goWay 220 = .ok (.iconst 0, 1) := by decide +kernel
theorem dX9_goWay_221 : decode cX9_goWay 221 = .ok (.isub, 1) := by decide +kernel
theorem dX9_goWay_222 : decode cX9_goWay 222 = .ok (.iastore, 1) := by decide +kernel
theorem dX9_goWay_223 : decode cX9_goWay 223 = .ok (.iload_n 3, 1) := by decide +kernel
theorem dX9_goWay_224 : decode cX9_goWay 224 = .ok (.ifCond .ne 12, 3) := by decide +kernel
theorem dX9_goWay_227 : decode cX9_goWay 227 = .ok (.aload_n 0, 1) := by decide +kernel
theorem dX9_goWay_228 : decode cX9_goWay 228 = .ok (.getfield 17, 3) := by decide +kernel
theorem dX9_goWay_231 : decode cX9_goWay 231 = .ok (.iconst 1, 1) := by decide +kernel
theorem dX9_goWay_232 : decode cX9_goWay 232 = .ok (.isub, 1) := by decide +kernel
theorem dX9_goWay_233 : decode cX9_goWay 233 = .ok (.goto 6, 3) := by decide +kernel
theorem dX9_goWay_236 : decode cX9_goWay 236 = .ok (.iload_n 3, 1) := by decide +kernel
theorem dX9_goWay_237 : decode cX9_goWay 237 = .ok (.iconst 1, 1) := by decide +kernel
theorem dX9_goWay_238 : decode cX9_goWay 238 = .ok (.isub, 1) := by decide +kernel
theorem dX9_goWay_239 : decode cX9_goWay 239 = .ok (.istore_n 3, 1) := by decide +kernel
theorem dX9_goWay_240 : decode cX9_goWay 240 = .ok (.goto 45, 3) := by decide +kernel
theorem dX9_goWay_243 : decode cX9_goWay 243 = .ok (.aload_n 0, 1) := by decide +kernel
theorem dX9_goWay_244 : decode cX9_goWay 244 = .ok (.getfield 60, 3) := by decide +kernel
theorem dX9_goWay_247 : decode cX9_goWay 247 = .ok (.iconst 2, 1) := by decide +kernel
theorem dX9_goWay_248 : decode cX9_goWay 248 = .ok (.dup2, 1) := by decide +kernel
theorem dX9_goWay_249 : decode cX9_goWay 249 = .ok (.iaload, 1) := by decide +kernel
theorem dX9_goWay_250 : decode cX9_goWay 250 = .ok (.iload_n 3, 1) := by decide +kernel
theorem dX9_goWay_251 : decode cX9_goWay 251 = .ok (.aload_n 0, 1) := by decide +kernel
theorem dX9_goWay_252 : decode cX9_goWay 252 = .ok (.getfield 17, 3) := by decide +kernel
theorem dX9_goWay_255 : decode cX9_goWay 255 = .ok (.iconst 1, 1) := by decide +kernel
theorem dX9_goWay_256 : decode cX9_goWay 256 = .ok (.isub, 1) := by decide +kernel
theorem dX9_goWay_257 : decode cX9_goWay 257 = .ok (.if_icmp .ne 7, 3) := by decide +kernel
theorem dX9_goWay_260 : decode cX9_goWay 260 = .ok (.iconst 1, 1) := by decide +kernel
theorem dX9_goWay_261 : decode cX9_goWay 261 = .ok (.goto 4, 3) := by decide +kernel
theorem dX9_goWay_264 : decode cX9_goWay 264 = .ok (.iconst 0, 1) := by decide +kernel
theorem dX9_goWay_265 : decode cX9_goWay 265 = .ok (.iadd, 1) := by decide +kernel
theorem dX9_goWay_266 : decode cX9_goWay 266 = .ok (.iastore, 1) := by decide +kernel
theorem dX9_goWay_267 : decode cX9_goWay 267 = .ok (.iload_n 3, 1) := by decide +kernel
theorem dX9_goWay_268 : decode cX9_goWay 268 = .ok (.aload_n 0, 1) := by decide +kernel
theorem dX9_goWay_269 : decode cX9_goWay 269 = .ok (.getfield 17, 3) := by decide +kernel
theorem dX9_goWay_272 : decode cX9_goWay 272 = .ok (.iconst 1, 1) := by decide +kernel
theorem dX9_goWay_273 : decode cX9_goWay 273 = .ok (.isub, 1) := by decide +kernel
theorem dX9_goWay_274 : decode cX9_goWay 274 = .ok (.if_icmp .ne 7, 3) := by decide +kernel
theorem dX9_goWay_277 : decode cX9_goWay 277 = .ok (.iconst 0, 1) := by decide +kernel
theorem dX9_goWay_278 : decode cX9_goWay 278 = .ok (.goto 6, 3) := by decide +kernel
theorem dX9_goWay_281 : decode cX9_goWay 281 = .ok (.iload_n 3, 1) := by decide +kernel
theorem dX9_goWay_282 : decode cX9_goWay 282 = .ok (.iconst 1, 1) := by decide +kernel
theorem dX9_goWay_283 : decode cX9_goWay 283 = .ok (.iadd, 1) := by decide +kernel
theorem dX9_goWay_284 : decode cX9_goWay 284 = .ok (.istore_n 3, 1) := by decide +kernel
theorem dX9_goWay_285 : decode cX9_goWay 285 = .ok (.aload_n 0, 1) := by decide +kernel
theorem dX9_goWay_286 : decode cX9_goWay 286 = .ok (.getfield 60, 3) := by decide +kernel
theorem dX9_goWay_289 : decode cX9_goWay 289 = .ok (.iconst 0, 1) := by decide +kernel
theorem dX9_goWay_290 : decode cX9_goWay 290 = .ok (.iload_n 3, 1) := by decide +kernel
theorem dX9_goWay_291 : decode cX9_goWay 291 = .ok (.aload_n 0, 1) := by decide +kernel
theorem dX9_goWay_292 : decode cX9_goWay 292 = .ok (.getfield 13, 3) := by decide +kernel
theorem dX9_goWay_295 : decode cX9_goWay 295 = .ok (.imul, 1) := by decide +kernel
theorem dX9_goWay_296 : decode cX9_goWay 296 = .ok (.iload 4, 2) := by decide +kernel
theorem dX9_goWay_298 : decode cX9_goWay 298 = .ok (.iadd, 1) := by decide +kernel
theorem dX9_goWay_299 : decode cX9_goWay 299 = .ok (.iastore, 1) := by decide +kernel
theorem dX9_goWay_300 : decode cX9_goWay 300 = .ok (.return_, 1) := by decide +kernel
theorem dX9_isThere_0 : decode cX9_isThere 0 = .ok (.aload_n 0, 1) := by decide +kernel
theorem dX9_isThere_1 : decode cX9_isThere 1 = .ok (.getfield 60, 3) := by decide +kernel
theorem dX9_isThere_4 : decode cX9_isThere 4 = .ok (.iconst 1, 1) := by decide +kernel
theorem dX9_isThere_5 : decode cX9_isThere 5 = .ok (.iaload, 1) := by decide +kernel
theorem dX9_isThere_6 : decode cX9_isThere 6 = .ok (.i2l, 1) := by decide +kernel
theorem dX9_isThere_7 : decode cX9_isThere 7 = .ok (.lconst 0, 1) := by decide +kernel
theorem dX9_isThere_8 : decode cX9_isThere 8 = .ok (.ldc2_w 138, 3) := by decide +kernel
theorem dX9_isThere_11 : decode cX9_isThere 11 = .ok (.invokestatic 81, 3) := by decide +kernel
theorem dX9_isThere_14 : decode cX9_isThere 14 = .ok (.ifCond .eq 24, 3) := by decide +kernel
theorem dX9_isThere_17 : decode cX9_isThere 17 = .ok (.aload_n 0, 1) := by decide +kernel
theorem dX9_isThere_18 : decode cX9_isThere 18 = .ok (.getfield 60, 3) := by decide +kernel
theorem dX9_isThere_21 : decode cX9_isThere 21 = .ok (.iconst 2, 1) := by decide +kernel
theorem dX9_isThere_22 : decode cX9_isThere 22 = .ok (.iaload, 1) := by decide +kernel
theorem dX9_isThere_23 : decode cX9_isThere 23 = .ok (.i2l, 1) := by decide +kernel
theorem dX9_isThere_24 : decode cX9_isThere 24 = .ok (.lconst 0, 1) := by decide +kernel
theorem dX9_isThere_25 : decode cX9_isThere 25 = .ok (.ldc2_w 138, 3) := by decide +kernel
theorem dX9_isThere_28 : decode cX9_isThere 28 = .ok (.invokestatic 81, 3) := by decide +kernel
theorem dX9_isThere_31 : decode cX9_isThere 31 = .ok (.ifCond .eq 7, 3) := by decide +kernel
theorem dX9_isThere_34 : decode cX9_isThere 34 = .ok (.iconst 1, 1) := by decide +kernel
theorem dX9_isThere_35 : decode cX9_isThere 35 = .ok (.goto 4, 3) := by decide +kernel
theorem dX9_isThere_38 : decode cX9_isThere 38 = .ok (.iconst 0, 1) := by decide +kernel
theorem dX9_isThere_39 : decode cX9_isThere 39 = .ok (.ireturn, 1) := by decide +kernel
theorem dX9_cellBeside_0 : decode cX9_cellBeside 0 = .ok (.aload_n 0, 1) := by decide +kernel
theorem dX9_cellBeside_1 : decode cX9_cellBeside 1 = .ok (.getfield 60, 3) := by decide +kernel
theorem dX9_cellBeside_4 : decode cX9_cellBeside 4 = .ok (.iconst 0, 1) := by decide +kernel
theorem dX9_cellBeside_5 : decode cX9_cellBeside 5 = .ok (.iload_n 1, 1) := by decide +kernel
theorem dX9_cellBeside_6 : decode cX9_cellBeside 6 = .ok (.iastore, 1) := by decide +kernel
theorem dX9_cellBeside_7 : decode cX9_cellBeside 7 = .ok (.aload_n 0, 1) := by decide +kernel
theorem dX9_cellBeside_8 : decode cX9_cellBeside 8 = .ok (.getfield 60, 3) := by decide +kernel
theorem dX9_cellBeside_11 : decode cX9_cellBeside 11 = .ok (.iconst 1, 1) := by decide +kernel
theorem dX9_cellBeside_12 : decode cX9_cellBeside 12 = .ok (.iconst 3, 1) := by decide +kernel
theorem dX9_cellBeside_13 : decode cX9_cellBeside 13 = .ok (.iastore, 1) := by decide +kernel
theorem dX9_cellBeside_14 : decode cX9_cellBeside 14 = .ok (.aload_n 0, 1) := by decide +kernel
theorem dX9_cellBeside_15 : decode cX9_cellBeside 15 = .ok (.getfield 60, 3) := by decide +kernel
theorem dX9_cellBeside_18 : decode cX9_cellBeside 18 = .ok (.iconst 2, 1) := by decide +kernel
theorem dX9_cellBeside_19 : decode cX9_cellBeside 19 = .ok (.iconst 3, 1) := by decide +kernel
theorem dX9_cellBeside_20 : decode cX9_cellBeside 20 = .ok (.iastore, 1) := by decide +kernel
theorem dX9_cellBeside_21 : decode cX9_cellBeside 21 = .ok (.aload_n 0, 1) := by decide +kernel
theorem dX9_cellBeside_22 : decode cX9_cellBeside 22 = .ok (.iload_n 2, 1) := by decide +kernel
theorem dX9_cellBeside_23 : decode cX9_cellBeside 23 = .ok (.iload_n 3, 1) := by decide +kernel
theorem dX9_cellBeside_24 : decode cX9_cellBeside 24 = .ok (.invokevirtual 140, 3) := by decide +kernel
theorem dX9_cellBeside_27 : decode cX9_cellBeside 27 = .ok (.aload_n 0, 1) := by decide +kernel
theorem dX9_cellBeside_28 : decode cX9_cellBeside 28 = .ok (.getfield 60, 3) := by decide +kernel
theorem dX9_cellBeside_31 : decode cX9_cellBeside 31 = .ok (.iconst 0, 1) := by decide +kernel
theorem dX9_cellBeside_32 : decode cX9_cellBeside 32 = .ok (.iaload, 1) := by decide +kernel
theorem dX9_cellBeside_33 : decode cX9_cellBeside 33 = .ok (.ireturn, 1) := by decide +kernel
theorem dX9_canBe_0 : decode cX9_canBe 0 = .ok (.aload_n 0, 1) := by decide +kernel
theorem dX9_canBe_1 : decode cX9_canBe 1 = .ok (.aload_n 1, 1) := by decide +kernel
theorem dX9_canBe_2 : decode cX9_canBe 2 = .ok (.iload_n 3, 1) := by decide +kernel
theorem dX9_canBe_3 : decode cX9_canBe 3 = .ok (.invokevirtual 144, 3) := by decide +kernel
theorem dX9_canBe_6 : decode cX9_canBe 6 = .ok (.istore 4, 2) := by decide +kernel
theorem dX9_canBe_8 : decode cX9_canBe 8 = .ok (.aload_n 0, 1) := by decide +kernel
theorem dX9_canBe_9 : decode cX9_canBe 9 = .ok (.getfield 26, 3) := by decide +kernel
theorem dX9_canBe_12 : decode cX9_canBe 12 = .ok (.iload_n 2, 1) := by decide +kernel
theorem dX9_canBe_13 : decode cX9_canBe 13 = .ok (.iaload, 1) := by decide +kernel
theorem dX9_canBe_14 : decode cX9_canBe 14 = .ok (.iconst 1, 1) := by decide +kernel
theorem dX9_canBe_15 : decode cX9_canBe 15 = .ok (.if_icmp .eq 25, 3) := by decide +kernel
theorem dX9_canBe_18 : decode cX9_canBe 18 = .ok (.iload 4, 2) := by decide +kernel
theorem dX9_canBe_20 : decode cX9_canBe 20 = .ok (.iconst 1, 1) := by decide +kernel
theorem dX9_canBe_21 : decode cX9_canBe 21 = .ok (.if_icmp .eq 23, 3) := by decide +kernel
theorem dX9_canBe_24 : decode cX9_canBe 24 = .ok (.aload_n 0, 1) := by decide +kernel
theorem dX9_canBe_25 : decode cX9_canBe 25 = .ok (.getfield 26, 3) := by decide +kernel
theorem dX9_canBe_28 : decode cX9_canBe 28 = .ok (.iload_n 2, 1) := by decide +kernel
theorem dX9_canBe_29 : decode cX9_canBe 29 = .ok (.iaload, 1) := by decide +kernel
theorem dX9_canBe_30 : decode cX9_canBe 30 = .ok (.iconst 2, 1) := by decide +kernel
theorem dX9_canBe_31 : decode cX9_canBe 31 = .ok (.if_icmp .ne 9, 3) := by decide +kernel
theorem dX9_canBe_34 : decode cX9_canBe 34 = .ok (.iload 4, 2) := by decide +kernel
theorem dX9_canBe_36 : decode cX9_canBe 36 = .ok (.iconst 2, 1) := by decide +kernel
theorem dX9_canBe_37 : decode cX9_canBe 37 = .ok (.if_icmp .eq 7, 3) := by decide +kernel
theorem dX9_canBe_40 : decode cX9_canBe 40 = .ok (.iconst 1, 1) := by decide +kernel
theorem dX9_canBe_41 : decode cX9_canBe 41 = .ok (.goto 4, 3) := by decide +kernel
theorem dX9_canBe_44 : decode cX9_canBe 44 = .ok (.iconst 0, 1) := by decide +kernel
theorem dX9_canBe_45 : decode cX9_canBe 45 = .ok (.ireturn, 1) := by decide +kernel
theorem dX9_stand_0 : decode cX9_stand 0 = .ok (.aload_n 0, 1) := by decide +kernel
theorem dX9_stand_1 : decode cX9_stand 1 = .ok (.getfield 60, 3) := by decide +kernel
theorem dX9_stand_4 : decode cX9_stand 4 = .ok (.iconst 0, 1) := by decide +kernel
theorem dX9_stand_5 : decode cX9_stand 5 = .ok (.aload_n 1, 1) := by decide +kernel
theorem dX9_stand_6 : decode cX9_stand 6 = .ok (.iload_n 2, 1) := by decide +kernel
theorem dX9_stand_7 : decode cX9_stand 7 = .ok (.iaload, 1) := by decide +kernel
theorem dX9_stand_8 : decode cX9_stand 8 = .ok (.iastore, 1) := by decide +kernel
theorem dX9_stand_9 : decode cX9_stand 9 = .ok (.aload_n 0, 1) := by decide +kernel
theorem dX9_stand_10 : decode cX9_stand 10 = .ok (.getfield 60, 3) := by decide +kernel
theorem dX9_stand_13 : decode cX9_stand 13 = .ok (.iconst 1, 1) := by decide +kernel
theorem dX9_stand_14 : decode cX9_stand 14 = .ok (.aload_n 1, 1) := by decide +kernel
theorem dX9_stand_15 : decode cX9_stand 15 = .ok (.iconst 5, 1) := by decide +kernel
theorem dX9_stand_16 : decode cX9_stand 16 = .ok (.iload_n 2, 1) := by decide +kernel
theorem dX9_stand_17 : decode cX9_stand 17 = .ok (.iadd, 1) := by decide +kernel
theorem dX9_stand_18 : decode cX9_stand 18 = .ok (.iaload, 1) := by decide +kernel
theorem dX9_stand_19 : decode cX9_stand 19 = .ok (.iastore, 1) := by decide +kernel
theorem dX9_stand_20 : decode cX9_stand 20 = .ok (.aload_n 0, 1) := by decide +kernel
theorem dX9_stand_21 : decode cX9_stand 21 = .ok (.getfield 60, 3) := by decide +kernel
theorem dX9_stand_24 : decode cX9_stand 24 = .ok (.iconst 2, 1) := by decide +kernel
theorem dX9_stand_25 : decode cX9_stand 25 = .ok (.aload_n 1, 1) := by decide +kernel
theorem dX9_stand_26 : decode cX9_stand 26 = .ok (.bipush 10, 2) := by decide +kernel
theorem dX9_stand_28 : decode cX9_stand 28 = .ok (.iload_n 2, 1) := by decide +kernel
theorem dX9_stand_29 : decode cX9_stand 29 = .ok (.iadd, 1) := by decide +kernel
theorem dX9_stand_30 : decode cX9_stand 30 = .ok (.iaload, 1) := by decide +kernel
theorem dX9_stand_31 : decode cX9_stand 31 = .ok (.iastore, 1) := by decide +kernel
theorem dX9_stand_32 : decode cX9_stand 32 = .ok (.return_, 1) := by decide +kernel
theorem dX9_canGo_0 : decode cX9_canGo 0 = .ok (.aload_n 0, 1) := by decide +kernel
theorem dX9_canGo_1 : decode cX9_canGo 1 = .ok (.aload_n 1, 1) := by decide +kernel
theorem dX9_canGo_2 : decode cX9_canGo 2 = .ok (.iload_n 2, 1) := by decide +kernel
theorem dX9_canGo_3 : decode cX9_canGo 3 = .ok (.invokevirtual 148, 3) := by decide +kernel
theorem dX9_canGo_6 : decode cX9_canGo 6 = .ok (.aload_n 0, 1) := by decide +kernel
theorem dX9_canGo_7 : decode cX9_canGo 7 = .ok (.iload_n 3, 1) := by decide +kernel
theorem dX9_canGo_8 : decode cX9_canGo 8 = .ok (.aload_n 0, 1) := by decide +kernel
theorem dX9_canGo_9 : decode cX9_canGo 9 = .ok (.getfield 26, 3) := by decide +kernel
theorem dX9_canGo_12 : decode cX9_canGo 12 = .ok (.iload_n 2, 1) := by decide +kernel
theorem dX9_canGo_13 : decode cX9_canGo 13 = .ok (.iaload, 1) := by decide +kernel
theorem dX9_canGo_14 : decode cX9_canGo 14 = .ok (.iconst 3, 1) := by decide +kernel
theorem dX9_canGo_15 : decode cX9_canGo 15 = .ok (.if_icmp .ne 7, 3) := by decide +kernel
theorem dX9_canGo_18 : decode cX9_canGo 18 = .ok (.iconst 1, 1) := by decide +kernel
theorem dX9_canGo_19 : decode cX9_canGo 19 = .ok (.goto 4, 3) := by decide +kernel
theorem dX9_canGo_22 : decode cX9_canGo 22 = .ok (.iconst 0, 1) := by decide +kernel
theorem dX9_canGo_23 : decode cX9_canGo 23 = .ok (.invokevirtual 140, 3) := by decide +kernel
theorem dX9_canGo_26 : decode cX9_canGo 26 = .ok (.aload_n 0, 1) := by decide +kernel
theorem dX9_canGo_27 : decode cX9_canGo 27 = .ok (.invokevirtual 152, 3) := by decide +kernel
theorem dX9_canGo_30 : decode cX9_canGo 30 = .ok (.ifCond .eq 22, 3) := by decide +kernel
theorem dX9_canGo_33 : decode cX9_canGo 33 = .ok (.aload_n 0, 1) := by decide +kernel
theorem dX9_canGo_34 : decode cX9_canGo 34 = .ok (.aload_n 1, 1) := by decide +kernel
theorem dX9_canGo_35 : decode cX9_canGo 35 = .ok (.iload_n 2, 1) := by decide +kernel
theorem dX9_canGo_36 : decode cX9_canGo 36 = .ok (.aload_n 0, 1) := by decide +kernel
theorem dX9_canGo_37 : decode cX9_canGo 37 = .ok (.getfield 60, 3) := by decide +kernel
theorem dX9_canGo_40 : decode cX9_canGo 40 = .ok (.iconst 0, 1) := by decide +kernel
theorem dX9_canGo_41 : decode cX9_canGo 41 = .ok (.iaload, 1) := by decide +kernel
theorem dX9_canGo_42 : decode cX9_canGo 42 = .ok (.invokevirtual 155, 3) := by decide +kernel
theorem dX9_canGo_45 : decode cX9_canGo 45 = .ok (.ifCond .eq 7, 3) := by decide +kernel
theorem dX9_canGo_48 : decode cX9_canGo 48 = .ok (.iconst 1, 1) := by decide +kernel
theorem dX9_canGo_49 : decode cX9_canGo 49 = .ok (.goto 4, 3) := by decide +kernel
theorem dX9_canGo_52 : decode cX9_canGo 52 = .ok (.iconst 0, 1) := by decide +kernel
theorem dX9_canGo_53 : decode cX9_canGo 53 = .ok (.ireturn, 1) := by decide +kernel
theorem dX9_goStep_0 : decode cX9_goStep 0 = .ok (.aload_n 0, 1) := by decide +kernel
theorem dX9_goStep_1 : decode cX9_goStep 1 = .ok (.aload_n 1, 1) := by decide +kernel
theorem dX9_goStep_2 : decode cX9_goStep 2 = .ok (.iload_n 2, 1) := by decide +kernel
theorem dX9_goStep_3 : decode cX9_goStep 3 = .ok (.iload_n 3, 1) := by decide +kernel
theorem dX9_goStep_4 : decode cX9_goStep 4 = .ok (.invokevirtual 159, 3) := by decide +kernel
theorem dX9_goStep_7 : decode cX9_goStep 7 = .ok (.istore 4, 2) := by decide +kernel
theorem dX9_goStep_9 : decode cX9_goStep 9 = .ok (.iload 4, 2) := by decide +kernel
theorem dX9_goStep_11 : decode cX9_goStep 11 = .ok (.ifCond .eq 35, 3) := by decide +kernel
theorem dX9_goStep_14 : decode cX9_goStep 14 = .ok (.aload_n 1, 1) := by decide +kernel
theorem dX9_goStep_15 : decode cX9_goStep 15 = .ok (.iload_n 2, 1) := by decide +kernel
theorem dX9_goStep_16 : decode cX9_goStep 16 = .ok (.aload_n 0, 1) := by decide +kernel
theorem dX9_goStep_17 : decode cX9_goStep 17 = .ok (.getfield 60, 3) := by decide +kernel
theorem dX9_goStep_20 : decode cX9_goStep 20 = .ok (.iconst 0, 1) := by decide +kernel
theorem dX9_goStep_21 : decode cX9_goStep 21 = .ok (.iaload, 1) := by decide +kernel
theorem dX9_goStep_22 : decode cX9_goStep 22 = .ok (.iastore, 1) := by decide +kernel
theorem dX9_goStep_23 : decode cX9_goStep 23 = .ok (.aload_n 1, 1) := by decide +kernel
theorem dX9_goStep_24 : decode cX9_goStep 24 = .ok (.iconst 5, 1) := by decide +kernel
theorem dX9_goStep_25 : decode cX9_goStep 25 = .ok (.iload_n 2, 1) := by decide +kernel
theorem dX9_goStep_26 : decode cX9_goStep 26 = .ok (.iadd, 1) := by decide +kernel
theorem dX9_goStep_27 : decode cX9_goStep 27 = .ok (.aload_n 0, 1) := by decide +kernel
theorem dX9_goStep_28 : decode cX9_goStep 28 = .ok (.getfield 60, 3) := by decide +kernel
theorem dX9_goStep_31 : decode cX9_goStep 31 = .ok (.iconst 1, 1) := by decide +kernel
theorem dX9_goStep_32 : decode cX9_goStep 32 = .ok (.iaload, 1) := by decide +kernel
theorem dX9_goStep_33 : decode cX9_goStep 33 = .ok (.iastore, 1) := by decide +kernel
theorem dX9_goStep_34 : decode cX9_goStep 34 = .ok (.aload_n 1, 1) := by decide +kernel
theorem dX9_goStep_35 : decode cX9_goStep 35 = .ok (.bipush 10, 2) := by decide +kernel
theorem dX9_goStep_37 : decode cX9_goStep 37 = .ok (.iload_n 2, 1) := by decide +kernel
theorem dX9_goStep_38 : decode cX9_goStep 38 = .ok (.iadd, 1) := by decide +kernel
theorem dX9_goStep_39 : decode cX9_goStep 39 = .ok (.aload_n 0, 1) := by decide +kernel
theorem dX9_goStep_40 : decode cX9_goStep 40 = .ok (.getfield 60, 3) := by decide +kernel
theorem dX9_goStep_43 : decode cX9_goStep 43 = .ok (.iconst 2, 1) := by decide +kernel
theorem dX9_goStep_44 : decode cX9_goStep 44 = .ok (.iaload, 1) := by decide +kernel
theorem dX9_goStep_45 : decode cX9_goStep 45 = .ok (.iastore, 1) := by decide +kernel
theorem dX9_goStep_46 : decode cX9_goStep 46 = .ok (.iload 4, 2) := by decide +kernel
theorem dX9_goStep_48 : decode cX9_goStep 48 = .ok (.ireturn, 1) := by decide +kernel
theorem dX9_isHome_0 : decode cX9_isHome 0 = .ok (.aload_n 1, 1) := by decide +kernel
theorem dX9_isHome_1 : decode cX9_isHome 1 = .ok (.iload_n 2, 1) := by decide +kernel
theorem dX9_isHome_2 : decode cX9_isHome 2 = .ok (.iaload, 1) := by decide +kernel
theorem dX9_isHome_3 : decode cX9_isHome 3 = .ok (.aload_n 0, 1) := by decide +kernel
theorem dX9_isHome_4 : decode cX9_isHome 4 = .ok (.getfield 23, 3) := by decide +kernel
theorem dX9_isHome_7 : decode cX9_isHome 7 = .ok (.iload_n 2, 1) := by decide +kernel
theorem dX9_isHome_8 : decode cX9_isHome 8 = .ok (.iaload, 1) := by decide +kernel
theorem dX9_isHome_9 : decode cX9_isHome 9 = .ok (.if_icmp .ne 26, 3) := by decide +kernel
theorem dX9_isHome_12 : decode cX9_isHome 12 = .ok (.aload_n 1, 1) := by decide +kernel
theorem dX9_isHome_13 : decode cX9_isHome 13 = .ok (.iconst 5, 1) := by decide +kernel
theorem dX9_isHome_14 : decode cX9_isHome 14 = .ok (.iload_n 2, 1) := by decide +kernel
theorem dX9_isHome_15 : decode cX9_isHome 15 = .ok (.iadd, 1) := by decide +kernel
theorem dX9_isHome_16 : decode cX9_isHome 16 = .ok (.iaload, 1) := by decide +kernel
theorem dX9_isHome_17 : decode cX9_isHome 17 = .ok (.iconst 3, 1) := by decide +kernel
theorem dX9_isHome_18 : decode cX9_isHome 18 = .ok (.if_icmp .ne 17, 3) := by decide +kernel
theorem dX9_isHome_21 : decode cX9_isHome 21 = .ok (.aload_n 1, 1) := by decide +kernel
theorem dX9_isHome_22 : decode cX9_isHome 22 = .ok (.bipush 10, 2) := by decide +kernel
theorem dX9_isHome_24 : decode cX9_isHome 24 = .ok (.iload_n 2, 1) := by decide +kernel
theorem dX9_isHome_25 : decode cX9_isHome 25 = .ok (.iadd, 1) := by decide +kernel
theorem dX9_isHome_26 : decode cX9_isHome 26 = .ok (.iaload, 1) := by decide +kernel
theorem dX9_isHome_27 : decode cX9_isHome 27 = .ok (.iconst 3, 1) := by decide +kernel
theorem dX9_isHome_28 : decode cX9_isHome 28 = .ok (.if_icmp .ne 7, 3) := by decide +kernel
theorem dX9_isHome_31 : decode cX9_isHome 31 = .ok (.iconst 1, 1) := by decide +kernel
theorem dX9_isHome_32 : decode cX9_isHome 32 = .ok (.goto 4, 3) := by decide +kernel
theorem dX9_isHome_35 : decode cX9_isHome 35 = .ok (.iconst 0, 1) := by decide +kernel
theorem dX9_isHome_36 : decode cX9_isHome 36 = .ok (.ireturn, 1) := by decide +kernel
theorem dX9_homes_0 : decode cX9_homes 0 = .ok (.iconst 0, 1) := by decide +kernel
theorem dX9_homes_1 : decode cX9_homes 1 = .ok (.istore_n 2, 1) := by decide +kernel
theorem dX9_homes_2 : decode cX9_homes 2 = .ok (.iconst 0, 1) := by decide +kernel
theorem dX9_homes_3 : decode cX9_homes 3 = .ok (.istore_n 3, 1) := by decide +kernel
theorem dX9_homes_4 : decode cX9_homes 4 = .ok (.iload_n 3, 1) := by decide +kernel
theorem dX9_homes_5 : decode cX9_homes 5 = .ok (.aload_n 0, 1) := by decide +kernel
theorem dX9_homes_6 : decode cX9_homes 6 = .ok (.getfield 78, 3) := by decide +kernel
theorem dX9_homes_9 : decode cX9_homes 9 = .ok (.if_icmp .ge 28, 3) := by decide +kernel
theorem dX9_homes_12 : decode cX9_homes 12 = .ok (.iload_n 2, 1) := by decide +kernel
theorem dX9_homes_13 : decode cX9_homes 13 = .ok (.aload_n 0, 1) := by decide +kernel
theorem dX9_homes_14 : decode cX9_homes 14 = .ok (.aload_n 1, 1) := by decide +kernel
theorem dX9_homes_15 : decode cX9_homes 15 = .ok (.iload_n 3, 1) := by decide +kernel
theorem dX9_homes_16 : decode cX9_homes 16 = .ok (.invokevirtual 162, 3) := by decide +kernel
theorem dX9_homes_19 : decode cX9_homes 19 = .ok (.ifCond .eq 9, 3) := by decide +kernel
theorem dX9_homes_22 : decode cX9_homes 22 = .ok (.iconst 1, 1) := by decide +kernel
theorem dX9_homes_23 : decode cX9_homes 23 = .ok (.iload_n 3, 1) := by decide +kernel
theorem dX9_homes_24 : decode cX9_homes 24 = .ok (.ishl, 1) := by decide +kernel
theorem dX9_homes_25 : decode cX9_homes 25 = .ok (.goto 4, 3) := by decide +kernel
theorem dX9_homes_28 : decode cX9_homes 28 = .ok (.iconst 0, 1) := by decide +kernel
theorem dX9_homes_29 : decode cX9_homes 29 = .ok (.ior, 1) := by decide +kernel
theorem dX9_homes_30 : decode cX9_homes 30 = .ok (.istore_n 2, 1) := by decide +kernel
theorem dX9_homes_31 : decode cX9_homes 31 = .ok (.iinc 3 1, 3) := by decide +kernel
theorem dX9_homes_34 : decode cX9_homes 34 = .ok (.goto (-30), 3) := by decide +kernel
theorem dX9_homes_37 : decode cX9_homes 37 = .ok (.iload_n 2, 1) := by decide +kernel
theorem dX9_homes_38 : decode cX9_homes 38 = .ok (.ireturn, 1) := by decide +kernel
theorem dX9_away_0 : decode cX9_away 0 = .ok (.aload_n 0, 1) := by decide +kernel
theorem dX9_away_1 : decode cX9_away 1 = .ok (.getfield 78, 3) := by decide +kernel
theorem dX9_away_4 : decode cX9_away 4 = .ok (.aload_n 0, 1) := by decide +kernel
theorem dX9_away_5 : decode cX9_away 5 = .ok (.aload_n 1, 1) := by decide +kernel
theorem dX9_away_6 : decode cX9_away 6 = .ok (.invokevirtual 166, 3) := by decide +kernel
theorem dX9_away_9 : decode cX9_away 9 = .ok (.invokestatic 170, 3) := by decide +kernel
theorem dX9_away_12 : decode cX9_away 12 = .ok (.isub, 1) := by decide +kernel
theorem dX9_away_13 : decode cX9_away 13 = .ok (.ireturn, 1) := by decide +kernel
theorem dX9_cellsOf_0 : decode cX9_cellsOf 0 = .ok (.iconst 0, 1) := by decide +kernel
theorem dX9_cellsOf_1 : decode cX9_cellsOf 1 = .ok (.istore_n 2, 1) := by decide +kernel
theorem dX9_cellsOf_2 : decode cX9_cellsOf 2 = .ok (.iconst 0, 1) := by decide +kernel
theorem dX9_cellsOf_3 : decode cX9_cellsOf 3 = .ok (.istore_n 3, 1) := by decide +kernel
theorem dX9_cellsOf_4 : decode cX9_cellsOf 4 = .ok (.iload_n 3, 1) := by decide +kernel
theorem dX9_cellsOf_5 : decode cX9_cellsOf 5 = .ok (.aload_n 0, 1) := by decide +kernel
theorem dX9_cellsOf_6 : decode cX9_cellsOf 6 = .ok (.getfield 13, 3) := by decide +kernel
theorem dX9_cellsOf_9 : decode cX9_cellsOf 9 = .ok (.aload_n 0, 1) := by decide +kernel
theorem dX9_cellsOf_10 : decode cX9_cellsOf 10 = .ok (.getfield 17, 3) := by decide +kernel
theorem dX9_cellsOf_13 : decode cX9_cellsOf 13 = .ok (.imul, 1) := by decide +kernel
theorem dX9_cellsOf_14 : decode cX9_cellsOf 14 = .ok (.if_icmp .ge 32, 3) := by decide +kernel
theorem dX9_cellsOf_17 : decode cX9_cellsOf 17 = .ok (.iload_n 2, 1) := by decide +kernel
theorem dX9_cellsOf_18 : decode cX9_cellsOf 18 = .ok (.aload_n 0, 1) := by decide +kernel
theorem dX9_cellsOf_19 : decode cX9_cellsOf 19 = .ok (.aload_n 0, 1) := by decide +kernel
theorem dX9_cellsOf_20 : decode cX9_cellsOf 20 = .ok (.getfield 35, 3) := by decide +kernel
theorem dX9_cellsOf_23 : decode cX9_cellsOf 23 = .ok (.iload_n 3, 1) := by decide +kernel
theorem dX9_cellsOf_24 : decode cX9_cellsOf 24 = .ok (.invokevirtual 144, 3) := by decide +kernel
theorem dX9_cellsOf_27 : decode cX9_cellsOf 27 = .ok (.iload_n 1, 1) := by decide +kernel
theorem dX9_cellsOf_28 : decode cX9_cellsOf 28 = .ok (.if_icmp .ne 9, 3) := by decide +kernel
theorem dX9_cellsOf_31 : decode cX9_cellsOf 31 = .ok (.iconst 1, 1) := by decide +kernel
theorem dX9_cellsOf_32 : decode cX9_cellsOf 32 = .ok (.iload_n 3, 1) := by decide +kernel
theorem dX9_cellsOf_33 : decode cX9_cellsOf 33 = .ok (.ishl, 1) := by decide +kernel
theorem dX9_cellsOf_34 : decode cX9_cellsOf 34 = .ok (.goto 4, 3) := by decide +kernel
theorem dX9_cellsOf_37 : decode cX9_cellsOf 37 = .ok (.iconst 0, 1) := by decide +kernel
theorem dX9_cellsOf_38 : decode cX9_cellsOf 38 = .ok (.ior, 1) := by decide +kernel
theorem dX9_cellsOf_39 : decode cX9_cellsOf 39 = .ok (.istore_n 2, 1) := by decide +kernel
theorem dX9_cellsOf_40 : decode cX9_cellsOf 40 = .ok (.iinc 3 1, 3) := by decide +kernel
theorem dX9_cellsOf_43 : decode cX9_cellsOf 43 = .ok (.goto (-39), 3) := by decide +kernel
theorem dX9_cellsOf_46 : decode cX9_cellsOf 46 = .ok (.iload_n 2, 1) := by decide +kernel
theorem dX9_cellsOf_47 : decode cX9_cellsOf 47 = .ok (.ireturn, 1) := by decide +kernel
theorem dX9_about_0 : decode cX9_about 0 = .ok (.aload_n 0, 1) := by decide +kernel
theorem dX9_about_1 : decode cX9_about 1 = .ok (.iconst 0, 1) := by decide +kernel
theorem dX9_about_2 : decode cX9_about 2 = .ok (.putfield 75, 3) := by decide +kernel
theorem dX9_about_5 : decode cX9_about 5 = .ok (.iload_n 1, 1) := by decide +kernel
theorem dX9_about_6 : decode cX9_about 6 = .ok (.tableswitch 110 0 10 #[58, 63, 68, 73, 78, 78, 78, 86, 95, 100, 105], 58) := by decide +kernel
theorem dX9_about_64 : decode cX9_about 64 = .ok (.aload_n 0, 1) := by decide +kernel
theorem dX9_about_65 : decode cX9_about 65 = .ok (.getfield 13, 3) := by decide +kernel
theorem dX9_about_68 : decode cX9_about 68 = .ok (.ireturn, 1) := by decide +kernel
theorem dX9_about_69 : decode cX9_about 69 = .ok (.aload_n 0, 1) := by decide +kernel
theorem dX9_about_70 : decode cX9_about 70 = .ok (.getfield 17, 3) := by decide +kernel
theorem dX9_about_73 : decode cX9_about 73 = .ok (.ireturn, 1) := by decide +kernel
theorem dX9_about_74 : decode cX9_about 74 = .ok (.aload_n 0, 1) := by decide +kernel
theorem dX9_about_75 : decode cX9_about 75 = .ok (.getfield 128, 3) := by decide +kernel
theorem dX9_about_78 : decode cX9_about 78 = .ok (.ireturn, 1) := by decide +kernel
theorem dX9_about_79 : decode cX9_about 79 = .ok (.aload_n 0, 1) := by decide +kernel
theorem dX9_about_80 : decode cX9_about 80 = .ok (.getfield 78, 3) := by decide +kernel
theorem dX9_about_83 : decode cX9_about 83 = .ok (.ireturn, 1) := by decide +kernel
theorem dX9_about_84 : decode cX9_about 84 = .ok (.aload_n 0, 1) := by decide +kernel
theorem dX9_about_85 : decode cX9_about 85 = .ok (.iload_n 1, 1) := by decide +kernel
theorem dX9_about_86 : decode cX9_about 86 = .ok (.iconst 3, 1) := by decide +kernel
theorem dX9_about_87 : decode cX9_about 87 = .ok (.isub, 1) := by decide +kernel
theorem dX9_about_88 : decode cX9_about 88 = .ok (.invokevirtual 174, 3) := by decide +kernel
theorem dX9_about_91 : decode cX9_about 91 = .ok (.ireturn, 1) := by decide +kernel
theorem dX9_about_92 : decode cX9_about 92 = .ok (.aload_n 0, 1) := by decide +kernel
theorem dX9_about_93 : decode cX9_about 93 = .ok (.aload_n 0, 1) := by decide +kernel
theorem dX9_about_94 : decode cX9_about 94 = .ok (.getfield 35, 3) := by decide +kernel
theorem dX9_about_97 : decode cX9_about 97 = .ok (.invokevirtual 166, 3) := by decide +kernel
theorem dX9_about_100 : decode cX9_about 100 = .ok (.ireturn, 1) := by decide +kernel
theorem dX9_about_101 : decode cX9_about 101 = .ok (.aload_n 0, 1) := by decide +kernel
theorem dX9_about_102 : decode cX9_about 102 = .ok (.getfield 131, 3) := by decide +kernel
theorem dX9_about_105 : decode cX9_about 105 = .ok (.ireturn, 1) := by decide +kernel
theorem dX9_about_106 : decode cX9_about 106 = .ok (.aload_n 0, 1) := by decide +kernel
theorem dX9_about_107 : decode cX9_about 107 = .ok (.getfield 177, 3) := by decide +kernel
theorem dX9_about_110 : decode cX9_about 110 = .ok (.ireturn, 1) := by decide +kernel
theorem dX9_about_111 : decode cX9_about 111 = .ok (.aload_n 0, 1) := by decide +kernel
theorem dX9_about_112 : decode cX9_about 112 = .ok (.getfield 89, 3) := by decide +kernel
theorem dX9_about_115 : decode cX9_about 115 = .ok (.ireturn, 1) := by decide +kernel
theorem dX9_about_116 : decode cX9_about 116 = .ok (.bipush (-2), 2) := by decide +kernel
theorem dX9_about_118 : decode cX9_about 118 = .ok (.ireturn, 1) := by decide +kernel
theorem dX9_cell_0 : decode cX9_cell 0 = .ok (.aload_n 0, 1) := by decide +kernel
theorem dX9_cell_1 : decode cX9_cell 1 = .ok (.iconst 0, 1) := by decide +kernel
theorem dX9_cell_2 : decode cX9_cell 2 = .ok (.putfield 75, 3) := by decide +kernel
theorem dX9_cell_5 : decode cX9_cell 5 = .ok (.aload_n 0, 1) := by decide +kernel
theorem dX9_cell_6 : decode cX9_cell 6 = .ok (.iload_n 1, 1) := by decide +kernel
theorem dX9_cell_7 : decode cX9_cell 7 = .ok (.invokevirtual 180, 3) := by decide +kernel
theorem dX9_cell_10 : decode cX9_cell 10 = .ok (.ifCond .eq 7, 3) := by decide +kernel
theorem dX9_cell_13 : decode cX9_cell 13 = .ok (.iconst (-1), 1) := by decide +kernel
theorem dX9_cell_14 : decode cX9_cell 14 = .ok (.goto 12, 3) := by decide +kernel
theorem dX9_cell_17 : decode cX9_cell 17 = .ok (.aload_n 0, 1) := by decide +kernel
theorem dX9_cell_18 : decode cX9_cell 18 = .ok (.aload_n 0, 1) := by decide +kernel
theorem dX9_cell_19 : decode cX9_cell 19 = .ok (.getfield 35, 3) := by decide +kernel
theorem dX9_cell_22 : decode cX9_cell 22 = .ok (.iload_n 1, 1) := by decide +kernel
theorem dX9_cell_23 : decode cX9_cell 23 = .ok (.invokevirtual 144, 3) := by decide +kernel
theorem dX9_cell_26 : decode cX9_cell 26 = .ok (.ireturn, 1) := by decide +kernel
theorem dX9_beside_0 : decode cX9_beside 0 = .ok (.aload_n 0, 1) := by decide +kernel
theorem dX9_beside_1 : decode cX9_beside 1 = .ok (.iconst 0, 1) := by decide +kernel
theorem dX9_beside_2 : decode cX9_beside 2 = .ok (.putfield 75, 3) := by decide +kernel
theorem dX9_beside_5 : decode cX9_beside 5 = .ok (.aload_n 0, 1) := by decide +kernel
theorem dX9_beside_6 : decode cX9_beside 6 = .ok (.iload_n 1, 1) := by decide +kernel
theorem dX9_beside_7 : decode cX9_beside 7 = .ok (.invokevirtual 180, 3) := by decide +kernel
theorem dX9_beside_10 : decode cX9_beside 10 = .ok (.ifCond .eq 5, 3) := by decide +kernel
theorem dX9_beside_13 : decode cX9_beside 13 = .ok (.iconst (-1), 1) := by decide +kernel
theorem dX9_beside_14 : decode cX9_beside 14 = .ok (.ireturn, 1) := by decide +kernel
theorem dX9_beside_15 : decode cX9_beside 15 = .ok (.iload_n 2, 1) := by decide +kernel
theorem dX9_beside_16 : decode cX9_beside 16 = .ok (.invokestatic 184, 3) := by decide +kernel
theorem dX9_beside_19 : decode cX9_beside 19 = .ok (.ifCond .eq 8, 3) := by decide +kernel
theorem dX9_beside_22 : decode cX9_beside 22 = .ok (.bipush (-2), 2) := by decide +kernel
theorem dX9_beside_24 : decode cX9_beside 24 = .ok (.goto 10, 3) := by decide +kernel
theorem dX9_beside_27 : decode cX9_beside 27 = .ok (.aload_n 0, 1) := by decide +kernel
theorem dX9_beside_28 : decode cX9_beside 28 = .ok (.iload_n 1, 1) := by decide +kernel
theorem dX9_beside_29 : decode cX9_beside 29 = .ok (.iload_n 2, 1) := by decide +kernel
theorem dX9_beside_30 : decode cX9_beside 30 = .ok (.iload_n 3, 1) := by decide +kernel
theorem dX9_beside_31 : decode cX9_beside 31 = .ok (.invokevirtual 187, 3) := by decide +kernel
theorem dX9_beside_34 : decode cX9_beside 34 = .ok (.ireturn, 1) := by decide +kernel
theorem dX9_waysOf_0 : decode cX9_waysOf 0 = .ok (.iconst 0, 1) := by decide +kernel
theorem dX9_waysOf_1 : decode cX9_waysOf 1 = .ok (.istore_n 2, 1) := by decide +kernel
theorem dX9_waysOf_2 : decode cX9_waysOf 2 = .ok (.iconst 0, 1) := by decide +kernel
theorem dX9_waysOf_3 : decode cX9_waysOf 3 = .ok (.istore_n 3, 1) := by decide +kernel
theorem dX9_waysOf_4 : decode cX9_waysOf 4 = .ok (.iload_n 3, 1) := by decide +kernel
theorem dX9_waysOf_5 : decode cX9_waysOf 5 = .ok (.iconst 4, 1) := by decide +kernel
theorem dX9_waysOf_6 : decode cX9_waysOf 6 = .ok (.if_icmp .ge 32, 3) := by decide +kernel
theorem dX9_waysOf_9 : decode cX9_waysOf 9 = .ok (.iload_n 2, 1) := by decide +kernel
theorem dX9_waysOf_10 : decode cX9_waysOf 10 = .ok (.aload_n 0, 1) := by decide +kernel
theorem dX9_waysOf_11 : decode cX9_waysOf 11 = .ok (.aload_n 0, 1) := by decide +kernel
theorem dX9_waysOf_12 : decode cX9_waysOf 12 = .ok (.getfield 35, 3) := by decide +kernel
theorem dX9_waysOf_15 : decode cX9_waysOf 15 = .ok (.iload_n 1, 1) := by decide +kernel
theorem dX9_waysOf_16 : decode cX9_waysOf 16 = .ok (.iload_n 3, 1) := by decide +kernel
theorem dX9_waysOf_17 : decode cX9_waysOf 17 = .ok (.invokevirtual 159, 3) := by decide +kernel
theorem dX9_waysOf_20 : decode cX9_waysOf 20 = .ok (.ifCond .eq 9, 3) := by decide +kernel
theorem dX9_waysOf_23 : decode cX9_waysOf 23 = .ok (.iconst 1, 1) := by decide +kernel
theorem dX9_waysOf_24 : decode cX9_waysOf 24 = .ok (.iload_n 3, 1) := by decide +kernel
theorem dX9_waysOf_25 : decode cX9_waysOf 25 = .ok (.ishl, 1) := by decide +kernel
theorem dX9_waysOf_26 : decode cX9_waysOf 26 = .ok (.goto 4, 3) := by decide +kernel
theorem dX9_waysOf_29 : decode cX9_waysOf 29 = .ok (.iconst 0, 1) := by decide +kernel
theorem dX9_waysOf_30 : decode cX9_waysOf 30 = .ok (.ior, 1) := by decide +kernel
theorem dX9_waysOf_31 : decode cX9_waysOf 31 = .ok (.istore_n 2, 1) := by decide +kernel
theorem dX9_waysOf_32 : decode cX9_waysOf 32 = .ok (.iinc 3 1, 3) := by decide +kernel
theorem dX9_waysOf_35 : decode cX9_waysOf 35 = .ok (.goto (-31), 3) := by decide +kernel
theorem dX9_waysOf_38 : decode cX9_waysOf 38 = .ok (.iload_n 2, 1) := by decide +kernel
theorem dX9_waysOf_39 : decode cX9_waysOf 39 = .ok (.ireturn, 1) := by decide +kernel
theorem dX9_boy_0 : decode cX9_boy 0 = .ok (.aload_n 0, 1) := by decide +kernel
theorem dX9_boy_1 : decode cX9_boy 1 = .ok (.iconst 0, 1) := by decide +kernel
theorem dX9_boy_2 : decode cX9_boy 2 = .ok (.putfield 75, 3) := by decide +kernel
theorem dX9_boy_5 : decode cX9_boy 5 = .ok (.aload_n 0, 1) := by decide +kernel
theorem dX9_boy_6 : decode cX9_boy 6 = .ok (.iload_n 1, 1) := by decide +kernel
theorem dX9_boy_7 : decode cX9_boy 7 = .ok (.invokevirtual 191, 3) := by decide +kernel
theorem dX9_boy_10 : decode cX9_boy 10 = .ok (.ifCond .eq 5, 3) := by decide +kernel
theorem dX9_boy_13 : decode cX9_boy 13 = .ok (.iconst (-1), 1) := by decide +kernel
theorem dX9_boy_14 : decode cX9_boy 14 = .ok (.ireturn, 1) := by decide +kernel
theorem dX9_boy_15 : decode cX9_boy 15 = .ok (.iload_n 2, 1) := by decide +kernel
theorem dX9_boy_16 : decode cX9_boy 16 = .ok (.tableswitch 86 0 5 #[40, 47, 54, 61, 70, 80], 40) := by decide +kernel
theorem dX9_boy_56 : decode cX9_boy 56 = .ok (.aload_n 0, 1) := by decide +kernel
theorem dX9_boy_57 : decode cX9_boy 57 = .ok (.getfield 35, 3) := by decide +kernel
theorem dX9_boy_60 : decode cX9_boy 60 = .ok (.iload_n 1, 1) := by decide +kernel
theorem dX9_boy_61 : decode cX9_boy 61 = .ok (.iaload, 1) := by decide +kernel
theorem dX9_boy_62 : decode cX9_boy 62 = .ok (.ireturn, 1) := by decide +kernel
theorem dX9_boy_63 : decode cX9_boy 63 = .ok (.aload_n 0, 1) := by decide +kernel
theorem dX9_boy_64 : decode cX9_boy 64 = .ok (.getfield 26, 3) := by decide +kernel
theorem dX9_boy_67 : decode cX9_boy 67 = .ok (.iload_n 1, 1) := by decide +kernel
theorem dX9_boy_68 : decode cX9_boy 68 = .ok (.iaload, 1) := by decide +kernel
theorem dX9_boy_69 : decode cX9_boy 69 = .ok (.ireturn, 1) := by decide +kernel
theorem dX9_boy_70 : decode cX9_boy 70 = .ok (.aload_n 0, 1) := by decide +kernel
theorem dX9_boy_71 : decode cX9_boy 71 = .ok (.getfield 23, 3) := by decide +kernel
theorem dX9_boy_74 : decode cX9_boy 74 = .ok (.iload_n 1, 1) := by decide +kernel
theorem dX9_boy_75 : decode cX9_boy 75 = .ok (.iaload, 1) := by decide +kernel
theorem dX9_boy_76 : decode cX9_boy 76 = .ok (.ireturn, 1) := by decide +kernel
theorem dX9_boy_77 : decode cX9_boy 77 = .ok (.aload_n 0, 1) := by decide +kernel
theorem dX9_boy_78 : decode cX9_boy 78 = .ok (.getfield 35, 3) := by decide +kernel
theorem dX9_boy_81 : decode cX9_boy 81 = .ok (.iconst 5, 1) := by decide +kernel
theorem dX9_boy_82 : decode cX9_boy 82 = .ok (.iload_n 1, 1) := by decide +kernel
theorem dX9_boy_83 : decode cX9_boy 83 = .ok (.iadd, 1) := by decide +kernel
theorem dX9_boy_84 : decode cX9_boy 84 = .ok (.iaload, 1) := by decide +kernel
theorem dX9_boy_85 : decode cX9_boy 85 = .ok (.ireturn, 1) := by decide +kernel
theorem dX9_boy_86 : decode cX9_boy 86 = .ok (.aload_n 0, 1) := by decide +kernel
theorem dX9_boy_87 : decode cX9_boy 87 = .ok (.getfield 35, 3) := by decide +kernel
theorem dX9_boy_90 : decode cX9_boy 90 = .ok (.bipush 10, 2) := by decide +kernel
theorem dX9_boy_92 : decode cX9_boy 92 = .ok (.iload_n 1, 1) := by decide +kernel
theorem dX9_boy_93 : decode cX9_boy 93 = .ok (.iadd, 1) := by decide +kernel
theorem dX9_boy_94 : decode cX9_boy 94 = .ok (.iaload, 1) := by decide +kernel
theorem dX9_boy_95 : decode cX9_boy 95 = .ok (.ireturn, 1) := by decide +kernel
theorem dX9_boy_96 : decode cX9_boy 96 = .ok (.aload_n 0, 1) := by decide +kernel
theorem dX9_boy_97 : decode cX9_boy 97 = .ok (.iload_n 1, 1) := by decide +kernel
theorem dX9_boy_98 : decode cX9_boy 98 = .ok (.invokevirtual 194, 3) := by decide +kernel
theorem dX9_boy_101 : decode cX9_boy 101 = .ok (.ireturn, 1) := by decide +kernel
theorem dX9_boy_102 : decode cX9_boy 102 = .ok (.bipush (-2), 2) := by decide +kernel
theorem dX9_boy_104 : decode cX9_boy 104 = .ok (.ireturn, 1) := by decide +kernel
theorem dX9_note_0 : decode cX9_note 0 = .ok (.aload_n 0, 1) := by decide +kernel
theorem dX9_note_1 : decode cX9_note 1 = .ok (.getfield 131, 3) := by decide +kernel
theorem dX9_note_4 : decode cX9_note 4 = .ok (.bipush 14, 2) := by decide +kernel
theorem dX9_note_6 : decode cX9_note 6 = .ok (.if_icmp .ne 43, 3) := by decide +kernel
theorem dX9_note_9 : decode cX9_note 9 = .ok (.iconst 0, 1) := by decide +kernel
theorem dX9_note_10 : decode cX9_note 10 = .ok (.istore_n 1, 1) := by decide +kernel
theorem dX9_note_11 : decode cX9_note 11 = .ok (.iload_n 1, 1) := by decide +kernel
theorem dX9_note_12 : decode cX9_note 12 = .ok (.sipush 208, 3) := by decide +kernel
theorem dX9_note_15 : decode cX9_note 15 = .ok (.if_icmp .ge 24, 3) := by decide +kernel
theorem dX9_note_18 : decode cX9_note 18 = .ok (.aload_n 0, 1) := by decide +kernel
theorem dX9_note_19 : decode cX9_note 19 = .ok (.getfield 41, 3) := by decide +kernel
theorem dX9_note_22 : decode cX9_note 22 = .ok (.iload_n 1, 1) := by decide +kernel
theorem dX9_note_23 : decode cX9_note 23 = .ok (.aload_n 0, 1) := by decide +kernel
theorem dX9_note_24 : decode cX9_note 24 = .ok (.getfield 41, 3) := by decide +kernel
theorem dX9_note_27 : decode cX9_note 27 = .ok (.iload_n 1, 1) := by decide +kernel
theorem dX9_note_28 : decode cX9_note 28 = .ok (.bipush 16, 2) := by decide +kernel
theorem dX9_note_30 : decode cX9_note 30 = .ok (.iadd, 1) := by decide +kernel
theorem dX9_note_31 : decode cX9_note 31 = .ok (.iaload, 1) := by decide +kernel
theorem dX9_note_32 : decode cX9_note 32 = .ok (.iastore, 1) := by decide +kernel
theorem dX9_note_33 : decode cX9_note 33 = .ok (.iinc 1 1, 3) := by decide +kernel
theorem dX9_note_36 : decode cX9_note 36 = .ok (.goto (-25), 3) := by decide +kernel
theorem dX9_note_39 : decode cX9_note 39 = .ok (.aload_n 0, 1) := by decide +kernel
theorem dX9_note_40 : decode cX9_note 40 = .ok (.dup, 1) := by decide +kernel
theorem dX9_note_41 : decode cX9_note 41 = .ok (.getfield 131, 3) := by decide +kernel
theorem dX9_note_44 : decode cX9_note 44 = .ok (.iconst 1, 1) := by decide +kernel
theorem dX9_note_45 : decode cX9_note 45 = .ok (.isub, 1) := by decide +kernel
theorem dX9_note_46 : decode cX9_note 46 = .ok (.putfield 131, 3) := by decide +kernel
theorem dX9_note_49 : decode cX9_note 49 = .ok (.iconst 0, 1) := by decide +kernel
theorem dX9_note_50 : decode cX9_note 50 = .ok (.istore_n 1, 1) := by decide +kernel
theorem dX9_note_51 : decode cX9_note 51 = .ok (.iload_n 1, 1) := by decide +kernel
theorem dX9_note_52 : decode cX9_note 52 = .ok (.bipush 16, 2) := by decide +kernel
theorem dX9_note_54 : decode cX9_note 54 = .ok (.if_icmp .ge 29, 3) := by decide +kernel
theorem dX9_note_57 : decode cX9_note 57 = .ok (.aload_n 0, 1) := by decide +kernel
theorem dX9_note_58 : decode cX9_note 58 = .ok (.getfield 41, 3) := by decide +kernel
theorem dX9_note_61 : decode cX9_note 61 = .ok (.bipush 16, 2) := by decide +kernel
theorem dX9_note_63 : decode cX9_note 63 = .ok (.aload_n 0, 1) := by decide +kernel
theorem dX9_note_64 : decode cX9_note 64 = .ok (.getfield 131, 3) := by decide +kernel
theorem dX9_note_67 : decode cX9_note 67 = .ok (.imul, 1) := by decide +kernel
theorem dX9_note_68 : decode cX9_note 68 = .ok (.iload_n 1, 1) := by decide +kernel
theorem dX9_note_69 : decode cX9_note 69 = .ok (.iadd, 1) := by decide +kernel
theorem dX9_note_70 : decode cX9_note 70 = .ok (.aload_n 0, 1) := by decide +kernel
theorem dX9_note_71 : decode cX9_note 71 = .ok (.getfield 35, 3) := by decide +kernel
theorem dX9_note_74 : decode cX9_note 74 = .ok (.iload_n 1, 1) := by decide +kernel
theorem dX9_note_75 : decode cX9_note 75 = .ok (.iaload, 1) := by decide +kernel
theorem dX9_note_76 : decode cX9_note 76 = .ok (.iastore, 1) := by decide +kernel
theorem dX9_note_77 : decode cX9_note 77 = .ok (.iinc 1 1, 3) := by decide +kernel
theorem dX9_note_80 : decode cX9_note 80 = .ok (.goto (-29), 3) := by decide +kernel
theorem dX9_note_83 : decode cX9_note 83 = .ok (.aload_n 0, 1) := by decide +kernel
theorem dX9_note_84 : decode cX9_note 84 = .ok (.dup, 1) := by decide +kernel
theorem dX9_note_85 : decode cX9_note 85 = .ok (.getfield 131, 3) := by decide +kernel
theorem dX9_note_88 : decode cX9_note 88 = .ok (.iconst 1, 1) := by decide +kernel
theorem dX9_note_89 : decode cX9_note 89 = .ok (.iadd, 1) := by decide +kernel
theorem dX9_note_90 : decode cX9_note 90 = .ok (.putfield 131, 3) := by decide +kernel
theorem dX9_note_93 : decode cX9_note 93 = .ok (.return_, 1) := by decide +kernel
theorem dX9_step_0 : decode cX9_step 0 = .ok (.aload_n 0, 1) := by decide +kernel
theorem dX9_step_1 : decode cX9_step 1 = .ok (.iconst 0, 1) := by decide +kernel
theorem dX9_step_2 : decode cX9_step 2 = .ok (.putfield 75, 3) := by decide +kernel
theorem dX9_step_5 : decode cX9_step 5 = .ok (.aload_n 0, 1) := by decide +kernel
theorem dX9_step_6 : decode cX9_step 6 = .ok (.iload_n 1, 1) := by decide +kernel
theorem dX9_step_7 : decode cX9_step 7 = .ok (.invokevirtual 191, 3) := by decide +kernel
theorem dX9_step_10 : decode cX9_step 10 = .ok (.ifCond .eq 5, 3) := by decide +kernel
theorem dX9_step_13 : decode cX9_step 13 = .ok (.iconst (-1), 1) := by decide +kernel
theorem dX9_step_14 : decode cX9_step 14 = .ok (.ireturn, 1) := by decide +kernel
theorem dX9_step_15 : decode cX9_step 15 = .ok (.iload_n 2, 1) := by decide +kernel
theorem dX9_step_16 : decode cX9_step 16 = .ok (.invokestatic 184, 3) := by decide +kernel
theorem dX9_step_19 : decode cX9_step 19 = .ok (.ifCond .eq 6, 3) := by decide +kernel
theorem dX9_step_22 : decode cX9_step 22 = .ok (.bipush (-2), 2) := by decide +kernel
theorem dX9_step_24 : decode cX9_step 24 = .ok (.ireturn, 1) := by decide +kernel
theorem dX9_step_25 : decode cX9_step 25 = .ok (.aload_n 0, 1) := by decide +kernel
theorem dX9_step_26 : decode cX9_step 26 = .ok (.aload_n 0, 1) := by decide +kernel
theorem dX9_step_27 : decode cX9_step 27 = .ok (.getfield 35, 3) := by decide +kernel
theorem dX9_step_30 : decode cX9_step 30 = .ok (.iload_n 1, 1) := by decide +kernel
theorem dX9_step_31 : decode cX9_step 31 = .ok (.iload_n 2, 1) := by decide +kernel
theorem dX9_step_32 : decode cX9_step 32 = .ok (.invokevirtual 159, 3) := by decide +kernel
theorem dX9_step_35 : decode cX9_step 35 = .ok (.ifCond .ne 6, 3) := by decide +kernel
theorem dX9_step_38 : decode cX9_step 38 = .ok (.bipush (-3), 2) := by decide +kernel
theorem dX9_step_40 : decode cX9_step 40 = .ok (.ireturn, 1) := by decide +kernel
theorem dX9_step_41 : decode cX9_step 41 = .ok (.aload_n 0, 1) := by decide +kernel
theorem dX9_step_42 : decode cX9_step 42 = .ok (.invokevirtual 197, 3) := by decide +kernel
theorem dX9_step_45 : decode cX9_step 45 = .ok (.aload_n 0, 1) := by decide +kernel
theorem dX9_step_46 : decode cX9_step 46 = .ok (.aload_n 0, 1) := by decide +kernel
theorem dX9_step_47 : decode cX9_step 47 = .ok (.getfield 35, 3) := by decide +kernel
theorem dX9_step_50 : decode cX9_step 50 = .ok (.iload_n 1, 1) := by decide +kernel
theorem dX9_step_51 : decode cX9_step 51 = .ok (.iload_n 2, 1) := by decide +kernel
theorem dX9_step_52 : decode cX9_step 52 = .ok (.invokevirtual 200, 3) := by decide +kernel
theorem dX9_step_55 : decode cX9_step 55 = .ok (.pop, 1) := by decide +kernel
theorem dX9_step_56 : decode cX9_step 56 = .ok (.aload_n 0, 1) := by decide +kernel
theorem dX9_step_57 : decode cX9_step 57 = .ok (.getfield 35, 3) := by decide +kernel
theorem dX9_step_60 : decode cX9_step 60 = .ok (.iload_n 1, 1) := by decide +kernel
theorem dX9_step_61 : decode cX9_step 61 = .ok (.iaload, 1) := by decide +kernel
theorem dX9_step_62 : decode cX9_step 62 = .ok (.ireturn, 1) := by decide +kernel
theorem dX9_hears_0 : decode cX9_hears 0 = .ok (.aload_n 1, 1) := by decide +kernel
theorem dX9_hears_1 : decode cX9_hears 1 = .ok (.iload_n 2, 1) := by decide +kernel
theorem dX9_hears_2 : decode cX9_hears 2 = .ok (.iaload, 1) := by decide +kernel
theorem dX9_hears_3 : decode cX9_hears 3 = .ok (.iload_n 3, 1) := by decide +kernel
theorem dX9_hears_4 : decode cX9_hears 4 = .ok (.if_icmp .ne 7, 3) := by decide +kernel
theorem dX9_hears_7 : decode cX9_hears 7 = .ok (.iconst 1, 1) := by decide +kernel
theorem dX9_hears_8 : decode cX9_hears 8 = .ok (.goto 4, 3) := by decide +kernel
theorem dX9_hears_11 : decode cX9_hears 11 = .ok (.iconst 0, 1) := by decide +kernel
theorem dX9_hears_12 : decode cX9_hears 12 = .ok (.istore 4, 2) := by decide +kernel
theorem dX9_hears_14 : decode cX9_hears 14 = .ok (.iconst 0, 1) := by decide +kernel
theorem dX9_hears_15 : decode cX9_hears 15 = .ok (.istore 5, 2) := by decide +kernel
theorem dX9_hears_17 : decode cX9_hears 17 = .ok (.iload 5, 2) := by decide +kernel
theorem dX9_hears_19 : decode cX9_hears 19 = .ok (.iconst 4, 1) := by decide +kernel
theorem dX9_hears_20 : decode cX9_hears 20 = .ok (.if_icmp .ge 49, 3) := by decide +kernel
theorem dX9_hears_23 : decode cX9_hears 23 = .ok (.iload 4, 2) := by decide +kernel
theorem dX9_hears_25 : decode cX9_hears 25 = .ok (.ifCond .ne 31, 3) := by decide +kernel
theorem dX9_hears_28 : decode cX9_hears 28 = .ok (.aload_n 0, 1) := by decide +kernel
theorem dX9_hears_29 : decode cX9_hears 29 = .ok (.aload_n 1, 1) := by decide +kernel
theorem dX9_hears_30 : decode cX9_hears 30 = .ok (.iload_n 2, 1) := by decide +kernel
theorem dX9_hears_31 : decode cX9_hears 31 = .ok (.iaload, 1) := by decide +kernel
theorem dX9_hears_32 : decode cX9_hears 32 = .ok (.iload 5, 2) := by decide +kernel
theorem dX9_hears_34 : decode cX9_hears 34 = .ok (.aload_n 0, 1) := by decide +kernel
theorem dX9_hears_35 : decode cX9_hears 35 = .ok (.getfield 26, 3) := by decide +kernel
theorem dX9_hears_38 : decode cX9_hears 38 = .ok (.iload_n 2, 1) := by decide +kernel
theorem dX9_hears_39 : decode cX9_hears 39 = .ok (.iaload, 1) := by decide +kernel
theorem dX9_hears_40 : decode cX9_hears 40 = .ok (.iconst 3, 1) := by decide +kernel
theorem dX9_hears_41 : decode cX9_hears 41 = .ok (.if_icmp .ne 7, 3) := by decide +kernel
theorem dX9_hears_44 : decode cX9_hears 44 = .ok (.iconst 1, 1) := by decide +kernel
theorem dX9_hears_45 : decode cX9_hears 45 = .ok (.goto 4, 3) := by decide +kernel
theorem dX9_hears_48 : decode cX9_hears 48 = .ok (.iconst 0, 1) := by decide +kernel
theorem dX9_hears_49 : decode cX9_hears 49 = .ok (.invokevirtual 187, 3) := by decide +kernel
theorem dX9_hears_52 : decode cX9_hears 52 = .ok (.iload_n 3, 1) := by decide +kernel
theorem dX9_hears_53 : decode cX9_hears 53 = .ok (.if_icmp .ne 7, 3) := by decide +kernel
theorem dX9_hears_56 : decode cX9_hears 56 = .ok (.iconst 1, 1) := by decide +kernel
theorem dX9_hears_57 : decode cX9_hears 57 = .ok (.goto 4, 3) := by decide +kernel
theorem dX9_hears_60 : decode cX9_hears 60 = .ok (.iconst 0, 1) := by decide +kernel
theorem dX9_hears_61 : decode cX9_hears 61 = .ok (.istore 4, 2) := by decide +kernel
theorem dX9_hears_63 : decode cX9_hears 63 = .ok (.iinc 5 1, 3) := by decide +kernel
theorem dX9_hears_66 : decode cX9_hears 66 = .ok (.goto (-49), 3) := by decide +kernel
theorem dX9_hears_69 : decode cX9_hears 69 = .ok (.iload 4, 2) := by decide +kernel
theorem dX9_hears_71 : decode cX9_hears 71 = .ok (.ireturn, 1) := by decide +kernel
theorem dX9_goCall_0 : decode cX9_goCall 0 = .ok (.iconst 0, 1) := by decide +kernel
theorem dX9_goCall_1 : decode cX9_goCall 1 = .ok (.istore_n 3, 1) := by decide +kernel
theorem dX9_goCall_2 : decode cX9_goCall 2 = .ok (.iload_n 3, 1) := by decide +kernel
theorem dX9_goCall_3 : decode cX9_goCall 3 = .ok (.aload_n 0, 1) := by decide +kernel
theorem dX9_goCall_4 : decode cX9_goCall 4 = .ok (.getfield 78, 3) := by decide +kernel
theorem dX9_goCall_7 : decode cX9_goCall 7 = .ok (.if_icmp .ge 41, 3) := by decide +kernel
theorem dX9_goCall_10 : decode cX9_goCall 10 = .ok (.aload_n 0, 1) := by decide +kernel
theorem dX9_goCall_11 : decode cX9_goCall 11 = .ok (.aload_n 1, 1) := by decide +kernel
theorem dX9_goCall_12 : decode cX9_goCall 12 = .ok (.iload_n 3, 1) := by decide +kernel
theorem dX9_goCall_13 : decode cX9_goCall 13 = .ok (.iload_n 2, 1) := by decide +kernel
theorem dX9_goCall_14 : decode cX9_goCall 14 = .ok (.invokevirtual 203, 3) := by decide +kernel
theorem dX9_goCall_17 : decode cX9_goCall 17 = .ok (.ifCond .eq 25, 3) := by decide +kernel
theorem dX9_goCall_20 : decode cX9_goCall 20 = .ok (.aload_n 1, 1) := by decide +kernel
theorem dX9_goCall_21 : decode cX9_goCall 21 = .ok (.iload_n 3, 1) := by decide +kernel
theorem dX9_goCall_22 : decode cX9_goCall 22 = .ok (.aload_n 0, 1) := by decide +kernel
theorem dX9_goCall_23 : decode cX9_goCall 23 = .ok (.getfield 23, 3) := by decide +kernel
theorem dX9_goCall_26 : decode cX9_goCall 26 = .ok (.iload_n 3, 1) := by decide +kernel
theorem dX9_goCall_27 : decode cX9_goCall 27 = .ok (.iaload, 1) := by decide +kernel
theorem dX9_goCall_28 : decode cX9_goCall 28 = .ok (.iastore, 1) := by decide +kernel
theorem dX9_goCall_29 : decode cX9_goCall 29 = .ok (.aload_n 1, 1) := by decide +kernel
theorem dX9_goCall_30 : decode cX9_goCall 30 = .ok (.iconst 5, 1) := by decide +kernel
theorem dX9_goCall_31 : decode cX9_goCall 31 = .ok (.iload_n 3, 1) := by decide +kernel
theorem dX9_goCall_32 : decode cX9_goCall 32 = .ok (.iadd, 1) := by decide +kernel
theorem dX9_goCall_33 : decode cX9_goCall 33 = .ok (.iconst 3, 1) := by decide +kernel
theorem dX9_goCall_34 : decode cX9_goCall 34 = .ok (.iastore, 1) := by decide +kernel
theorem dX9_goCall_35 : decode cX9_goCall 35 = .ok (.aload_n 1, 1) := by decide +kernel
theorem dX9_goCall_36 : decode cX9_goCall 36 = .ok (.bipush 10, 2) := by decide +kernel
theorem dX9_goCall_38 : decode cX9_goCall 38 = .ok (.iload_n 3, 1) := by decide +kernel
theorem dX9_goCall_39 : decode cX9_goCall 39 = .ok (.iadd, 1) := by decide +kernel
theorem dX9_goCall_40 : decode cX9_goCall 40 = .ok (.iconst 3, 1) := by decide +kernel
theorem dX9_goCall_41 : decode cX9_goCall 41 = .ok (.iastore, 1) := by decide +kernel
theorem dX9_goCall_42 : decode cX9_goCall 42 = .ok (.iinc 3 1, 3) := by decide +kernel
theorem dX9_goCall_45 : decode cX9_goCall 45 = .ok (.goto (-43), 3) := by decide +kernel
theorem dX9_goCall_48 : decode cX9_goCall 48 = .ok (.return_, 1) := by decide +kernel
theorem dX9_call_0 : decode cX9_call 0 = .ok (.aload_n 0, 1) := by decide +kernel
theorem dX9_call_1 : decode cX9_call 1 = .ok (.iconst 0, 1) := by decide +kernel
theorem dX9_call_2 : decode cX9_call 2 = .ok (.putfield 75, 3) := by decide +kernel
theorem dX9_call_5 : decode cX9_call 5 = .ok (.aload_n 0, 1) := by decide +kernel
theorem dX9_call_6 : decode cX9_call 6 = .ok (.iload_n 1, 1) := by decide +kernel
theorem dX9_call_7 : decode cX9_call 7 = .ok (.invokevirtual 180, 3) := by decide +kernel
theorem dX9_call_10 : decode cX9_call 10 = .ok (.ifCond .eq 5, 3) := by decide +kernel
theorem dX9_call_13 : decode cX9_call 13 = .ok (.iconst (-1), 1) := by decide +kernel
theorem dX9_call_14 : decode cX9_call 14 = .ok (.ireturn, 1) := by decide +kernel
theorem dX9_call_15 : decode cX9_call 15 = .ok (.aload_n 0, 1) := by decide +kernel
theorem dX9_call_16 : decode cX9_call 16 = .ok (.invokevirtual 197, 3) := by decide +kernel
theorem dX9_call_19 : decode cX9_call 19 = .ok (.aload_n 0, 1) := by decide +kernel
theorem dX9_call_20 : decode cX9_call 20 = .ok (.aload_n 0, 1) := by decide +kernel
theorem dX9_call_21 : decode cX9_call 21 = .ok (.getfield 35, 3) := by decide +kernel
theorem dX9_call_24 : decode cX9_call 24 = .ok (.invokevirtual 206, 3) := by decide +kernel
theorem dX9_call_27 : decode cX9_call 27 = .ok (.istore_n 2, 1) := by decide +kernel
theorem dX9_call_28 : decode cX9_call 28 = .ok (.aload_n 0, 1) := by decide +kernel
theorem dX9_call_29 : decode cX9_call 29 = .ok (.aload_n 0, 1) := by decide +kernel
theorem dX9_call_30 : decode cX9_call 30 = .ok (.getfield 35, 3) := by decide +kernel
theorem dX9_call_33 : decode cX9_call 33 = .ok (.iload_n 1, 1) := by decide +kernel
theorem dX9_call_34 : decode cX9_call 34 = .ok (.invokevirtual 209, 3) := by decide +kernel
theorem dX9_call_37 : decode cX9_call 37 = .ok (.iload_n 2, 1) := by decide +kernel
theorem dX9_call_38 : decode cX9_call 38 = .ok (.aload_n 0, 1) := by decide +kernel
theorem dX9_call_39 : decode cX9_call 39 = .ok (.aload_n 0, 1) := by decide +kernel
theorem dX9_call_40 : decode cX9_call 40 = .ok (.getfield 35, 3) := by decide +kernel
theorem dX9_call_43 : decode cX9_call 43 = .ok (.invokevirtual 206, 3) := by decide +kernel
theorem dX9_call_46 : decode cX9_call 46 = .ok (.isub, 1) := by decide +kernel
theorem dX9_call_47 : decode cX9_call 47 = .ok (.ireturn, 1) := by decide +kernel
theorem dX9_cut_0 : decode cX9_cut 0 = .ok (.aload_n 0, 1) := by decide +kernel
theorem dX9_cut_1 : decode cX9_cut 1 = .ok (.iconst 0, 1) := by decide +kernel
theorem dX9_cut_2 : decode cX9_cut 2 = .ok (.putfield 75, 3) := by decide +kernel
theorem dX9_cut_5 : decode cX9_cut 5 = .ok (.aload_n 0, 1) := by decide +kernel
theorem dX9_cut_6 : decode cX9_cut 6 = .ok (.iload_n 1, 1) := by decide +kernel
theorem dX9_cut_7 : decode cX9_cut 7 = .ok (.invokevirtual 180, 3) := by decide +kernel
theorem dX9_cut_10 : decode cX9_cut 10 = .ok (.ifCond .eq 5, 3) := by decide +kernel
theorem dX9_cut_13 : decode cX9_cut 13 = .ok (.iconst (-1), 1) := by decide +kernel
theorem dX9_cut_14 : decode cX9_cut 14 = .ok (.ireturn, 1) := by decide +kernel
theorem dX9_cut_15 : decode cX9_cut 15 = .ok (.aload_n 0, 1) := by decide +kernel
theorem dX9_cut_16 : decode cX9_cut 16 = .ok (.aload_n 0, 1) := by decide +kernel
theorem dX9_cut_17 : decode cX9_cut 17 = .ok (.getfield 35, 3) := by decide +kernel
theorem dX9_cut_20 : decode cX9_cut 20 = .ok (.iload_n 1, 1) := by decide +kernel
theorem dX9_cut_21 : decode cX9_cut 21 = .ok (.invokevirtual 144, 3) := by decide +kernel
theorem dX9_cut_24 : decode cX9_cut 24 = .ok (.iconst 1, 1) := by decide +kernel
theorem dX9_cut_25 : decode cX9_cut 25 = .ok (.if_icmp .eq 6, 3) := by decide +kernel
theorem dX9_cut_28 : decode cX9_cut 28 = .ok (.bipush (-3), 2) := by decide +kernel
theorem dX9_cut_30 : decode cX9_cut 30 = .ok (.ireturn, 1) := by decide +kernel
theorem dX9_cut_31 : decode cX9_cut 31 = .ok (.aload_n 0, 1) := by decide +kernel
theorem dX9_cut_32 : decode cX9_cut 32 = .ok (.invokevirtual 197, 3) := by decide +kernel
theorem dX9_cut_35 : decode cX9_cut 35 = .ok (.aload_n 0, 1) := by decide +kernel
theorem dX9_cut_36 : decode cX9_cut 36 = .ok (.getfield 35, 3) := by decide +kernel
theorem dX9_cut_39 : decode cX9_cut 39 = .ok (.bipush 15, 2) := by decide +kernel
theorem dX9_cut_41 : decode cX9_cut 41 = .ok (.dup2, 1) := by decide +kernel
theorem dX9_cut_42 : decode cX9_cut 42 = .ok (.iaload, 1) := by decide +kernel
theorem dX9_cut_43 : decode cX9_cut 43 = .ok (.iconst 1, 1) := by decide +kernel
theorem dX9_cut_44 : decode cX9_cut 44 = .ok (.iload_n 1, 1) := by decide +kernel
theorem dX9_cut_45 : decode cX9_cut 45 = .ok (.ishl, 1) := by decide +kernel
theorem dX9_cut_46 : decode cX9_cut 46 = .ok (.ior, 1) := by decide +kernel
theorem dX9_cut_47 : decode cX9_cut 47 = .ok (.iastore, 1) := by decide +kernel
theorem dX9_cut_48 : decode cX9_cut 48 = .ok (.aload_n 0, 1) := by decide +kernel
theorem dX9_cut_49 : decode cX9_cut 49 = .ok (.iconst 1, 1) := by decide +kernel
theorem dX9_cut_50 : decode cX9_cut 50 = .ok (.invokevirtual 174, 3) := by decide +kernel
theorem dX9_cut_53 : decode cX9_cut 53 = .ok (.invokestatic 170, 3) := by decide +kernel
theorem dX9_cut_56 : decode cX9_cut 56 = .ok (.ireturn, 1) := by decide +kernel
theorem dX9_undo_0 : decode cX9_undo 0 = .ok (.aload_n 0, 1) := by decide +kernel
theorem dX9_undo_1 : decode cX9_undo 1 = .ok (.iconst 0, 1) := by decide +kernel
theorem dX9_undo_2 : decode cX9_undo 2 = .ok (.putfield 75, 3) := by decide +kernel
theorem dX9_undo_5 : decode cX9_undo 5 = .ok (.aload_n 0, 1) := by decide +kernel
theorem dX9_undo_6 : decode cX9_undo 6 = .ok (.getfield 131, 3) := by decide +kernel
theorem dX9_undo_9 : decode cX9_undo 9 = .ok (.ifCond .ne 6, 3) := by decide +kernel
theorem dX9_undo_12 : decode cX9_undo 12 = .ok (.bipush (-3), 2) := by decide +kernel
theorem dX9_undo_14 : decode cX9_undo 14 = .ok (.ireturn, 1) := by decide +kernel
theorem dX9_undo_15 : decode cX9_undo 15 = .ok (.aload_n 0, 1) := by decide +kernel
theorem dX9_undo_16 : decode cX9_undo 16 = .ok (.dup, 1) := by decide +kernel
theorem dX9_undo_17 : decode cX9_undo 17 = .ok (.getfield 131, 3) := by decide +kernel
theorem dX9_undo_20 : decode cX9_undo 20 = .ok (.iconst 1, 1) := by decide +kernel
theorem dX9_undo_21 : decode cX9_undo 21 = .ok (.isub, 1) := by decide +kernel
theorem dX9_undo_22 : decode cX9_undo 22 = .ok (.putfield 131, 3) := by decide +kernel
theorem dX9_undo_25 : decode cX9_undo 25 = .ok (.iconst 0, 1) := by decide +kernel
theorem dX9_undo_26 : decode cX9_undo 26 = .ok (.istore_n 1, 1) := by decide +kernel
theorem dX9_undo_27 : decode cX9_undo 27 = .ok (.iload_n 1, 1) := by decide +kernel
theorem dX9_undo_28 : decode cX9_undo 28 = .ok (.bipush 16, 2) := by decide +kernel
theorem dX9_undo_30 : decode cX9_undo 30 = .ok (.if_icmp .ge 29, 3) := by decide +kernel
theorem dX9_undo_33 : decode cX9_undo 33 = .ok (.aload_n 0, 1) := by decide +kernel
theorem dX9_undo_34 : decode cX9_undo 34 = .ok (.getfield 35, 3) := by decide +kernel
theorem dX9_undo_37 : decode cX9_undo 37 = .ok (.iload_n 1, 1) := by decide +kernel
theorem dX9_undo_38 : decode cX9_undo 38 = .ok (.aload_n 0, 1) := by decide +kernel
theorem dX9_undo_39 : decode cX9_undo 39 = .ok (.getfield 41, 3) := by decide +kernel
theorem dX9_undo_42 : decode cX9_undo 42 = .ok (.bipush 16, 2) := by decide +kernel
theorem dX9_undo_44 : decode cX9_undo 44 = .ok (.aload_n 0, 1) := by decide +kernel
theorem dX9_undo_45 : decode cX9_undo 45 = .ok (.getfield 131, 3) := by decide +kernel
theorem dX9_undo_48 : decode cX9_undo 48 = .ok (.imul, 1) := by decide +kernel
theorem dX9_undo_49 : decode cX9_undo 49 = .ok (.iload_n 1, 1) := by decide +kernel
theorem dX9_undo_50 : decode cX9_undo 50 = .ok (.iadd, 1) := by decide +kernel
theorem dX9_undo_51 : decode cX9_undo 51 = .ok (.iaload, 1) := by decide +kernel
theorem dX9_undo_52 : decode cX9_undo 52 = .ok (.iastore, 1) := by decide +kernel
theorem dX9_undo_53 : decode cX9_undo 53 = .ok (.iinc 1 1, 3) := by decide +kernel
theorem dX9_undo_56 : decode cX9_undo 56 = .ok (.goto (-29), 3) := by decide +kernel
theorem dX9_undo_59 : decode cX9_undo 59 = .ok (.aload_n 0, 1) := by decide +kernel
theorem dX9_undo_60 : decode cX9_undo 60 = .ok (.getfield 131, 3) := by decide +kernel
theorem dX9_undo_63 : decode cX9_undo 63 = .ok (.ireturn, 1) := by decide +kernel
theorem dX9_begin_0 : decode cX9_begin 0 = .ok (.iconst 0, 1) := by decide +kernel
theorem dX9_begin_1 : decode cX9_begin 1 = .ok (.istore_n 1, 1) := by decide +kernel
theorem dX9_begin_2 : decode cX9_begin 2 = .ok (.iload_n 1, 1) := by decide +kernel
theorem dX9_begin_3 : decode cX9_begin 3 = .ok (.bipush 16, 2) := by decide +kernel
theorem dX9_begin_5 : decode cX9_begin 5 = .ok (.if_icmp .ge 21, 3) := by decide +kernel
theorem dX9_begin_8 : decode cX9_begin 8 = .ok (.aload_n 0, 1) := by decide +kernel
theorem dX9_begin_9 : decode cX9_begin 9 = .ok (.getfield 38, 3) := by decide +kernel
theorem dX9_begin_12 : decode cX9_begin 12 = .ok (.iload_n 1, 1) := by decide +kernel
theorem dX9_begin_13 : decode cX9_begin 13 = .ok (.aload_n 0, 1) := by decide +kernel
theorem dX9_begin_14 : decode cX9_begin 14 = .ok (.getfield 35, 3) := by decide +kernel
theorem dX9_begin_17 : decode cX9_begin 17 = .ok (.iload_n 1, 1) := by decide +kernel
theorem dX9_begin_18 : decode cX9_begin 18 = .ok (.iaload, 1) := by decide +kernel
theorem dX9_begin_19 : decode cX9_begin 19 = .ok (.iastore, 1) := by decide +kernel
theorem dX9_begin_20 : decode cX9_begin 20 = .ok (.iinc 1 1, 3) := by decide +kernel
theorem dX9_begin_23 : decode cX9_begin 23 = .ok (.goto (-21), 3) := by decide +kernel
theorem dX9_begin_26 : decode cX9_begin 26 = .ok (.return_, 1) := by decide +kernel
theorem dX9_spotNumber_0 : decode cX9_spotNumber 0 = .ok (.aload_n 0, 1) := by decide +kernel
theorem dX9_spotNumber_1 : decode cX9_spotNumber 1 = .ok (.getfield 60, 3) := by decide +kernel
theorem dX9_spotNumber_4 : decode cX9_spotNumber 4 = .ok (.iconst 0, 1) := by decide +kernel
theorem dX9_spotNumber_5 : decode cX9_spotNumber 5 = .ok (.iaload, 1) := by decide +kernel
theorem dX9_spotNumber_6 : decode cX9_spotNumber 6 = .ok (.bipush 7, 2) := by decide +kernel
theorem dX9_spotNumber_8 : decode cX9_spotNumber 8 = .ok (.imul, 1) := by decide +kernel
theorem dX9_spotNumber_9 : decode cX9_spotNumber 9 = .ok (.aload_n 0, 1) := by decide +kernel
theorem dX9_spotNumber_10 : decode cX9_spotNumber 10 = .ok (.getfield 60, 3) := by decide +kernel
theorem dX9_spotNumber_13 : decode cX9_spotNumber 13 = .ok (.iconst 1, 1) := by decide +kernel
theorem dX9_spotNumber_14 : decode cX9_spotNumber 14 = .ok (.iaload, 1) := by decide +kernel
theorem dX9_spotNumber_15 : decode cX9_spotNumber 15 = .ok (.iadd, 1) := by decide +kernel
theorem dX9_spotNumber_16 : decode cX9_spotNumber 16 = .ok (.bipush 7, 2) := by decide +kernel
theorem dX9_spotNumber_18 : decode cX9_spotNumber 18 = .ok (.imul, 1) := by decide +kernel
theorem dX9_spotNumber_19 : decode cX9_spotNumber 19 = .ok (.aload_n 0, 1) := by decide +kernel
theorem dX9_spotNumber_20 : decode cX9_spotNumber 20 = .ok (.getfield 60, 3) := by decide +kernel
theorem dX9_spotNumber_23 : decode cX9_spotNumber 23 = .ok (.iconst 2, 1) := by decide +kernel
theorem dX9_spotNumber_24 : decode cX9_spotNumber 24 = .ok (.iaload, 1) := by decide +kernel
theorem dX9_spotNumber_25 : decode cX9_spotNumber 25 = .ok (.iadd, 1) := by decide +kernel
theorem dX9_spotNumber_26 : decode cX9_spotNumber 26 = .ok (.ireturn, 1) := by decide +kernel
theorem dX9_layFar_0 : decode cX9_layFar 0 = .ok (.iconst 0, 1) := by decide +kernel
theorem dX9_layFar_1 : decode cX9_layFar 1 = .ok (.istore_n 2, 1) := by decide +kernel
theorem dX9_layFar_2 : decode cX9_layFar 2 = .ok (.iload_n 2, 1) := by decide +kernel
theorem dX9_layFar_3 : decode cX9_layFar 3 = .ok (.sipush 980, 3) := by decide +kernel
theorem dX9_layFar_6 : decode cX9_layFar 6 = .ok (.if_icmp .ge 17, 3) := by decide +kernel
theorem dX9_layFar_9 : decode cX9_layFar 9 = .ok (.aload_n 0, 1) := by decide +kernel
theorem dX9_layFar_10 : decode cX9_layFar 10 = .ok (.getfield 63, 3) := by decide +kernel
theorem dX9_layFar_13 : decode cX9_layFar 13 = .ok (.iload_n 2, 1) := by decide +kernel
theorem dX9_layFar_14 : decode cX9_layFar 14 = .ok (.bipush (-9), 2) := by decide +kernel
theorem dX9_layFar_16 : decode cX9_layFar 16 = .ok (.iastore, 1) := by decide +kernel
theorem dX9_layFar_17 : decode cX9_layFar 17 = .ok (.iinc 2 1, 3) := by decide +kernel
theorem dX9_layFar_20 : decode cX9_layFar 20 = .ok (.goto (-18), 3) := by decide +kernel
theorem dX9_layFar_23 : decode cX9_layFar 23 = .ok (.aload_n 0, 1) := by decide +kernel
theorem dX9_layFar_24 : decode cX9_layFar 24 = .ok (.aload_n 0, 1) := by decide +kernel
theorem dX9_layFar_25 : decode cX9_layFar 25 = .ok (.getfield 35, 3) := by decide +kernel
theorem dX9_layFar_28 : decode cX9_layFar 28 = .ok (.iload_n 1, 1) := by decide +kernel
theorem dX9_layFar_29 : decode cX9_layFar 29 = .ok (.invokevirtual 148, 3) := by decide +kernel
theorem dX9_layFar_32 : decode cX9_layFar 32 = .ok (.aload_n 0, 1) := by decide +kernel
theorem dX9_layFar_33 : decode cX9_layFar 33 = .ok (.invokevirtual 212, 3) := by decide +kernel
theorem dX9_layFar_36 : decode cX9_layFar 36 = .ok (.istore_n 2, 1) := by decide +kernel
theorem dX9_layFar_37 : decode cX9_layFar 37 = .ok (.iconst 0, 1) := by decide +kernel
theorem dX9_layFar_38 : decode cX9_layFar 38 = .ok (.istore_n 3, 1) := by decide +kernel
theorem dX9_layFar_39 : decode cX9_layFar 39 = .ok (.iconst 1, 1) := by decide +kernel
theorem dX9_layFar_40 : decode cX9_layFar 40 = .ok (.istore 4, 2) := by decide +kernel
theorem dX9_layFar_42 : decode cX9_layFar 42 = .ok (.aload_n 0, 1) := by decide +kernel
theorem dX9_layFar_43 : decode cX9_layFar 43 = .ok (.getfield 63, 3) := by decide +kernel
theorem dX9_layFar_46 : decode cX9_layFar 46 = .ok (.iload_n 2, 1) := by decide +kernel
