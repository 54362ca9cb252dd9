theorem dX9_readStop_64 : decode cX9_readStop 64 = .ok (.aload_n 0, 1) := by decide +kernel
theorem dX9_readStop_65 : decode cX9_readStop 65 = .ok (.invokevirtual 149, 3) := by decide +kernel
theorem dX9_readStop_68 : decode cX9_readStop 68 = .ok (.aload_n 0, 1) := by decide +kernel
theorem dX9_readStop_69 : decode cX9_readStop 69 = .ok (.iconst 0, 1) := by decide +kernel
theorem dX9_readStop_70 : decode cX9_readStop 70 = .ok (.bipush 60, 2) := by decide +kernel
theorem dX9_readStop_72 : decode cX9_readStop 72 = .ok (.invokevirtual 159, 3) := by decide +kernel
theorem dX9_readStop_75 : decode cX9_readStop 75 = .ok (.istore_n 2, 1) := by decide +kernel
theorem dX9_readStop_76 : decode cX9_readStop 76 = .ok (.aload_n 0, 1) := by decide +kernel
theorem dX9_readStop_77 : decode cX9_readStop 77 = .ok (.getfield 132, 3) := by decide +kernel
theorem dX9_readStop_80 : decode cX9_readStop 80 = .ok (.ifCond .eq 4, 3) := by decide +kernel
theorem dX9_readStop_83 : decode cX9_readStop 83 = .ok (.return_, 1) := by decide +kernel
theorem dX9_readStop_84 : decode cX9_readStop 84 = .ok (.aload_n 0, 1) := by decide +kernel
theorem dX9_readStop_85 : decode cX9_readStop 85 = .ok (.getfield 19, 3) := by decide +kernel
theorem dX9_readStop_88 : decode cX9_readStop 88 = .ok (.aload_n 0, 1) := by decide +kernel
theorem dX9_readStop_89 : decode cX9_readStop 89 = .ok (.getfield 16, 3) := by decide +kernel
theorem dX9_readStop_92 : decode cX9_readStop 92 = .ok (.iconst 0, 1) := by decide +kernel
theorem dX9_readStop_93 : decode cX9_readStop 93 = .ok (.iaload, 1) := by decide +kernel
theorem dX9_readStop_94 : decode cX9_readStop 94 = .ok (.iload_n 1, 1) := by decide +kernel
theorem dX9_readStop_95 : decode cX9_readStop 95 = .ok (.iastore, 1) := by decide +kernel
theorem dX9_readStop_96 : decode cX9_readStop 96 = .ok (.aload_n 0, 1) := by decide +kernel
theorem dX9_readStop_97 : decode cX9_readStop 97 = .ok (.getfield 16, 3) := by decide +kernel
theorem dX9_readStop_100 : decode cX9_readStop 100 = .ok (.iconst 5, 1) := by decide +kernel
theorem dX9_readStop_101 : decode cX9_readStop 101 = .ok (.aload_n 0, 1) := by decide +kernel
theorem dX9_readStop_102 : decode cX9_readStop 102 = .ok (.getfield 16, 3) := by decide +kernel
theorem dX9_readStop_105 : decode cX9_readStop 105 = .ok (.iconst 0, 1) := by decide +kernel
theorem dX9_readStop_106 : decode cX9_readStop 106 = .ok (.iaload, 1) := by decide +kernel
theorem dX9_readStop_107 : decode cX9_readStop 107 = .ok (.iadd, 1) := by decide +kernel
theorem dX9_readStop_108 : decode cX9_readStop 108 = .ok (.iload_n 2, 1) := by decide +kernel
theorem dX9_readStop_109 : decode cX9_readStop 109 = .ok (.iastore, 1) := by decide +kernel
theorem dX9_readStop_110 : decode cX9_readStop 110 = .ok (.aload_n 0, 1) := by decide +kernel
theorem dX9_readStop_111 : decode cX9_readStop 111 = .ok (.getfield 16, 3) := by decide +kernel
theorem dX9_readStop_114 : decode cX9_readStop 114 = .ok (.iconst 0, 1) := by decide +kernel
theorem dX9_readStop_115 : decode cX9_readStop 115 = .ok (.dup2, 1) := by decide +kernel
theorem dX9_readStop_116 : decode cX9_readStop 116 = .ok (.iaload, 1) := by decide +kernel
theorem dX9_readStop_117 : decode cX9_readStop 117 = .ok (.iconst 1, 1) := by decide +kernel
theorem dX9_readStop_118 : decode cX9_readStop 118 = .ok (.iadd, 1) := by decide +kernel
theorem dX9_readStop_119 : decode cX9_readStop 119 = .ok (.iastore, 1) := by decide +kernel
theorem dX9_readStop_120 : decode cX9_readStop 120 = .ok (.return_, 1) := by decide +kernel
theorem dX9_readTrip_0 : decode cX9_readTrip 0 = .ok (.aload_n 0, 1) := by decide +kernel
theorem dX9_readTrip_1 : decode cX9_readTrip 1 = .ok (.getfield 16, 3) := by decide +kernel
theorem dX9_readTrip_4 : decode cX9_readTrip 4 = .ok (.iconst 2, 1) := by decide +kernel
theorem dX9_readTrip_5 : decode cX9_readTrip 5 = .ok (.iaload, 1) := by decide +kernel
theorem dX9_readTrip_6 : decode cX9_readTrip 6 = .ok (.bipush 20, 2) := by decide +kernel
theorem dX9_readTrip_8 : decode cX9_readTrip 8 = .ok (.if_icmp .ne 8, 3) := by decide +kernel
theorem dX9_readTrip_11 : decode cX9_readTrip 11 = .ok (.aload_n 0, 1) := by decide +kernel
theorem dX9_readTrip_12 : decode cX9_readTrip 12 = .ok (.iconst 2, 1) := by decide +kernel
theorem dX9_readTrip_13 : decode cX9_readTrip 13 = .ok (.invokevirtual 141, 3) := by decide +kernel
theorem dX9_readTrip_16 : decode cX9_readTrip 16 = .ok (.aload_n 0, 1) := by decide +kernel
theorem dX9_readTrip_17 : decode cX9_readTrip 17 = .ok (.invokevirtual 149, 3) := by decide +kernel
theorem dX9_readTrip_20 : decode cX9_readTrip 20 = .ok (.aload_n 0, 1) := by decide +kernel
theorem dX9_readTrip_21 : decode cX9_readTrip 21 = .ok (.iconst (-1), 1) := by decide +kernel
theorem dX9_readTrip_22 : decode cX9_readTrip 22 = .ok (.invokevirtual 162, 3) := by decide +kernel
theorem dX9_readTrip_25 : decode cX9_readTrip 25 = .ok (.istore_n 1, 1) := by decide +kernel
theorem dX9_readTrip_26 : decode cX9_readTrip 26 = .ok (.iconst 0, 1) := by decide +kernel
theorem dX9_readTrip_27 : decode cX9_readTrip 27 = .ok (.istore_n 2, 1) := by decide +kernel
theorem dX9_readTrip_28 : decode cX9_readTrip 28 = .ok (.aload_n 0, 1) := by decide +kernel
theorem dX9_readTrip_29 : decode cX9_readTrip 29 = .ok (.getfield 132, 3) := by decide +kernel
theorem dX9_readTrip_32 : decode cX9_readTrip 32 = .ok (.ifCond .ne 7, 3) := by decide +kernel
theorem dX9_readTrip_35 : decode cX9_readTrip 35 = .ok (.iconst 1, 1) := by decide +kernel
theorem dX9_readTrip_36 : decode cX9_readTrip 36 = .ok (.goto 4, 3) := by decide +kernel
theorem dX9_readTrip_39 : decode cX9_readTrip 39 = .ok (.iconst 0, 1) := by decide +kernel
theorem dX9_readTrip_40 : decode cX9_readTrip 40 = .ok (.istore_n 3, 1) := by decide +kernel
theorem dX9_readTrip_41 : decode cX9_readTrip 41 = .ok (.iload_n 3, 1) := by decide +kernel
theorem dX9_readTrip_42 : decode cX9_readTrip 42 = .ok (.ifCond .eq 195, 3) := by decide +kernel
theorem dX9_readTrip_45 : decode cX9_readTrip 45 = .ok (.bipush 115, 2) := by decide +kernel
theorem dX9_readTrip_47 : decode cX9_readTrip 47 = .ok (.iconst 5, 1) := by decide +kernel
theorem dX9_readTrip_48 : decode cX9_readTrip 48 = .ok (.aload_n 0, 1) := by decide +kernel
theorem dX9_readTrip_49 : decode cX9_readTrip 49 = .ok (.getfield 16, 3) := by decide +kernel
theorem dX9_readTrip_52 : decode cX9_readTrip 52 = .ok (.iconst 3, 1) := by decide +kernel
theorem dX9_readTrip_53 : decode cX9_readTrip 53 = .ok (.iaload, 1) := by decide +kernel
theorem dX9_readTrip_54 : decode cX9_readTrip 54 = .ok (.imul, 1) := by decide +kernel
theorem dX9_readTrip_55 : decode cX9_readTrip 55 = .ok (.iadd, 1) := by decide +kernel
theorem dX9_readTrip_56 : decode cX9_readTrip 56 = .ok (.istore 4, 2) := by decide +kernel
theorem dX9_readTrip_58 : decode cX9_readTrip 58 = .ok (.aload_n 0, 1) := by decide +kernel
theorem dX9_readTrip_59 : decode cX9_readTrip 59 = .ok (.getfield 104, 3) := by decide +kernel
theorem dX9_readTrip_62 : decode cX9_readTrip 62 = .ok (.iconst 1, 1) := by decide +kernel
theorem dX9_readTrip_63 : decode cX9_readTrip 63 = .ok (.if_icmp .ne 19, 3) := by decide +kernel
theorem dX9_readTrip_66 : decode cX9_readTrip 66 = .ok (.aload_n 0, 1) := by decide +kernel
theorem dX9_readTrip_67 : decode cX9_readTrip 67 = .ok (.getfield 16, 3) := by decide +kernel
theorem dX9_readTrip_70 : decode cX9_readTrip 70 = .ok (.iconst 3, 1) := by decide +kernel
theorem dX9_readTrip_71 : decode cX9_readTrip 71 = .ok (.iaload, 1) := by decide +kernel
theorem dX9_readTrip_72 : decode cX9_readTrip 72 = .ok (.bipush 60, 2) := by decide +kernel
theorem dX9_readTrip_74 : decode cX9_readTrip 74 = .ok (.if_icmp .ne 8, 3) := by decide +kernel
theorem dX9_readTrip_77 : decode cX9_readTrip 77 = .ok (.aload_n 0, 1) := by decide +kernel
theorem dX9_readTrip_78 : decode cX9_readTrip 78 = .ok (.iconst 2, 1) := by decide +kernel
theorem dX9_readTrip_79 : decode cX9_readTrip 79 = .ok (.invokevirtual 141, 3) := by decide +kernel
theorem dX9_readTrip_82 : decode cX9_readTrip 82 = .ok (.aload_n 0, 1) := by decide +kernel
theorem dX9_readTrip_83 : decode cX9_readTrip 83 = .ok (.iconst 0, 1) := by decide +kernel
theorem dX9_readTrip_84 : decode cX9_readTrip 84 = .ok (.sipush 1439, 3) := by decide +kernel
theorem dX9_readTrip_87 : decode cX9_readTrip 87 = .ok (.invokevirtual 145, 3) := by decide +kernel
theorem dX9_readTrip_90 : decode cX9_readTrip 90 = .ok (.istore 5, 2) := by decide +kernel
theorem dX9_readTrip_92 : decode cX9_readTrip 92 = .ok (.iload 5, 2) := by decide +kernel
theorem dX9_readTrip_94 : decode cX9_readTrip 94 = .ok (.iload_n 2, 1) := by decide +kernel
theorem dX9_readTrip_95 : decode cX9_readTrip 95 = .ok (.if_icmp .ge 8, 3) := by decide +kernel
theorem dX9_readTrip_98 : decode cX9_readTrip 98 = .ok (.aload_n 0, 1) := by decide +kernel
theorem dX9_readTrip_99 : decode cX9_readTrip 99 = .ok (.iconst 4, 1) := by decide +kernel
theorem dX9_readTrip_100 : decode cX9_readTrip 100 = .ok (.invokevirtual 141, 3) := by decide +kernel
theorem dX9_readTrip_103 : decode cX9_readTrip 103 = .ok (.aload_n 0, 1) := by decide +kernel
theorem dX9_readTrip_104 : decode cX9_readTrip 104 = .ok (.invokevirtual 149, 3) := by decide +kernel
theorem dX9_readTrip_107 : decode cX9_readTrip 107 = .ok (.aload_n 0, 1) := by decide +kernel
theorem dX9_readTrip_108 : decode cX9_readTrip 108 = .ok (.iconst 0, 1) := by decide +kernel
theorem dX9_readTrip_109 : decode cX9_readTrip 109 = .ok (.sipush 1439, 3) := by decide +kernel
theorem dX9_readTrip_112 : decode cX9_readTrip 112 = .ok (.invokevirtual 145, 3) := by decide +kernel
theorem dX9_readTrip_115 : decode cX9_readTrip 115 = .ok (.istore 6, 2) := by decide +kernel
theorem dX9_readTrip_117 : decode cX9_readTrip 117 = .ok (.iload 6, 2) := by decide +kernel
theorem dX9_readTrip_119 : decode cX9_readTrip 119 = .ok (.iload 5, 2) := by decide +kernel
theorem dX9_readTrip_121 : decode cX9_readTrip 121 = .ok (.if_icmp .gt 8, 3) := by decide +kernel
theorem dX9_readTrip_124 : decode cX9_readTrip 124 = .ok (.aload_n 0, 1) := by decide +kernel
theorem dX9_readTrip_125 : decode cX9_readTrip 125 = .ok (.iconst 4, 1) := by decide +kernel
theorem dX9_readTrip_126 : decode cX9_readTrip 126 = .ok (.invokevirtual 141, 3) := by decide +kernel
theorem dX9_readTrip_129 : decode cX9_readTrip 129 = .ok (.aload_n 0, 1) := by decide +kernel
theorem dX9_readTrip_130 : decode cX9_readTrip 130 = .ok (.invokevirtual 149, 3) := by decide +kernel
theorem dX9_readTrip_133 : decode cX9_readTrip 133 = .ok (.aload_n 0, 1) := by decide +kernel
theorem dX9_readTrip_134 : decode cX9_readTrip 134 = .ok (.iload_n 1, 1) := by decide +kernel
theorem dX9_readTrip_135 : decode cX9_readTrip 135 = .ok (.invokevirtual 162, 3) := by decide +kernel
theorem dX9_readTrip_138 : decode cX9_readTrip 138 = .ok (.istore 7, 2) := by decide +kernel
theorem dX9_readTrip_140 : decode cX9_readTrip 140 = .ok (.aload_n 0, 1) := by decide +kernel
theorem dX9_readTrip_141 : decode cX9_readTrip 141 = .ok (.getfield 132, 3) := by decide +kernel
theorem dX9_readTrip_144 : decode cX9_readTrip 144 = .ok (.ifCond .eq 4, 3) := by decide +kernel
theorem dX9_readTrip_147 : decode cX9_readTrip 147 = .ok (.return_, 1) := by decide +kernel
theorem dX9_readTrip_148 : decode cX9_readTrip 148 = .ok (.aload_n 0, 1) := by decide +kernel
theorem dX9_readTrip_149 : decode cX9_readTrip 149 = .ok (.getfield 16, 3) := by decide +kernel
theorem dX9_readTrip_152 : decode cX9_readTrip 152 = .ok (.iload 4, 2) := by decide +kernel
theorem dX9_readTrip_154 : decode cX9_readTrip 154 = .ok (.aload_n 0, 1) := by decide +kernel
theorem dX9_readTrip_155 : decode cX9_readTrip 155 = .ok (.getfield 16, 3) := by decide +kernel
theorem dX9_readTrip_158 : decode cX9_readTrip 158 = .ok (.iconst 2, 1) := by decide +kernel
theorem dX9_readTrip_159 : decode cX9_readTrip 159 = .ok (.iaload, 1) := by decide +kernel
theorem dX9_readTrip_160 : decode cX9_readTrip 160 = .ok (.iastore, 1) := by decide +kernel
theorem dX9_readTrip_161 : decode cX9_readTrip 161 = .ok (.aload_n 0, 1) := by decide +kernel
theorem dX9_readTrip_162 : decode cX9_readTrip 162 = .ok (.getfield 16, 3) := by decide +kernel
theorem dX9_readTrip_165 : decode cX9_readTrip 165 = .ok (.iload 4, 2) := by decide +kernel
theorem dX9_readTrip_167 : decode cX9_readTrip 167 = .ok (.iconst 1, 1) := by decide +kernel
theorem dX9_readTrip_168 : decode cX9_readTrip 168 = .ok (.iadd, 1) := by decide +kernel
theorem dX9_readTrip_169 : decode cX9_readTrip 169 = .ok (.iload_n 1, 1) := by decide +kernel
theorem dX9_readTrip_170 : decode cX9_readTrip 170 = .ok (.iastore, 1) := by decide +kernel
theorem dX9_readTrip_171 : decode cX9_readTrip 171 = .ok (.aload_n 0, 1) := by decide +kernel
theorem dX9_readTrip_172 : decode cX9_readTrip 172 = .ok (.getfield 16, 3) := by decide +kernel
theorem dX9_readTrip_175 : decode cX9_readTrip 175 = .ok (.iload 4, 2) := by decide +kernel
theorem dX9_readTrip_177 : decode cX9_readTrip 177 = .ok (.iconst 2, 1) := by decide +kernel
theorem dX9_readTrip_178 : decode cX9_readTrip 178 = .ok (.iadd, 1) := by decide +kernel
theorem dX9_readTrip_179 : decode cX9_readTrip 179 = .ok (.iload 7, 2) := by decide +kernel
theorem dX9_readTrip_181 : decode cX9_readTrip 181 = .ok (.iastore, 1) := by decide +kernel
theorem dX9_readTrip_182 : decode cX9_readTrip 182 = .ok (.aload_n 0, 1) := by decide +kernel
theorem dX9_readTrip_183 : decode cX9_readTrip 183 = .ok (.getfield 16, 3) := by decide +kernel
theorem dX9_readTrip_186 : decode cX9_readTrip 186 = .ok (.iload 4, 2) := by decide +kernel
theorem dX9_readTrip_188 : decode cX9_readTrip 188 = .ok (.iconst 3, 1) := by decide +kernel
theorem dX9_readTrip_189 : decode cX9_readTrip 189 = .ok (.iadd, 1) := by decide +kernel
theorem dX9_readTrip_190 : decode cX9_readTrip 190 = .ok (.iload 5, 2) := by decide +kernel
theorem dX9_readTrip_192 : decode cX9_readTrip 192 = .ok (.iastore, 1) := by decide +kernel
theorem dX9_readTrip_193 : decode cX9_readTrip 193 = .ok (.aload_n 0, 1) := by decide +kernel
theorem dX9_readTrip_194 : decode cX9_readTrip 194 = .ok (.getfield 16, 3) := by decide +kernel
theorem dX9_readTrip_197 : decode cX9_readTrip 197 = .ok (.iload 4, 2) := by decide +kernel
theorem dX9_readTrip_199 : decode cX9_readTrip 199 = .ok (.iconst 4, 1) := by decide +kernel
theorem dX9_readTrip_200 : decode cX9_readTrip 200 = .ok (.iadd, 1) := by decide +kernel
theorem dX9_readTrip_201 : decode cX9_readTrip 201 = .ok (.iload 6, 2) := by decide +kernel
theorem dX9_readTrip_203 : decode cX9_readTrip 203 = .ok (.iastore, 1) := by decide +kernel
theorem dX9_readTrip_204 : decode cX9_readTrip 204 = .ok (.aload_n 0, 1) := by decide +kernel
theorem dX9_readTrip_205 : decode cX9_readTrip 205 = .ok (.getfield 16, 3) := by decide +kernel
theorem dX9_readTrip_208 : decode cX9_readTrip 208 = .ok (.iconst 3, 1) := by decide +kernel
theorem dX9_readTrip_209 : decode cX9_readTrip 209 = .ok (.dup2, 1) := by decide +kernel
theorem dX9_readTrip_210 : decode cX9_readTrip 210 = .ok (.iaload, 1) := by decide +kernel
theorem dX9_readTrip_211 : decode cX9_readTrip 211 = .ok (.iconst 1, 1) := by decide +kernel
theorem dX9_readTrip_212 : decode cX9_readTrip 212 = .ok (.iadd, 1) := by decide +kernel
theorem dX9_readTrip_213 : decode cX9_readTrip 213 = .ok (.iastore, 1) := by decide +kernel
theorem dX9_readTrip_214 : decode cX9_readTrip 214 = .ok (.iload 7, 2) := by decide +kernel
theorem dX9_readTrip_216 : decode cX9_readTrip 216 = .ok (.istore_n 1, 1) := by decide +kernel
theorem dX9_readTrip_217 : decode cX9_readTrip 217 = .ok (.iload 6, 2) := by decide +kernel
theorem dX9_readTrip_219 : decode cX9_readTrip 219 = .ok (.istore_n 2, 1) := by decide +kernel
theorem dX9_readTrip_220 : decode cX9_readTrip 220 = .ok (.aload_n 0, 1) := by decide +kernel
theorem dX9_readTrip_221 : decode cX9_readTrip 221 = .ok (.getfield 104, 3) := by decide +kernel
theorem dX9_readTrip_224 : decode cX9_readTrip 224 = .ok (.iconst 1, 1) := by decide +kernel
theorem dX9_readTrip_225 : decode cX9_readTrip 225 = .ok (.if_icmp .ne 7, 3) := by decide +kernel
theorem dX9_readTrip_228 : decode cX9_readTrip 228 = .ok (.iconst 1, 1) := by decide +kernel
theorem dX9_readTrip_229 : decode cX9_readTrip 229 = .ok (.goto 4, 3) := by decide +kernel
theorem dX9_readTrip_232 : decode cX9_readTrip 232 = .ok (.iconst 0, 1) := by decide +kernel
theorem dX9_readTrip_233 : decode cX9_readTrip 233 = .ok (.istore_n 3, 1) := by decide +kernel
theorem dX9_readTrip_234 : decode cX9_readTrip 234 = .ok (.goto (-193), 3) := by decide +kernel
theorem dX9_readTrip_237 : decode cX9_readTrip 237 = .ok (.aload_n 0, 1) := by decide +kernel
theorem dX9_readTrip_238 : decode cX9_readTrip 238 = .ok (.getfield 132, 3) := by decide +kernel
theorem dX9_readTrip_241 : decode cX9_readTrip 241 = .ok (.ifCond .ne 13, 3) := by decide +kernel
theorem dX9_readTrip_244 : decode cX9_readTrip 244 = .ok (.aload_n 0, 1) := by decide +kernel
theorem dX9_readTrip_245 : decode cX9_readTrip 245 = .ok (.getfield 16, 3) := by decide +kernel
theorem dX9_readTrip_248 : decode cX9_readTrip 248 = .ok (.iconst 2, 1) := by decide +kernel
theorem dX9_readTrip_249 : decode cX9_readTrip 249 = .ok (.dup2, 1) := by decide +kernel
theorem dX9_readTrip_250 : decode cX9_readTrip 250 = .ok (.iaload, 1) := by decide +kernel
theorem dX9_readTrip_251 : decode cX9_readTrip 251 = .ok (.iconst 1, 1) := by decide +kernel
theorem dX9_readTrip_252 : decode cX9_readTrip 252 = .ok (.iadd, 1) := by decide +kernel
theorem dX9_readTrip_253 : decode cX9_readTrip 253 = .ok (.iastore, 1) := by decide +kernel
theorem dX9_readTrip_254 : decode cX9_readTrip 254 = .ok (.return_, 1) := by decide +kernel
theorem dX9_readWalk_0 : decode cX9_readWalk 0 = .ok (.aload_n 0, 1) := by decide +kernel
theorem dX9_readWalk_1 : decode cX9_readWalk 1 = .ok (.getfield 16, 3) := by decide +kernel
theorem dX9_readWalk_4 : decode cX9_readWalk 4 = .ok (.iconst 1, 1) := by decide +kernel
theorem dX9_readWalk_5 : decode cX9_readWalk 5 = .ok (.iaload, 1) := by decide +kernel
theorem dX9_readWalk_6 : decode cX9_readWalk 6 = .ok (.bipush 12, 2) := by decide +kernel
theorem dX9_readWalk_8 : decode cX9_readWalk 8 = .ok (.if_icmp .ne 8, 3) := by decide +kernel
theorem dX9_readWalk_11 : decode cX9_readWalk 11 = .ok (.aload_n 0, 1) := by decide +kernel
theorem dX9_readWalk_12 : decode cX9_readWalk 12 = .ok (.iconst 2, 1) := by decide +kernel
theorem dX9_readWalk_13 : decode cX9_readWalk 13 = .ok (.invokevirtual 141, 3) := by decide +kernel
theorem dX9_readWalk_16 : decode cX9_readWalk 16 = .ok (.aload_n 0, 1) := by decide +kernel
theorem dX9_readWalk_17 : decode cX9_readWalk 17 = .ok (.invokevirtual 149, 3) := by decide +kernel
theorem dX9_readWalk_20 : decode cX9_readWalk 20 = .ok (.aload_n 0, 1) := by decide +kernel
theorem dX9_readWalk_21 : decode cX9_readWalk 21 = .ok (.iconst (-1), 1) := by decide +kernel
theorem dX9_readWalk_22 : decode cX9_readWalk 22 = .ok (.invokevirtual 162, 3) := by decide +kernel
theorem dX9_readWalk_25 : decode cX9_readWalk 25 = .ok (.istore_n 1, 1) := by decide +kernel
theorem dX9_readWalk_26 : decode cX9_readWalk 26 = .ok (.aload_n 0, 1) := by decide +kernel
theorem dX9_readWalk_27 : decode cX9_readWalk 27 = .ok (.iload_n 1, 1) := by decide +kernel
theorem dX9_readWalk_28 : decode cX9_readWalk 28 = .ok (.invokevirtual 162, 3) := by decide +kernel
theorem dX9_readWalk_31 : decode cX9_readWalk 31 = .ok (.istore_n 2, 1) := by decide +kernel
theorem dX9_readWalk_32 : decode cX9_readWalk 32 = .ok (.aload_n 0, 1) := by decide +kernel
theorem dX9_readWalk_33 : decode cX9_readWalk 33 = .ok (.iconst 1, 1) := by decide +kernel
theorem dX9_readWalk_34 : decode cX9_readWalk 34 = .ok (.sipush 240, 3) := by decide +kernel
theorem dX9_readWalk_37 : decode cX9_readWalk 37 = .ok (.invokevirtual 159, 3) := by decide +kernel
theorem dX9_readWalk_40 : decode cX9_readWalk 40 = .ok (.istore_n 3, 1) := by decide +kernel
theorem dX9_readWalk_41 : decode cX9_readWalk 41 = .ok (.aload_n 0, 1) := by decide +kernel
theorem dX9_readWalk_42 : decode cX9_readWalk 42 = .ok (.getfield 132, 3) := by decide +kernel
theorem dX9_readWalk_45 : decode cX9_readWalk 45 = .ok (.ifCond .eq 4, 3) := by decide +kernel
theorem dX9_readWalk_48 : decode cX9_readWalk 48 = .ok (.return_, 1) := by decide +kernel
theorem dX9_readWalk_49 : decode cX9_readWalk 49 = .ok (.aload_n 0, 1) := by decide +kernel
theorem dX9_readWalk_50 : decode cX9_readWalk 50 = .ok (.getfield 16, 3) := by decide +kernel
theorem dX9_readWalk_53 : decode cX9_readWalk 53 = .ok (.iconst 1, 1) := by decide +kernel
theorem dX9_readWalk_54 : decode cX9_readWalk 54 = .ok (.dup2, 1) := by decide +kernel
theorem dX9_readWalk_55 : decode cX9_readWalk 55 = .ok (.iaload, 1) := by decide +kernel
theorem dX9_readWalk_56 : decode cX9_readWalk 56 = .ok (.iconst 1, 1) := by decide +kernel
theorem dX9_readWalk_57 : decode cX9_readWalk 57 = .ok (.iadd, 1) := by decide +kernel
theorem dX9_readWalk_58 : decode cX9_readWalk 58 = .ok (.iastore, 1) := by decide +kernel
theorem dX9_readWalk_59 : decode cX9_readWalk 59 = .ok (.iload_n 3, 1) := by decide +kernel
theorem dX9_readWalk_60 : decode cX9_readWalk 60 = .ok (.aload_n 0, 1) := by decide +kernel
theorem dX9_readWalk_61 : decode cX9_readWalk 61 = .ok (.getfield 16, 3) := by decide +kernel
theorem dX9_readWalk_64 : decode cX9_readWalk 64 = .ok (.bipush 15, 2) := by decide +kernel
theorem dX9_readWalk_66 : decode cX9_readWalk 66 = .ok (.bipush 10, 2) := by decide +kernel
theorem dX9_readWalk_68 : decode cX9_readWalk 68 = .ok (.iload_n 1, 1) := by decide +kernel
theorem dX9_readWalk_69 : decode cX9_readWalk 69 = .ok (.imul, 1) := by decide +kernel
theorem dX9_readWalk_70 : decode cX9_readWalk 70 = .ok (.iadd, 1) := by decide +kernel
theorem dX9_readWalk_71 : decode cX9_readWalk 71 = .ok (.iload_n 2, 1) := by decide +kernel
theorem dX9_readWalk_72 : decode cX9_readWalk 72 = .ok (.iadd, 1) := by decide +kernel
theorem dX9_readWalk_73 : decode cX9_readWalk 73 = .ok (.iaload, 1) := by decide +kernel
theorem dX9_readWalk_74 : decode cX9_readWalk 74 = .ok (.if_icmp .lt 4, 3) := by decide +kernel
theorem dX9_readWalk_77 : decode cX9_readWalk 77 = .ok (.return_, 1) := by decide +kernel
theorem dX9_readWalk_78 : decode cX9_readWalk 78 = .ok (.aload_n 0, 1) := by decide +kernel
theorem dX9_readWalk_79 : decode cX9_readWalk 79 = .ok (.getfield 16, 3) := by decide +kernel
theorem dX9_readWalk_82 : decode cX9_readWalk 82 = .ok (.bipush 15, 2) := by decide +kernel
theorem dX9_readWalk_84 : decode cX9_readWalk 84 = .ok (.bipush 10, 2) := by decide +kernel
theorem dX9_readWalk_86 : decode cX9_readWalk 86 = .ok (.iload_n 1, 1) := by decide +kernel
theorem dX9_readWalk_87 : decode cX9_readWalk 87 = .ok (.imul, 1) := by decide +kernel
theorem dX9_readWalk_88 : decode cX9_readWalk 88 = .ok (.iadd, 1) := by decide +kernel
theorem dX9_readWalk_89 : decode cX9_readWalk 89 = .ok (.iload_n 2, 1) := by decide +kernel
theorem dX9_readWalk_90 : decode cX9_readWalk 90 = .ok (.iadd, 1) := by decide +kernel
theorem dX9_readWalk_91 : decode cX9_readWalk 91 = .ok (.iload_n 3, 1) := by decide +kernel
theorem dX9_readWalk_92 : decode cX9_readWalk 92 = .ok (.iastore, 1) := by decide +kernel
theorem dX9_readWalk_93 : decode cX9_readWalk 93 = .ok (.aload_n 0, 1) := by decide +kernel
theorem dX9_readWalk_94 : decode cX9_readWalk 94 = .ok (.getfield 16, 3) := by decide +kernel
theorem dX9_readWalk_97 : decode cX9_readWalk 97 = .ok (.bipush 15, 2) := by decide +kernel
theorem dX9_readWalk_99 : decode cX9_readWalk 99 = .ok (.bipush 10, 2) := by decide +kernel
theorem dX9_readWalk_101 : decode cX9_readWalk 101 = .ok (.iload_n 2, 1) := by decide +kernel
theorem dX9_readWalk_102 : decode cX9_readWalk 102 = .ok (.imul, 1) := by decide +kernel
theorem dX9_readWalk_103 : decode cX9_readWalk 103 = .ok (.iadd, 1) := by decide +kernel
theorem dX9_readWalk_104 : decode cX9_readWalk 104 = .ok (.iload_n 1, 1) := by decide +kernel
theorem dX9_readWalk_105 : decode cX9_readWalk 105 = .ok (.iadd, 1) := by decide +kernel
theorem dX9_readWalk_106 : decode cX9_readWalk 106 = .ok (.iload_n 3, 1) := by decide +kernel
theorem dX9_readWalk_107 : decode cX9_readWalk 107 = .ok (.iastore, 1) := by decide +kernel
theorem dX9_readWalk_108 : decode cX9_readWalk 108 = .ok (.return_, 1) := by decide +kernel
theorem dX9_ready_0 : decode cX9_ready 0 = .ok (.iload 4, 2) := by decide +kernel
theorem dX9_ready_2 : decode cX9_ready 2 = .ok (.ifCond .eq 7, 3) := by decide +kernel
theorem dX9_ready_5 : decode cX9_ready 5 = .ok (.iconst 0, 1) := by decide +kernel
theorem dX9_ready_6 : decode cX9_ready 6 = .ok (.goto 24, 3) := by decide +kernel
theorem dX9_ready_9 : decode cX9_ready 9 = .ok (.iload_n 1, 1) := by decide +kernel
theorem dX9_ready_10 : decode cX9_ready 10 = .ok (.ifCond .ne 7, 3) := by decide +kernel
theorem dX9_ready_13 : decode cX9_ready 13 = .ok (.iconst 0, 1) := by decide +kernel
theorem dX9_ready_14 : decode cX9_ready 14 = .ok (.goto 16, 3) := by decide +kernel
theorem dX9_ready_17 : decode cX9_ready 17 = .ok (.aload_n 0, 1) := by decide +kernel
theorem dX9_ready_18 : decode cX9_ready 18 = .ok (.getfield 26, 3) := by decide +kernel
theorem dX9_ready_21 : decode cX9_ready 21 = .ok (.aload_n 0, 1) := by decide +kernel
theorem dX9_ready_22 : decode cX9_ready 22 = .ok (.getfield 76, 3) := by decide +kernel
theorem dX9_ready_25 : decode cX9_ready 25 = .ok (.iload_n 1, 1) := by decide +kernel
theorem dX9_ready_26 : decode cX9_ready 26 = .ok (.iconst 1, 1) := by decide +kernel
theorem dX9_ready_27 : decode cX9_ready 27 = .ok (.isub, 1) := by decide +kernel
theorem dX9_ready_28 : decode cX9_ready 28 = .ok (.iaload, 1) := by decide +kernel
theorem dX9_ready_29 : decode cX9_ready 29 = .ok (.iaload, 1) := by decide +kernel
theorem dX9_ready_30 : decode cX9_ready 30 = .ok (.istore 5, 2) := by decide +kernel
theorem dX9_ready_32 : decode cX9_ready 32 = .ok (.iload_n 1, 1) := by decide +kernel
theorem dX9_ready_33 : decode cX9_ready 33 = .ok (.ifCond .ne 22, 3) := by decide +kernel
theorem dX9_ready_36 : decode cX9_ready 36 = .ok (.aload_n 0, 1) := by decide +kernel
theorem dX9_ready_37 : decode cX9_ready 37 = .ok (.iload_n 2, 1) := by decide +kernel
theorem dX9_ready_38 : decode cX9_ready 38 = .ok (.aload_n 0, 1) := by decide +kernel
theorem dX9_ready_39 : decode cX9_ready 39 = .ok (.aload_n 0, 1) := by decide +kernel
theorem dX9_ready_40 : decode cX9_ready 40 = .ok (.getfield 73, 3) := by decide +kernel
theorem dX9_ready_43 : decode cX9_ready 43 = .ok (.iconst 0, 1) := by decide +kernel
theorem dX9_ready_44 : decode cX9_ready 44 = .ok (.iaload, 1) := by decide +kernel
theorem dX9_ready_45 : decode cX9_ready 45 = .ok (.iconst 1, 1) := by decide +kernel
theorem dX9_ready_46 : decode cX9_ready 46 = .ok (.invokevirtual 201, 3) := by decide +kernel
theorem dX9_ready_49 : decode cX9_ready 49 = .ok (.invokevirtual 216, 3) := by decide +kernel
theorem dX9_ready_52 : decode cX9_ready 52 = .ok (.goto 21, 3) := by decide +kernel
theorem dX9_ready_55 : decode cX9_ready 55 = .ok (.aload_n 0, 1) := by decide +kernel
theorem dX9_ready_56 : decode cX9_ready 56 = .ok (.aload_n 0, 1) := by decide +kernel
theorem dX9_ready_57 : decode cX9_ready 57 = .ok (.getfield 76, 3) := by decide +kernel
theorem dX9_ready_60 : decode cX9_ready 60 = .ok (.iload_n 1, 1) := by decide +kernel
theorem dX9_ready_61 : decode cX9_ready 61 = .ok (.iconst 1, 1) := by decide +kernel
theorem dX9_ready_62 : decode cX9_ready 62 = .ok (.isub, 1) := by decide +kernel
theorem dX9_ready_63 : decode cX9_ready 63 = .ok (.iaload, 1) := by decide +kernel
theorem dX9_ready_64 : decode cX9_ready 64 = .ok (.aload_n 0, 1) := by decide +kernel
theorem dX9_ready_65 : decode cX9_ready 65 = .ok (.getfield 73, 3) := by decide +kernel
theorem dX9_ready_68 : decode cX9_ready 68 = .ok (.iload_n 1, 1) := by decide +kernel
theorem dX9_ready_69 : decode cX9_ready 69 = .ok (.iaload, 1) := by decide +kernel
theorem dX9_ready_70 : decode cX9_ready 70 = .ok (.invokevirtual 246, 3) := by decide +kernel
theorem dX9_ready_73 : decode cX9_ready 73 = .ok (.istore 6, 2) := by decide +kernel
theorem dX9_ready_75 : decode cX9_ready 75 = .ok (.iload 6, 2) := by decide +kernel
theorem dX9_ready_77 : decode cX9_ready 77 = .ok (.ldc 175, 2) := by decide +kernel
theorem dX9_ready_79 : decode cX9_ready 79 = .ok (.if_icmp .lt 6, 3) := by decide +kernel
theorem dX9_ready_82 : decode cX9_ready 82 = .ok (.ldc 175, 2) := by decide +kernel
theorem dX9_ready_84 : decode cX9_ready 84 = .ok (.ireturn, 1) := by decide +kernel
theorem dX9_ready_85 : decode cX9_ready 85 = .ok (.iload 6, 2) := by decide +kernel
theorem dX9_ready_87 : decode cX9_ready 87 = .ok (.iload_n 1, 1) := by decide +kernel
theorem dX9_ready_88 : decode cX9_ready 88 = .ok (.ifCond .ne 7, 3) := by decide +kernel
theorem dX9_ready_91 : decode cX9_ready 91 = .ok (.iload_n 3, 1) := by decide +kernel
theorem dX9_ready_92 : decode cX9_ready 92 = .ok (.goto 19, 3) := by decide +kernel
theorem dX9_ready_95 : decode cX9_ready 95 = .ok (.aload_n 0, 1) := by decide +kernel
theorem dX9_ready_96 : decode cX9_ready 96 = .ok (.aload_n 0, 1) := by decide +kernel
theorem dX9_ready_97 : decode cX9_ready 97 = .ok (.getfield 76, 3) := by decide +kernel
theorem dX9_ready_100 : decode cX9_ready 100 = .ok (.iload_n 1, 1) := by decide +kernel
theorem dX9_ready_101 : decode cX9_ready 101 = .ok (.iconst 1, 1) := by decide +kernel
theorem dX9_ready_102 : decode cX9_ready 102 = .ok (.isub, 1) := by decide +kernel
theorem dX9_ready_103 : decode cX9_ready 103 = .ok (.iaload, 1) := by decide +kernel
theorem dX9_ready_104 : decode cX9_ready 104 = .ok (.iconst 4, 1) := by decide +kernel
theorem dX9_ready_105 : decode cX9_ready 105 = .ok (.invokevirtual 201, 3) := by decide +kernel
theorem dX9_ready_108 : decode cX9_ready 108 = .ok (.iload 5, 2) := by decide +kernel
theorem dX9_ready_110 : decode cX9_ready 110 = .ok (.iadd, 1) := by decide +kernel
theorem dX9_ready_111 : decode cX9_ready 111 = .ok (.iadd, 1) := by decide +kernel
theorem dX9_ready_112 : decode cX9_ready 112 = .ok (.ireturn, 1) := by decide +kernel
theorem dX9_ride_0 : decode cX9_ride 0 = .ok (.aload_n 0, 1) := by decide +kernel
theorem dX9_ride_1 : decode cX9_ride 1 = .ok (.iconst 0, 1) := by decide +kernel
theorem dX9_ride_2 : decode cX9_ride 2 = .ok (.putfield 85, 3) := by decide +kernel
theorem dX9_ride_5 : decode cX9_ride 5 = .ok (.aload_n 0, 1) := by decide +kernel
theorem dX9_ride_6 : decode cX9_ride 6 = .ok (.iload_n 1, 1) := by decide +kernel
theorem dX9_ride_7 : decode cX9_ride 7 = .ok (.invokevirtual 204, 3) := by decide +kernel
theorem dX9_ride_10 : decode cX9_ride 10 = .ok (.ifCond .ne 10, 3) := by decide +kernel
theorem dX9_ride_13 : decode cX9_ride 13 = .ok (.aload_n 0, 1) := by decide +kernel
theorem dX9_ride_14 : decode cX9_ride 14 = .ok (.iconst 1, 1) := by decide +kernel
theorem dX9_ride_15 : decode cX9_ride 15 = .ok (.putfield 85, 3) := by decide +kernel
theorem dX9_ride_18 : decode cX9_ride 18 = .ok (.iconst 0, 1) := by decide +kernel
theorem dX9_ride_19 : decode cX9_ride 19 = .ok (.ireturn, 1) := by decide +kernel
theorem dX9_ride_20 : decode cX9_ride 20 = .ok (.iload_n 2, 1) := by decide +kernel
theorem dX9_ride_21 : decode cX9_ride 21 = .ok (.tableswitch 108 0 8 #[51, 51, 51, 51, 51, 58, 58, 74, 88], 51) := by decide +kernel
theorem dX9_ride_72 : decode cX9_ride 72 = .ok (.aload_n 0, 1) := by decide +kernel
theorem dX9_ride_73 : decode cX9_ride 73 = .ok (.iload_n 1, 1) := by decide +kernel
theorem dX9_ride_74 : decode cX9_ride 74 = .ok (.iload_n 2, 1) := by decide +kernel
theorem dX9_ride_75 : decode cX9_ride 75 = .ok (.invokevirtual 201, 3) := by decide +kernel
theorem dX9_ride_78 : decode cX9_ride 78 = .ok (.ireturn, 1) := by decide +kernel
theorem dX9_ride_79 : decode cX9_ride 79 = .ok (.aload_n 0, 1) := by decide +kernel
theorem dX9_ride_80 : decode cX9_ride 80 = .ok (.iload_n 1, 1) := by decide +kernel
theorem dX9_ride_81 : decode cX9_ride 81 = .ok (.iload_n 2, 1) := by decide +kernel
theorem dX9_ride_82 : decode cX9_ride 82 = .ok (.iconst 2, 1) := by decide +kernel
theorem dX9_ride_83 : decode cX9_ride 83 = .ok (.isub, 1) := by decide +kernel
theorem dX9_ride_84 : decode cX9_ride 84 = .ok (.invokevirtual 201, 3) := by decide +kernel
theorem dX9_ride_87 : decode cX9_ride 87 = .ok (.aload_n 0, 1) := by decide +kernel
theorem dX9_ride_88 : decode cX9_ride 88 = .ok (.getfield 26, 3) := by decide +kernel
theorem dX9_ride_91 : decode cX9_ride 91 = .ok (.iload_n 1, 1) := by decide +kernel
theorem dX9_ride_92 : decode cX9_ride 92 = .ok (.iaload, 1) := by decide +kernel
theorem dX9_ride_93 : decode cX9_ride 93 = .ok (.iadd, 1) := by decide +kernel
theorem dX9_ride_94 : decode cX9_ride 94 = .ok (.ireturn, 1) := by decide +kernel
theorem dX9_ride_95 : decode cX9_ride 95 = .ok (.aload_n 0, 1) := by decide +kernel
theorem dX9_ride_96 : decode cX9_ride 96 = .ok (.iload_n 1, 1) := by decide +kernel
theorem dX9_ride_97 : decode cX9_ride 97 = .ok (.invokevirtual 207, 3) := by decide +kernel
theorem dX9_ride_100 : decode cX9_ride 100 = .ok (.ifCond .eq 7, 3) := by decide +kernel
theorem dX9_ride_103 : decode cX9_ride 103 = .ok (.iconst 1, 1) := by decide +kernel
theorem dX9_ride_104 : decode cX9_ride 104 = .ok (.goto 4, 3) := by decide +kernel
theorem dX9_ride_107 : decode cX9_ride 107 = .ok (.iconst 0, 1) := by decide +kernel
theorem dX9_ride_108 : decode cX9_ride 108 = .ok (.ireturn, 1) := by decide +kernel
theorem dX9_ride_109 : decode cX9_ride 109 = .ok (.aload_n 0, 1) := by decide +kernel
theorem dX9_ride_110 : decode cX9_ride 110 = .ok (.iload_n 1, 1) := by decide +kernel
theorem dX9_ride_111 : decode cX9_ride 111 = .ok (.invokevirtual 210, 3) := by decide +kernel
theorem dX9_ride_114 : decode cX9_ride 114 = .ok (.iconst (-1), 1) := by decide +kernel
theorem dX9_ride_115 : decode cX9_ride 115 = .ok (.if_icmp .ne 8, 3) := by decide +kernel
theorem dX9_ride_118 : decode cX9_ride 118 = .ok (.bipush (-2), 2) := by decide +kernel
theorem dX9_ride_120 : decode cX9_ride 120 = .ok (.goto 8, 3) := by decide +kernel
theorem dX9_ride_123 : decode cX9_ride 123 = .ok (.aload_n 0, 1) := by decide +kernel
theorem dX9_ride_124 : decode cX9_ride 124 = .ok (.iload_n 1, 1) := by decide +kernel
theorem dX9_ride_125 : decode cX9_ride 125 = .ok (.invokevirtual 210, 3) := by decide +kernel
theorem dX9_ride_128 : decode cX9_ride 128 = .ok (.ireturn, 1) := by decide +kernel
theorem dX9_ride_129 : decode cX9_ride 129 = .ok (.aload_n 0, 1) := by decide +kernel
theorem dX9_ride_130 : decode cX9_ride 130 = .ok (.iconst 2, 1) := by decide +kernel
theorem dX9_ride_131 : decode cX9_ride 131 = .ok (.putfield 85, 3) := by decide +kernel
theorem dX9_ride_134 : decode cX9_ride 134 = .ok (.iconst 0, 1) := by decide +kernel
theorem dX9_ride_135 : decode cX9_ride 135 = .ok (.ireturn, 1) := by decide +kernel
theorem dX9_rides_0 : decode cX9_rides 0 = .ok (.aload_n 0, 1) := by decide +kernel
theorem dX9_rides_1 : decode cX9_rides 1 = .ok (.getfield 13, 3) := by decide +kernel
theorem dX9_rides_4 : decode cX9_rides 4 = .ok (.iconst 3, 1) := by decide +kernel
theorem dX9_rides_5 : decode cX9_rides 5 = .ok (.iaload, 1) := by decide +kernel
theorem dX9_rides_6 : decode cX9_rides 6 = .ok (.ireturn, 1) := by decide +kernel
theorem dX9_slack_0 : decode cX9_slack 0 = .ok (.ldc 175, 2) := by decide +kernel
theorem dX9_slack_2 : decode cX9_slack 2 = .ok (.istore_n 2, 1) := by decide +kernel
theorem dX9_slack_3 : decode cX9_slack 3 = .ok (.iconst 1, 1) := by decide +kernel
theorem dX9_slack_4 : decode cX9_slack 4 = .ok (.istore_n 3, 1) := by decide +kernel
theorem dX9_slack_5 : decode cX9_slack 5 = .ok (.iload_n 3, 1) := by decide +kernel
theorem dX9_slack_6 : decode cX9_slack 6 = .ok (.iload_n 1, 1) := by decide +kernel
theorem dX9_slack_7 : decode cX9_slack 7 = .ok (.if_icmp .ge 68, 3) := by decide +kernel
theorem dX9_slack_10 : decode cX9_slack 10 = .ok (.aload_n 0, 1) := by decide +kernel
theorem dX9_slack_11 : decode cX9_slack 11 = .ok (.getfield 36, 3) := by decide +kernel
theorem dX9_slack_14 : decode cX9_slack 14 = .ok (.aload_n 0, 1) := by decide +kernel
theorem dX9_slack_15 : decode cX9_slack 15 = .ok (.getfield 64, 3) := by decide +kernel
theorem dX9_slack_18 : decode cX9_slack 18 = .ok (.iload_n 3, 1) := by decide +kernel
theorem dX9_slack_19 : decode cX9_slack 19 = .ok (.iaload, 1) := by decide +kernel
theorem dX9_slack_20 : decode cX9_slack 20 = .ok (.iaload, 1) := by decide +kernel
theorem dX9_slack_21 : decode cX9_slack 21 = .ok (.aload_n 0, 1) := by decide +kernel
theorem dX9_slack_22 : decode cX9_slack 22 = .ok (.getfield 39, 3) := by decide +kernel
theorem dX9_slack_25 : decode cX9_slack 25 = .ok (.aload_n 0, 1) := by decide +kernel
theorem dX9_slack_26 : decode cX9_slack 26 = .ok (.getfield 67, 3) := by decide +kernel
theorem dX9_slack_29 : decode cX9_slack 29 = .ok (.iload_n 3, 1) := by decide +kernel
theorem dX9_slack_30 : decode cX9_slack 30 = .ok (.iconst 1, 1) := by decide +kernel
theorem dX9_slack_31 : decode cX9_slack 31 = .ok (.isub, 1) := by decide +kernel
theorem dX9_slack_32 : decode cX9_slack 32 = .ok (.iaload, 1) := by decide +kernel
theorem dX9_slack_33 : decode cX9_slack 33 = .ok (.iaload, 1) := by decide +kernel
theorem dX9_slack_34 : decode cX9_slack 34 = .ok (.isub, 1) := by decide +kernel
theorem dX9_slack_35 : decode cX9_slack 35 = .ok (.aload_n 0, 1) := by decide +kernel
theorem dX9_slack_36 : decode cX9_slack 36 = .ok (.aload_n 0, 1) := by decide +kernel
theorem dX9_slack_37 : decode cX9_slack 37 = .ok (.getfield 67, 3) := by decide +kernel
theorem dX9_slack_40 : decode cX9_slack 40 = .ok (.iload_n 3, 1) := by decide +kernel
theorem dX9_slack_41 : decode cX9_slack 41 = .ok (.iconst 1, 1) := by decide +kernel
theorem dX9_slack_42 : decode cX9_slack 42 = .ok (.isub, 1) := by decide +kernel
theorem dX9_slack_43 : decode cX9_slack 43 = .ok (.iaload, 1) := by decide +kernel
theorem dX9_slack_44 : decode cX9_slack 44 = .ok (.aload_n 0, 1) := by decide +kernel
theorem dX9_slack_45 : decode cX9_slack 45 = .ok (.getfield 64, 3) := by decide +kernel
theorem dX9_slack_48 : decode cX9_slack 48 = .ok (.iload_n 3, 1) := by decide +kernel
theorem dX9_slack_49 : decode cX9_slack 49 = .ok (.iaload, 1) := by decide +kernel
theorem dX9_slack_50 : decode cX9_slack 50 = .ok (.invokevirtual 246, 3) := by decide +kernel
theorem dX9_slack_53 : decode cX9_slack 53 = .ok (.isub, 1) := by decide +kernel
theorem dX9_slack_54 : decode cX9_slack 54 = .ok (.istore 4, 2) := by decide +kernel
theorem dX9_slack_56 : decode cX9_slack 56 = .ok (.iload 4, 2) := by decide +kernel
theorem dX9_slack_58 : decode cX9_slack 58 = .ok (.iload_n 2, 1) := by decide +kernel
theorem dX9_slack_59 : decode cX9_slack 59 = .ok (.if_icmp .ge 8, 3) := by decide +kernel
theorem dX9_slack_62 : decode cX9_slack 62 = .ok (.iload 4, 2) := by decide +kernel
theorem dX9_slack_64 : decode cX9_slack 64 = .ok (.goto 4, 3) := by decide +kernel
theorem dX9_slack_67 : decode cX9_slack 67 = .ok (.iload_n 2, 1) := by decide +kernel
theorem dX9_slack_68 : decode cX9_slack 68 = .ok (.istore_n 2, 1) := by decide +kernel
theorem dX9_slack_69 : decode cX9_slack 69 = .ok (.iinc 3 1, 3) := by decide +kernel
theorem dX9_slack_72 : decode cX9_slack 72 = .ok (.goto (-67), 3) := by decide +kernel
theorem dX9_slack_75 : decode cX9_slack 75 = .ok (.iload_n 2, 1) := by decide +kernel
theorem dX9_slack_76 : decode cX9_slack 76 = .ok (.ldc 175, 2) := by decide +kernel
theorem dX9_slack_78 : decode cX9_slack 78 = .ok (.if_icmp .lt 8, 3) := by decide +kernel
theorem dX9_slack_81 : decode cX9_slack 81 = .ok (.bipush (-2), 2) := by decide +kernel
theorem dX9_slack_83 : decode cX9_slack 83 = .ok (.goto 4, 3) := by decide +kernel
theorem dX9_slack_86 : decode cX9_slack 86 = .ok (.iload_n 2, 1) := by decide +kernel
theorem dX9_slack_87 : decode cX9_slack 87 = .ok (.ireturn, 1) := by decide +kernel
theorem dX9_slack__0 : decode cX9_slack_ 0 = .ok (.aload_n 0, 1) := by decide +kernel
theorem dX9_slack__1 : decode cX9_slack_ 1 = .ok (.iconst 0, 1) := by decide +kernel
theorem dX9_slack__2 : decode cX9_slack_ 2 = .ok (.putfield 85, 3) := by decide +kernel
theorem dX9_slack__5 : decode cX9_slack_ 5 = .ok (.aload_n 0, 1) := by decide +kernel
theorem dX9_slack__6 : decode cX9_slack_ 6 = .ok (.iload_n 1, 1) := by decide +kernel
theorem dX9_slack__7 : decode cX9_slack_ 7 = .ok (.invokevirtual 204, 3) := by decide +kernel
theorem dX9_slack__10 : decode cX9_slack_ 10 = .ok (.ifCond .eq 38, 3) := by decide +kernel
theorem dX9_slack__13 : decode cX9_slack_ 13 = .ok (.aload_n 0, 1) := by decide +kernel
theorem dX9_slack__14 : decode cX9_slack_ 14 = .ok (.iload_n 2, 1) := by decide +kernel
theorem dX9_slack__15 : decode cX9_slack_ 15 = .ok (.invokevirtual 204, 3) := by decide +kernel
theorem dX9_slack__18 : decode cX9_slack_ 18 = .ok (.ifCond .eq 30, 3) := by decide +kernel
theorem dX9_slack__21 : decode cX9_slack_ 21 = .ok (.aload_n 0, 1) := by decide +kernel
theorem dX9_slack__22 : decode cX9_slack_ 22 = .ok (.iload_n 1, 1) := by decide +kernel
theorem dX9_slack__23 : decode cX9_slack_ 23 = .ok (.invokevirtual 207, 3) := by decide +kernel
theorem dX9_slack__26 : decode cX9_slack_ 26 = .ok (.ifCond .ne 22, 3) := by decide +kernel
theorem dX9_slack__29 : decode cX9_slack_ 29 = .ok (.aload_n 0, 1) := by decide +kernel
theorem dX9_slack__30 : decode cX9_slack_ 30 = .ok (.iload_n 2, 1) := by decide +kernel
theorem dX9_slack__31 : decode cX9_slack_ 31 = .ok (.invokevirtual 207, 3) := by decide +kernel
theorem dX9_slack__34 : decode cX9_slack_ 34 = .ok (.ifCond .ne 14, 3) := by decide +kernel
theorem dX9_slack__37 : decode cX9_slack_ 37 = .ok (.aload_n 0, 1) := by decide +kernel
theorem dX9_slack__38 : decode cX9_slack_ 38 = .ok (.iload_n 1, 1) := by decide +kernel
theorem dX9_slack__39 : decode cX9_slack_ 39 = .ok (.iload_n 2, 1) := by decide +kernel
theorem dX9_slack__40 : decode cX9_slack_ 40 = .ok (.invokevirtual 246, 3) := by decide +kernel
theorem dX9_slack__43 : decode cX9_slack_ 43 = .ok (.ldc 175, 2) := by decide +kernel
theorem dX9_slack__45 : decode cX9_slack_ 45 = .ok (.if_icmp .lt 7, 3) := by decide +kernel
theorem dX9_slack__48 : decode cX9_slack_ 48 = .ok (.sipush (-1000), 3) := by decide +kernel
theorem dX9_slack__51 : decode cX9_slack_ 51 = .ok (.ireturn, 1) := by decide +kernel
theorem dX9_slack__52 : decode cX9_slack_ 52 = .ok (.aload_n 0, 1) := by decide +kernel
theorem dX9_slack__53 : decode cX9_slack_ 53 = .ok (.invokevirtual 290, 3) := by decide +kernel
theorem dX9_slack__56 : decode cX9_slack_ 56 = .ok (.aload_n 0, 1) := by decide +kernel
theorem dX9_slack__57 : decode cX9_slack_ 57 = .ok (.getfield 36, 3) := by decide +kernel
theorem dX9_slack__60 : decode cX9_slack_ 60 = .ok (.iload_n 2, 1) := by decide +kernel
theorem dX9_slack__61 : decode cX9_slack_ 61 = .ok (.iaload, 1) := by decide +kernel
theorem dX9_slack__62 : decode cX9_slack_ 62 = .ok (.aload_n 0, 1) := by decide +kernel
theorem dX9_slack__63 : decode cX9_slack_ 63 = .ok (.getfield 39, 3) := by decide +kernel
theorem dX9_slack__66 : decode cX9_slack_ 66 = .ok (.iload_n 1, 1) := by decide +kernel
theorem dX9_slack__67 : decode cX9_slack_ 67 = .ok (.iaload, 1) := by decide +kernel
theorem dX9_slack__68 : decode cX9_slack_ 68 = .ok (.isub, 1) := by decide +kernel
theorem dX9_slack__69 : decode cX9_slack_ 69 = .ok (.aload_n 0, 1) := by decide +kernel
theorem dX9_slack__70 : decode cX9_slack_ 70 = .ok (.iload_n 1, 1) := by decide +kernel
theorem dX9_slack__71 : decode cX9_slack_ 71 = .ok (.iload_n 2, 1) := by decide +kernel
theorem dX9_slack__72 : decode cX9_slack_ 72 = .ok (.invokevirtual 246, 3) := by decide +kernel
theorem dX9_slack__75 : decode cX9_slack_ 75 = .ok (.isub, 1) := by decide +kernel
theorem dX9_slack__76 : decode cX9_slack_ 76 = .ok (.ireturn, 1) := by decide +kernel
theorem dX9_spare_0 : decode cX9_spare 0 = .ok (.aload_n 0, 1) := by decide +kernel
theorem dX9_spare_1 : decode cX9_spare 1 = .ok (.iconst 0, 1) := by decide +kernel
theorem dX9_spare_2 : decode cX9_spare 2 = .ok (.putfield 85, 3) := by decide +kernel
theorem dX9_spare_5 : decode cX9_spare 5 = .ok (.aload_n 0, 1) := by decide +kernel
theorem dX9_spare_6 : decode cX9_spare 6 = .ok (.iload_n 1, 1) := by decide +kernel
theorem dX9_spare_7 : decode cX9_spare 7 = .ok (.iload_n 2, 1) := by decide +kernel
theorem dX9_spare_8 : decode cX9_spare 8 = .ok (.iload_n 3, 1) := by decide +kernel
theorem dX9_spare_9 : decode cX9_spare 9 = .ok (.invokevirtual 346, 3) := by decide +kernel
theorem dX9_spare_12 : decode cX9_spare 12 = .ok (.ifCond .ne 5, 3) := by decide +kernel
theorem dX9_spare_15 : decode cX9_spare 15 = .ok (.iconst (-1), 1) := by decide +kernel
theorem dX9_spare_16 : decode cX9_spare 16 = .ok (.ireturn, 1) := by decide +kernel
theorem dX9_spare_17 : decode cX9_spare 17 = .ok (.aload_n 0, 1) := by decide +kernel
theorem dX9_spare_18 : decode cX9_spare 18 = .ok (.getfield 186, 3) := by decide +kernel
theorem dX9_spare_21 : decode cX9_spare 21 = .ok (.ifCond .eq 14, 3) := by decide +kernel
theorem dX9_spare_24 : decode cX9_spare 24 = .ok (.aload_n 0, 1) := by decide +kernel
theorem dX9_spare_25 : decode cX9_spare 25 = .ok (.iload_n 1, 1) := by decide +kernel
theorem dX9_spare_26 : decode cX9_spare 26 = .ok (.iload_n 2, 1) := by decide +kernel
theorem dX9_spare_27 : decode cX9_spare 27 = .ok (.iload_n 3, 1) := by decide +kernel
theorem dX9_spare_28 : decode cX9_spare 28 = .ok (.iconst 0, 1) := by decide +kernel
theorem dX9_spare_29 : decode cX9_spare 29 = .ok (.invokevirtual 349, 3) := by decide +kernel
theorem dX9_spare_32 : decode cX9_spare 32 = .ok (.ifCond .eq 6, 3) := by decide +kernel
theorem dX9_spare_35 : decode cX9_spare 35 = .ok (.bipush (-2), 2) := by decide +kernel
theorem dX9_spare_37 : decode cX9_spare 37 = .ok (.ireturn, 1) := by decide +kernel
theorem dX9_spare_38 : decode cX9_spare 38 = .ok (.ldc 175, 2) := by decide +kernel
theorem dX9_spare_40 : decode cX9_spare 40 = .ok (.istore 4, 2) := by decide +kernel
theorem dX9_spare_42 : decode cX9_spare 42 = .ok (.iconst 0, 1) := by decide +kernel
theorem dX9_spare_43 : decode cX9_spare 43 = .ok (.istore 5, 2) := by decide +kernel
theorem dX9_spare_45 : decode cX9_spare 45 = .ok (.iload 5, 2) := by decide +kernel
theorem dX9_spare_47 : decode cX9_spare 47 = .ok (.aload_n 0, 1) := by decide +kernel
theorem dX9_spare_48 : decode cX9_spare 48 = .ok (.getfield 186, 3) := by decide +kernel
theorem dX9_spare_51 : decode cX9_spare 51 = .ok (.if_icmp .ge 44, 3) := by decide +kernel
theorem dX9_spare_54 : decode cX9_spare 54 = .ok (.aload_n 0, 1) := by decide +kernel
theorem dX9_spare_55 : decode cX9_spare 55 = .ok (.iload 5, 2) := by decide +kernel
theorem dX9_spare_57 : decode cX9_spare 57 = .ok (.iconst 0, 1) := by decide +kernel
theorem dX9_spare_58 : decode cX9_spare 58 = .ok (.invokevirtual 342, 3) := by decide +kernel
theorem dX9_spare_61 : decode cX9_spare 61 = .ok (.aload_n 0, 1) := by decide +kernel
theorem dX9_spare_62 : decode cX9_spare 62 = .ok (.iload 5, 2) := by decide +kernel
theorem dX9_spare_64 : decode cX9_spare 64 = .ok (.iload_n 1, 1) := by decide +kernel
theorem dX9_spare_65 : decode cX9_spare 65 = .ok (.iload_n 3, 1) := by decide +kernel
theorem dX9_spare_66 : decode cX9_spare 66 = .ok (.iconst 0, 1) := by decide +kernel
theorem dX9_spare_67 : decode cX9_spare 67 = .ok (.invokevirtual 338, 3) := by decide +kernel
theorem dX9_spare_70 : decode cX9_spare 70 = .ok (.isub, 1) := by decide +kernel
theorem dX9_spare_71 : decode cX9_spare 71 = .ok (.istore 6, 2) := by decide +kernel
theorem dX9_spare_73 : decode cX9_spare 73 = .ok (.iload 6, 2) := by decide +kernel
theorem dX9_spare_75 : decode cX9_spare 75 = .ok (.iload 4, 2) := by decide +kernel
theorem dX9_spare_77 : decode cX9_spare 77 = .ok (.if_icmp .ge 8, 3) := by decide +kernel
theorem dX9_spare_80 : decode cX9_spare 80 = .ok (.iload 6, 2) := by decide +kernel
theorem dX9_spare_82 : decode cX9_spare 82 = .ok (.goto 5, 3) := by decide +kernel
theorem dX9_spare_85 : decode cX9_spare 85 = .ok (.iload 4, 2) := by decide +kernel
theorem dX9_spare_87 : decode cX9_spare 87 = .ok (.istore 4, 2) := by decide +kernel
theorem dX9_spare_89 : decode cX9_spare 89 = .ok (.iinc 5 1, 3) := by decide +kernel
theorem dX9_spare_92 : decode cX9_spare 92 = .ok (.goto (-47), 3) := by decide +kernel
theorem dX9_spare_95 : decode cX9_spare 95 = .ok (.iload 4, 2) := by decide +kernel
theorem dX9_spare_97 : decode cX9_spare 97 = .ok (.ireturn, 1) := by decide +kernel
theorem dX9_stay_0 : decode cX9_stay 0 = .ok (.aload_n 0, 1) := by decide +kernel
theorem dX9_stay_1 : decode cX9_stay 1 = .ok (.iconst 0, 1) := by decide +kernel
theorem dX9_stay_2 : decode cX9_stay 2 = .ok (.putfield 85, 3) := by decide +kernel
theorem dX9_stay_5 : decode cX9_stay 5 = .ok (.aload_n 0, 1) := by decide +kernel
theorem dX9_stay_6 : decode cX9_stay 6 = .ok (.iload_n 1, 1) := by decide +kernel
theorem dX9_stay_7 : decode cX9_stay 7 = .ok (.iload_n 2, 1) := by decide +kernel
theorem dX9_stay_8 : decode cX9_stay 8 = .ok (.invokevirtual 287, 3) := by decide +kernel
theorem dX9_stay_11 : decode cX9_stay 11 = .ok (.ifCond .eq 23, 3) := by decide +kernel
theorem dX9_stay_14 : decode cX9_stay 14 = .ok (.iload_n 3, 1) := by decide +kernel
theorem dX9_stay_15 : decode cX9_stay 15 = .ok (.invokestatic 320, 3) := by decide +kernel
theorem dX9_stay_18 : decode cX9_stay 18 = .ok (.ifCond .eq 16, 3) := by decide +kernel
theorem dX9_stay_21 : decode cX9_stay 21 = .ok (.iload 4, 2) := by decide +kernel
theorem dX9_stay_23 : decode cX9_stay 23 = .ok (.ifCond .lt 11, 3) := by decide +kernel
theorem dX9_stay_26 : decode cX9_stay 26 = .ok (.iload 4, 2) := by decide +kernel
theorem dX9_stay_28 : decode cX9_stay 28 = .ok (.sipush 2000, 3) := by decide +kernel
theorem dX9_stay_31 : decode cX9_stay 31 = .ok (.if_icmp .le 5, 3) := by decide +kernel
theorem dX9_stay_34 : decode cX9_stay 34 = .ok (.iconst (-1), 1) := by decide +kernel
theorem dX9_stay_35 : decode cX9_stay 35 = .ok (.ireturn, 1) := by decide +kernel
theorem dX9_stay_36 : decode cX9_stay 36 = .ok (.aload_n 0, 1) := by decide +kernel
theorem dX9_stay_37 : decode cX9_stay 37 = .ok (.invokevirtual 290, 3) := by decide +kernel
theorem dX9_stay_40 : decode cX9_stay 40 = .ok (.aload_n 0, 1) := by decide +kernel
theorem dX9_stay_41 : decode cX9_stay 41 = .ok (.iload_n 1, 1) := by decide +kernel
theorem dX9_stay_42 : decode cX9_stay 42 = .ok (.iload_n 2, 1) := by decide +kernel
theorem dX9_stay_43 : decode cX9_stay 43 = .ok (.iload_n 3, 1) := by decide +kernel
theorem dX9_stay_44 : decode cX9_stay 44 = .ok (.iconst 4, 1) := by decide +kernel
theorem dX9_stay_45 : decode cX9_stay 45 = .ok (.invokevirtual 316, 3) := by decide +kernel
theorem dX9_stay_48 : decode cX9_stay 48 = .ok (.istore 5, 2) := by decide +kernel
theorem dX9_stay_50 : decode cX9_stay 50 = .ok (.aload_n 0, 1) := by decide +kernel
theorem dX9_stay_51 : decode cX9_stay 51 = .ok (.iload_n 2, 1) := by decide +kernel
theorem dX9_stay_52 : decode cX9_stay 52 = .ok (.iload_n 1, 1) := by decide +kernel
theorem dX9_stay_53 : decode cX9_stay 53 = .ok (.iload 4, 2) := by decide +kernel
theorem dX9_stay_55 : decode cX9_stay 55 = .ok (.invokevirtual 329, 3) := by decide +kernel
theorem dX9_stay_58 : decode cX9_stay 58 = .ok (.istore 6, 2) := by decide +kernel
theorem dX9_stay_60 : decode cX9_stay 60 = .ok (.iload 5, 2) := by decide +kernel
theorem dX9_stay_62 : decode cX9_stay 62 = .ok (.ldc 175, 2) := by decide +kernel
theorem dX9_stay_64 : decode cX9_stay 64 = .ok (.if_icmp .ge 10, 3) := by decide +kernel
theorem dX9_stay_67 : decode cX9_stay 67 = .ok (.iload 6, 2) := by decide +kernel
theorem dX9_stay_69 : decode cX9_stay 69 = .ok (.bipush (-2), 2) := by decide +kernel
theorem dX9_stay_71 : decode cX9_stay 71 = .ok (.if_icmp .ne 6, 3) := by decide +kernel
theorem dX9_stay_74 : decode cX9_stay 74 = .ok (.bipush (-2), 2) := by decide +kernel
theorem dX9_stay_76 : decode cX9_stay 76 = .ok (.ireturn, 1) := by decide +kernel
theorem dX9_stay_77 : decode cX9_stay 77 = .ok (.iload 6, 2) := by decide +kernel
theorem dX9_stay_79 : decode cX9_stay 79 = .ok (.iload 5, 2) := by decide +kernel
theorem dX9_stay_81 : decode cX9_stay 81 = .ok (.if_icmp .ge 8, 3) := by decide +kernel
theorem dX9_stay_84 : decode cX9_stay 84 = .ok (.bipush (-3), 2) := by decide +kernel
theorem dX9_stay_86 : decode cX9_stay 86 = .ok (.goto 8, 3) := by decide +kernel
theorem dX9_stay_89 : decode cX9_stay 89 = .ok (.iload 6, 2) := by decide +kernel
theorem dX9_stay_91 : decode cX9_stay 91 = .ok (.iload 5, 2) := by decide +kernel
theorem dX9_stay_93 : decode cX9_stay 93 = .ok (.isub, 1) := by decide +kernel
theorem dX9_stay_94 : decode cX9_stay 94 = .ok (.ireturn, 1) := by decide +kernel
theorem dX9_stays_0 : decode cX9_stays 0 = .ok (.lload_n 1, 1) := by decide +kernel
theorem dX9_stays_1 : decode cX9_stays 1 = .ok (.lstore_n 3, 1) := by decide +kernel
theorem dX9_stays_2 : decode cX9_stays 2 = .ok (.iconst 0, 1) := by decide +kernel
theorem dX9_stays_3 : decode cX9_stays 3 = .ok (.istore 5, 2) := by decide +kernel
theorem dX9_stays_5 : decode cX9_stays 5 = .ok (.iload 5, 2) := by decide +kernel
theorem dX9_stays_7 : decode cX9_stays 7 = .ok (.iconst 1, 1) := by decide +kernel
theorem dX9_stays_8 : decode cX9_stays 8 = .ok (.iadd, 1) := by decide +kernel
theorem dX9_stays_9 : decode cX9_stays 9 = .ok (.aload_n 0, 1) := by decide +kernel
theorem dX9_stays_10 : decode cX9_stays 10 = .ok (.invokevirtual 198, 3) := by decide +kernel
theorem dX9_stays_13 : decode cX9_stays 13 = .ok (.if_icmp .ge 71, 3) := by decide +kernel
theorem dX9_stays_16 : decode cX9_stays 16 = .ok (.lload_n 3, 1) := by decide +kernel
theorem dX9_stays_17 : decode cX9_stays 17 = .ok (.iload 5, 2) := by decide +kernel
theorem dX9_stays_19 : decode cX9_stays 19 = .ok (.lshr, 1) := by decide +kernel
theorem dX9_stays_20 : decode cX9_stays 20 = .ok (.lconst 1, 1) := by decide +kernel
theorem dX9_stays_21 : decode cX9_stays 21 = .ok (.land, 1) := by decide +kernel
theorem dX9_stays_22 : decode cX9_stays 22 = .ok (.lconst 1, 1) := by decide +kernel
theorem dX9_stays_23 : decode cX9_stays 23 = .ok (.lcmp, 1) := by decide +kernel
theorem dX9_stays_24 : decode cX9_stays 24 = .ok (.ifCond .ne 33, 3) := by decide +kernel
theorem dX9_stays_27 : decode cX9_stays 27 = .ok (.aload_n 0, 1) := by decide +kernel
theorem dX9_stays_28 : decode cX9_stays 28 = .ok (.iload 5, 2) := by decide +kernel
theorem dX9_stays_30 : decode cX9_stays 30 = .ok (.invokevirtual 210, 3) := by decide +kernel
theorem dX9_stays_33 : decode cX9_stays 33 = .ok (.iconst (-1), 1) := by decide +kernel
theorem dX9_stays_34 : decode cX9_stays 34 = .ok (.if_icmp .eq 23, 3) := by decide +kernel
theorem dX9_stays_37 : decode cX9_stays 37 = .ok (.aload_n 0, 1) := by decide +kernel
theorem dX9_stays_38 : decode cX9_stays 38 = .ok (.getfield 243, 3) := by decide +kernel
theorem dX9_stays_41 : decode cX9_stays 41 = .ok (.iload 5, 2) := by decide +kernel
theorem dX9_stays_43 : decode cX9_stays 43 = .ok (.iconst 1, 1) := by decide +kernel
theorem dX9_stays_44 : decode cX9_stays 44 = .ok (.iadd, 1) := by decide +kernel
theorem dX9_stays_45 : decode cX9_stays 45 = .ok (.lshr, 1) := by decide +kernel
theorem dX9_stays_46 : decode cX9_stays 46 = .ok (.lconst 1, 1) := by decide +kernel
theorem dX9_stays_47 : decode cX9_stays 47 = .ok (.land, 1) := by decide +kernel
theorem dX9_stays_48 : decode cX9_stays 48 = .ok (.lconst 0, 1) := by decide +kernel
theorem dX9_stays_49 : decode cX9_stays 49 = .ok (.lcmp, 1) := by decide +kernel
theorem dX9_stays_50 : decode cX9_stays 50 = .ok (.ifCond .ne 7, 3) := by decide +kernel
theorem dX9_stays_53 : decode cX9_stays 53 = .ok (.iconst 1, 1) := by decide +kernel
theorem dX9_stays_54 : decode cX9_stays 54 = .ok (.goto 4, 3) := by decide +kernel
theorem dX9_stays_57 : decode cX9_stays 57 = .ok (.iconst 0, 1) := by decide +kernel
theorem dX9_stays_58 : decode cX9_stays 58 = .ok (.istore 6, 2) := by decide +kernel
theorem dX9_stays_60 : decode cX9_stays 60 = .ok (.lload_n 3, 1) := by decide +kernel
theorem dX9_stays_61 : decode cX9_stays 61 = .ok (.iload 6, 2) := by decide +kernel
theorem dX9_stays_63 : decode cX9_stays 63 = .ok (.ifCond .eq 12, 3) := by decide +kernel
theorem dX9_stays_66 : decode cX9_stays 66 = .ok (.lconst 1, 1) := by decide +kernel
theorem dX9_stays_67 : decode cX9_stays 67 = .ok (.iload 5, 2) := by decide +kernel
theorem dX9_stays_69 : decode cX9_stays 69 = .ok (.iconst 1, 1) := by decide +kernel
theorem dX9_stays_70 : decode cX9_stays 70 = .ok (.iadd, 1) := by decide +kernel
theorem dX9_stays_71 : decode cX9_stays 71 = .ok (.lshl, 1) := by decide +kernel
theorem dX9_stays_72 : decode cX9_stays 72 = .ok (.goto 4, 3) := by decide +kernel
theorem dX9_stays_75 : decode cX9_stays 75 = .ok (.lconst 0, 1) := by decide +kernel
theorem dX9_stays_76 : decode cX9_stays 76 = .ok (.lor, 1) := by decide +kernel
theorem dX9_stays_77 : decode cX9_stays 77 = .ok (.lstore_n 3, 1) := by decide +kernel
theorem dX9_stays_78 : decode cX9_stays 78 = .ok (.iinc 5 1, 3) := by decide +kernel
theorem dX9_stays_81 : decode cX9_stays 81 = .ok (.goto (-76), 3) := by decide +kernel
theorem dX9_stays_84 : decode cX9_stays 84 = .ok (.lload_n 3, 1) := by decide +kernel
theorem dX9_stays_85 : decode cX9_stays 85 = .ok (.lreturn, 1) := by decide +kernel
theorem dX9_stop_0 : decode cX9_stop 0 = .ok (.aload_n 0, 1) := by decide +kernel
theorem dX9_stop_1 : decode cX9_stop 1 = .ok (.getfield 132, 3) := by decide +kernel
theorem dX9_stop_4 : decode cX9_stop 4 = .ok (.ifCond .ne 23, 3) := by decide +kernel
theorem dX9_stop_7 : decode cX9_stop 7 = .ok (.aload_n 0, 1) := by decide +kernel
theorem dX9_stop_8 : decode cX9_stop 8 = .ok (.invokevirtual 152, 3) := by decide +kernel
theorem dX9_stop_11 : decode cX9_stop 11 = .ok (.ifCond .eq 11, 3) := by decide +kernel
theorem dX9_stop_14 : decode cX9_stop 14 = .ok (.aload_n 0, 1) := by decide +kernel
theorem dX9_stop_15 : decode cX9_stop 15 = .ok (.invokevirtual 156, 3) := by decide +kernel
theorem dX9_stop_18 : decode cX9_stop 18 = .ok (.iconst (-1), 1) := by decide +kernel
theorem dX9_stop_19 : decode cX9_stop 19 = .ok (.if_icmp .ne 8, 3) := by decide +kernel
theorem dX9_stop_22 : decode cX9_stop 22 = .ok (.aload_n 0, 1) := by decide +kernel
theorem dX9_stop_23 : decode cX9_stop 23 = .ok (.iconst 1, 1) := by decide +kernel
theorem dX9_stop_24 : decode cX9_stop 24 = .ok (.invokevirtual 141, 3) := by decide +kernel
theorem dX9_stop_27 : decode cX9_stop 27 = .ok (.aload_n 0, 1) := by decide +kernel
theorem dX9_stop_28 : decode cX9_stop 28 = .ok (.getfield 132, 3) := by decide +kernel
theorem dX9_stop_31 : decode cX9_stop 31 = .ok (.ifCond .ne 10, 3) := by decide +kernel
theorem dX9_stop_34 : decode cX9_stop 34 = .ok (.aload_n 0, 1) := by decide +kernel
theorem dX9_stop_35 : decode cX9_stop 35 = .ok (.invokevirtual 156, 3) := by decide +kernel
theorem dX9_stop_38 : decode cX9_stop 38 = .ok (.goto 4, 3) := by decide +kernel
theorem dX9_stop_41 : decode cX9_stop 41 = .ok (.iconst 0, 1) := by decide +kernel
theorem dX9_stop_42 : decode cX9_stop 42 = .ok (.istore_n 2, 1) := by decide +kernel
theorem dX9_stop_43 : decode cX9_stop 43 = .ok (.aload_n 0, 1) := by decide +kernel
theorem dX9_stop_44 : decode cX9_stop 44 = .ok (.getfield 132, 3) := by decide +kernel
theorem dX9_stop_47 : decode cX9_stop 47 = .ok (.ifCond .ne 13, 3) := by decide +kernel
theorem dX9_stop_50 : decode cX9_stop 50 = .ok (.iload_n 2, 1) := by decide +kernel
theorem dX9_stop_51 : decode cX9_stop 51 = .ok (.iload_n 1, 1) := by decide +kernel
theorem dX9_stop_52 : decode cX9_stop 52 = .ok (.if_icmp .ne 8, 3) := by decide +kernel
theorem dX9_stop_55 : decode cX9_stop 55 = .ok (.aload_n 0, 1) := by decide +kernel
theorem dX9_stop_56 : decode cX9_stop 56 = .ok (.iconst 3, 1) := by decide +kernel
theorem dX9_stop_57 : decode cX9_stop 57 = .ok (.invokevirtual 141, 3) := by decide +kernel
theorem dX9_stop_60 : decode cX9_stop 60 = .ok (.aload_n 0, 1) := by decide +kernel
theorem dX9_stop_61 : decode cX9_stop 61 = .ok (.invokevirtual 149, 3) := by decide +kernel
theorem dX9_stop_64 : decode cX9_stop 64 = .ok (.iload_n 2, 1) := by decide +kernel
theorem dX9_stop_65 : decode cX9_stop 65 = .ok (.ireturn, 1) := by decide +kernel
theorem dX9_stopNamed_0 : decode cX9_stopNamed 0 = .ok (.iconst 0, 1) := by decide +kernel
theorem dX9_stopNamed_1 : decode cX9_stopNamed 1 = .ok (.istore_n 1, 1) := by decide +kernel
theorem dX9_stopNamed_2 : decode cX9_stopNamed 2 = .ok (.iload_n 1, 1) := by decide +kernel
theorem dX9_stopNamed_3 : decode cX9_stopNamed 3 = .ok (.aload_n 0, 1) := by decide +kernel
theorem dX9_stopNamed_4 : decode cX9_stopNamed 4 = .ok (.getfield 16, 3) := by decide +kernel
theorem dX9_stopNamed_7 : decode cX9_stopNamed 7 = .ok (.iconst 0, 1) := by decide +kernel
theorem dX9_stopNamed_8 : decode cX9_stopNamed 8 = .ok (.iaload, 1) := by decide +kernel
theorem dX9_stopNamed_9 : decode cX9_stopNamed 9 = .ok (.if_icmp .ge 24, 3) := by decide +kernel
theorem dX9_stopNamed_12 : decode cX9_stopNamed 12 = .ok (.aload_n 0, 1) := by decide +kernel
theorem dX9_stopNamed_13 : decode cX9_stopNamed 13 = .ok (.getfield 19, 3) := by decide +kernel
theorem dX9_stopNamed_16 : decode cX9_stopNamed 16 = .ok (.iload_n 1, 1) := by decide +kernel
theorem dX9_stopNamed_17 : decode cX9_stopNamed 17 = .ok (.iaload, 1) := by decide +kernel
theorem dX9_stopNamed_18 : decode cX9_stopNamed 18 = .ok (.aload_n 0, 1) := by decide +kernel
theorem dX9_stopNamed_19 : decode cX9_stopNamed 19 = .ok (.getfield 111, 3) := by decide +kernel
theorem dX9_stopNamed_22 : decode cX9_stopNamed 22 = .ok (.if_icmp .ne 5, 3) := by decide +kernel
theorem dX9_stopNamed_25 : decode cX9_stopNamed 25 = .ok (.iload_n 1, 1) := by decide +kernel
theorem dX9_stopNamed_26 : decode cX9_stopNamed 26 = .ok (.ireturn, 1) := by decide +kernel
theorem dX9_stopNamed_27 : decode cX9_stopNamed 27 = .ok (.iinc 1 1, 3) := by decide +kernel
theorem dX9_stopNamed_30 : decode cX9_stopNamed 30 = .ok (.goto (-28), 3) := by decide +kernel
theorem dX9_stopNamed_33 : decode cX9_stopNamed 33 = .ok (.iconst (-1), 1) := by decide +kernel
theorem dX9_stopNamed_34 : decode cX9_stopNamed 34 = .ok (.ireturn, 1) := by decide +kernel
theorem dX9_stops_0 : decode cX9_stops 0 = .ok (.aload_n 0, 1) := by decide +kernel
theorem dX9_stops_1 : decode cX9_stops 1 = .ok (.getfield 13, 3) := by decide +kernel
theorem dX9_stops_4 : decode cX9_stops 4 = .ok (.iconst 0, 1) := by decide +kernel
theorem dX9_stops_5 : decode cX9_stops 5 = .ok (.iaload, 1) := by decide +kernel
theorem dX9_stops_6 : decode cX9_stops 6 = .ok (.ireturn, 1) := by decide +kernel
theorem dX9_text_0 : decode cX9_text 0 = .ok (.aload_n 0, 1) := by decide +kernel
theorem dX9_text_1 : decode cX9_text 1 = .ok (.iconst 0, 1) := by decide +kernel
theorem dX9_text_2 : decode cX9_text 2 = .ok (.putfield 85, 3) := by decide +kernel
theorem dX9_text_5 : decode cX9_text 5 = .ok (.iload_n 1, 1) := by decide +kernel
theorem dX9_text_6 : decode cX9_text 6 = .ok (.ifCond .lt 11, 3) := by decide +kernel
theorem dX9_text_9 : decode cX9_text 9 = .ok (.iload_n 1, 1) := by decide +kernel
theorem dX9_text_10 : decode cX9_text 10 = .ok (.aload_n 0, 1) := by decide +kernel
theorem dX9_text_11 : decode cX9_text 11 = .ok (.getfield 88, 3) := by decide +kernel
theorem dX9_text_14 : decode cX9_text 14 = .ok (.if_icmp .le 6, 3) := by decide +kernel
theorem dX9_text_17 : decode cX9_text 17 = .ok (.bipush (-2), 2) := by decide +kernel
theorem dX9_text_19 : decode cX9_text 19 = .ok (.ireturn, 1) := by decide +kernel
theorem dX9_text_20 : decode cX9_text 20 = .ok (.aload_n 0, 1) := by decide +kernel
theorem dX9_text_21 : decode cX9_text 21 = .ok (.invokevirtual 79, 3) := by decide +kernel
theorem dX9_text_24 : decode cX9_text 24 = .ok (.aload_n 0, 1) := by decide +kernel
theorem dX9_text_25 : decode cX9_text 25 = .ok (.iload_n 1, 1) := by decide +kernel
theorem dX9_text_26 : decode cX9_text 26 = .ok (.putfield 94, 3) := by decide +kernel
theorem dX9_text_29 : decode cX9_text 29 = .ok (.aload_n 0, 1) := by decide +kernel
theorem dX9_text_30 : decode cX9_text 30 = .ok (.iconst 0, 1) := by decide +kernel
theorem dX9_text_31 : decode cX9_text 31 = .ok (.putfield 91, 3) := by decide +kernel
theorem dX9_text_34 : decode cX9_text 34 = .ok (.aload_n 0, 1) := by decide +kernel
theorem dX9_text_35 : decode cX9_text 35 = .ok (.iconst 0, 1) := by decide +kernel
theorem dX9_text_36 : decode cX9_text 36 = .ok (.putfield 132, 3) := by decide +kernel
theorem dX9_text_39 : decode cX9_text 39 = .ok (.aload_n 0, 1) := by decide +kernel
theorem dX9_text_40 : decode cX9_text 40 = .ok (.invokevirtual 138, 3) := by decide +kernel
theorem dX9_text_43 : decode cX9_text 43 = .ok (.aload_n 0, 1) := by decide +kernel
theorem dX9_text_44 : decode cX9_text 44 = .ok (.getfield 132, 3) := by decide +kernel
theorem dX9_text_47 : decode cX9_text 47 = .ok (.ifCond .ne 18, 3) := by decide +kernel
theorem dX9_text_50 : decode cX9_text 50 = .ok (.aload_n 0, 1) := by decide +kernel
theorem dX9_text_51 : decode cX9_text 51 = .ok (.getfield 104, 3) := by decide +kernel
theorem dX9_text_54 : decode cX9_text 54 = .ok (.iconst 3, 1) := by decide +kernel
theorem dX9_text_55 : decode cX9_text 55 = .ok (.if_icmp .eq 10, 3) := by decide +kernel
theorem dX9_text_58 : decode cX9_text 58 = .ok (.aload_n 0, 1) := by decide +kernel
theorem dX9_text_59 : decode cX9_text 59 = .ok (.invokevirtual 189, 3) := by decide +kernel
theorem dX9_text_62 : decode cX9_text 62 = .ok (.goto (-19), 3) := by decide +kernel
theorem dX9_text_65 : decode cX9_text 65 = .ok (.aload_n 0, 1) := by decide +kernel
theorem dX9_text_66 : decode cX9_text 66 = .ok (.iconst 0, 1) := by decide +kernel
theorem dX9_text_67 : decode cX9_text 67 = .ok (.putfield 88, 3) := by decide +kernel
theorem dX9_text_70 : decode cX9_text 70 = .ok (.aload_n 0, 1) := by decide +kernel
theorem dX9_text_71 : decode cX9_text 71 = .ok (.aload_n 0, 1) := by decide +kernel
theorem dX9_text_72 : decode cX9_text 72 = .ok (.getfield 132, 3) := by decide +kernel
theorem dX9_text_75 : decode cX9_text 75 = .ok (.putfield 192, 3) := by decide +kernel
theorem dX9_text_78 : decode cX9_text 78 = .ok (.aload_n 0, 1) := by decide +kernel
theorem dX9_text_79 : decode cX9_text 79 = .ok (.aload_n 0, 1) := by decide +kernel
theorem dX9_text_80 : decode cX9_text 80 = .ok (.getfield 132, 3) := by decide +kernel
theorem dX9_text_83 : decode cX9_text 83 = .ok (.ifCond .ne 7, 3) := by decide +kernel
theorem dX9_text_86 : decode cX9_text 86 = .ok (.iconst (-1), 1) := by decide +kernel
theorem dX9_text_87 : decode cX9_text 87 = .ok (.goto 7, 3) := by decide +kernel
theorem dX9_text_90 : decode cX9_text 90 = .ok (.aload_n 0, 1) := by decide +kernel
theorem dX9_text_91 : decode cX9_text 91 = .ok (.getfield 135, 3) := by decide +kernel
theorem dX9_text_94 : decode cX9_text 94 = .ok (.putfield 22, 3) := by decide +kernel
theorem dX9_text_97 : decode cX9_text 97 = .ok (.aload_n 0, 1) := by decide +kernel
theorem dX9_text_98 : decode cX9_text 98 = .ok (.getfield 132, 3) := by decide +kernel
theorem dX9_text_101 : decode cX9_text 101 = .ok (.ifCond .eq 5, 3) := by decide +kernel
theorem dX9_text_104 : decode cX9_text 104 = .ok (.iconst (-1), 1) := by decide +kernel
theorem dX9_text_105 : decode cX9_text 105 = .ok (.ireturn, 1) := by decide +kernel
theorem dX9_text_106 : decode cX9_text 106 = .ok (.aload_n 0, 1) := by decide +kernel
theorem dX9_text_107 : decode cX9_text 107 = .ok (.invokevirtual 82, 3) := by decide +kernel
theorem dX9_text_110 : decode cX9_text 110 = .ok (.aload_n 0, 1) := by decide +kernel
theorem dX9_text_111 : decode cX9_text 111 = .ok (.getfield 13, 3) := by decide +kernel
theorem dX9_text_114 : decode cX9_text 114 = .ok (.iconst 4, 1) := by decide +kernel
theorem dX9_text_115 : decode cX9_text 115 = .ok (.iaload, 1) := by decide +kernel
theorem dX9_text_116 : decode cX9_text 116 = .ok (.ireturn, 1) := by decide +kernel
theorem dX9_thrown_0 : decode cX9_thrown 0 = .ok (.aload_n 0, 1) := by decide +kernel
theorem dX9_thrown_1 : decode cX9_thrown 1 = .ok (.getfield 85, 3) := by decide +kernel
theorem dX9_thrown_4 : decode cX9_thrown 4 = .ok (.ireturn, 1) := by decide +kernel
theorem dX9_timeAt_0 : decode cX9_timeAt 0 = .ok (.iload 4, 2) := by decide +kernel
theorem dX9_timeAt_2 : decode cX9_timeAt 2 = .ok (.ifCond .eq 12, 3) := by decide +kernel
theorem dX9_timeAt_5 : decode cX9_timeAt 5 = .ok (.aload_n 0, 1) := by decide +kernel
theorem dX9_timeAt_6 : decode cX9_timeAt 6 = .ok (.getfield 39, 3) := by decide +kernel
theorem dX9_timeAt_9 : decode cX9_timeAt 9 = .ok (.iload_n 1, 1) := by decide +kernel
theorem dX9_timeAt_10 : decode cX9_timeAt 10 = .ok (.iaload, 1) := by decide +kernel
theorem dX9_timeAt_11 : decode cX9_timeAt 11 = .ok (.goto 9, 3) := by decide +kernel
theorem dX9_timeAt_14 : decode cX9_timeAt 14 = .ok (.aload_n 0, 1) := by decide +kernel
theorem dX9_timeAt_15 : decode cX9_timeAt 15 = .ok (.getfield 36, 3) := by decide +kernel
theorem dX9_timeAt_18 : decode cX9_timeAt 18 = .ok (.iload_n 1, 1) := by decide +kernel
theorem dX9_timeAt_19 : decode cX9_timeAt 19 = .ok (.iaload, 1) := by decide +kernel
theorem dX9_timeAt_20 : decode cX9_timeAt 20 = .ok (.istore 5, 2) := by decide +kernel
theorem dX9_timeAt_22 : decode cX9_timeAt 22 = .ok (.aload_n 0, 1) := by decide +kernel
theorem dX9_timeAt_23 : decode cX9_timeAt 23 = .ok (.iload_n 1, 1) := by decide +kernel
theorem dX9_timeAt_24 : decode cX9_timeAt 24 = .ok (.invokevirtual 207, 3) := by decide +kernel
theorem dX9_timeAt_27 : decode cX9_timeAt 27 = .ok (.ifCond .ne 28, 3) := by decide +kernel
theorem dX9_timeAt_30 : decode cX9_timeAt 30 = .ok (.aload_n 0, 1) := by decide +kernel
theorem dX9_timeAt_31 : decode cX9_timeAt 31 = .ok (.iload_n 1, 1) := by decide +kernel
theorem dX9_timeAt_32 : decode cX9_timeAt 32 = .ok (.iload 4, 2) := by decide +kernel
theorem dX9_timeAt_34 : decode cX9_timeAt 34 = .ok (.ifCond .eq 7, 3) := by decide +kernel
theorem dX9_timeAt_37 : decode cX9_timeAt 37 = .ok (.iconst 2, 1) := by decide +kernel
theorem dX9_timeAt_38 : decode cX9_timeAt 38 = .ok (.goto 4, 3) := by decide +kernel
theorem dX9_timeAt_41 : decode cX9_timeAt 41 = .ok (.iconst 1, 1) := by decide +kernel
theorem dX9_timeAt_42 : decode cX9_timeAt 42 = .ok (.invokevirtual 201, 3) := by decide +kernel
theorem dX9_timeAt_45 : decode cX9_timeAt 45 = .ok (.iload_n 2, 1) := by decide +kernel
theorem dX9_timeAt_46 : decode cX9_timeAt 46 = .ok (.if_icmp .ne 9, 3) := by decide +kernel
theorem dX9_timeAt_49 : decode cX9_timeAt 49 = .ok (.iload 5, 2) := by decide +kernel
theorem dX9_timeAt_51 : decode cX9_timeAt 51 = .ok (.iload_n 3, 1) := by decide +kernel
theorem dX9_timeAt_52 : decode cX9_timeAt 52 = .ok (.if_icmp .ge 8, 3) := by decide +kernel
theorem dX9_timeAt_55 : decode cX9_timeAt 55 = .ok (.ldc 175, 2) := by decide +kernel
theorem dX9_timeAt_57 : decode cX9_timeAt 57 = .ok (.goto 5, 3) := by decide +kernel
theorem dX9_timeAt_60 : decode cX9_timeAt 60 = .ok (.iload 5, 2) := by decide +kernel
theorem dX9_timeAt_62 : decode cX9_timeAt 62 = .ok (.ireturn, 1) := by decide +kernel
theorem dX9_token_0 : decode cX9_token 0 = .ok (.aload_n 0, 1) := by decide +kernel
theorem dX9_token_1 : decode cX9_token 1 = .ok (.invokevirtual 97, 3) := by decide +kernel
theorem dX9_token_4 : decode cX9_token 4 = .ok (.bipush 10, 2) := by decide +kernel
theorem dX9_token_6 : decode cX9_token 6 = .ok (.if_icmp .eq 12, 3) := by decide +kernel
theorem dX9_token_9 : decode cX9_token 9 = .ok (.aload_n 0, 1) := by decide +kernel
theorem dX9_token_10 : decode cX9_token 10 = .ok (.invokevirtual 97, 3) := by decide +kernel
theorem dX9_token_13 : decode cX9_token 13 = .ok (.bipush 32, 2) := by decide +kernel
theorem dX9_token_15 : decode cX9_token 15 = .ok (.if_icmp .ne 16, 3) := by decide +kernel
theorem dX9_token_18 : decode cX9_token 18 = .ok (.aload_n 0, 1) := by decide +kernel
theorem dX9_token_19 : decode cX9_token 19 = .ok (.dup, 1) := by decide +kernel
theorem dX9_token_20 : decode cX9_token 20 = .ok (.getfield 91, 3) := by decide +kernel
theorem dX9_token_23 : decode cX9_token 23 = .ok (.iconst 1, 1) := by decide +kernel
theorem dX9_token_24 : decode cX9_token 24 = .ok (.iadd, 1) := by decide +kernel
theorem dX9_token_25 : decode cX9_token 25 = .ok (.putfield 91, 3) := by decide +kernel
theorem dX9_token_28 : decode cX9_token 28 = .ok (.goto (-28), 3) := by decide +kernel
theorem dX9_token_31 : decode cX9_token 31 = .ok (.aload_n 0, 1) := by decide +kernel
theorem dX9_token_32 : decode cX9_token 32 = .ok (.aload_n 0, 1) := by decide +kernel
theorem dX9_token_33 : decode cX9_token 33 = .ok (.getfield 91, 3) := by decide +kernel
theorem dX9_token_36 : decode cX9_token 36 = .ok (.putfield 101, 3) := by decide +kernel
theorem dX9_token_39 : decode cX9_token 39 = .ok (.aload_n 0, 1) := by decide +kernel
theorem dX9_token_40 : decode cX9_token 40 = .ok (.invokevirtual 97, 3) := by decide +kernel
theorem dX9_token_43 : decode cX9_token 43 = .ok (.istore_n 1, 1) := by decide +kernel
theorem dX9_token_44 : decode cX9_token 44 = .ok (.iload_n 1, 1) := by decide +kernel
theorem dX9_token_45 : decode cX9_token 45 = .ok (.iconst (-1), 1) := by decide +kernel
theorem dX9_token_46 : decode cX9_token 46 = .ok (.if_icmp .ne 11, 3) := by decide +kernel
theorem dX9_token_49 : decode cX9_token 49 = .ok (.aload_n 0, 1) := by decide +kernel
theorem dX9_token_50 : decode cX9_token 50 = .ok (.iconst 3, 1) := by decide +kernel
theorem dX9_token_51 : decode cX9_token 51 = .ok (.putfield 104, 3) := by decide +kernel
theorem dX9_token_54 : decode cX9_token 54 = .ok (.goto 206, 3) := by decide +kernel
theorem dX9_token_57 : decode cX9_token 57 = .ok (.iload_n 1, 1) := by decide +kernel
theorem dX9_token_58 : decode cX9_token 58 = .ok (.invokestatic 107, 3) := by decide +kernel
theorem dX9_token_61 : decode cX9_token 61 = .ok (.ifCond .eq 99, 3) := by decide +kernel
theorem dX9_token_64 : decode cX9_token 64 = .ok (.aload_n 0, 1) := by decide +kernel
theorem dX9_token_65 : decode cX9_token 65 = .ok (.iconst 0, 1) := by decide +kernel
theorem dX9_token_66 : decode cX9_token 66 = .ok (.putfield 111, 3) := by decide +kernel
theorem dX9_token_69 : decode cX9_token 69 = .ok (.aload_n 0, 1) := by decide +kernel
theorem dX9_token_70 : decode cX9_token 70 = .ok (.invokevirtual 97, 3) := by decide +kernel
theorem dX9_token_73 : decode cX9_token 73 = .ok (.invokestatic 107, 3) := by decide +kernel
theorem dX9_token_76 : decode cX9_token 76 = .ok (.ifCond .eq 50, 3) := by decide +kernel
theorem dX9_token_79 : decode cX9_token 79 = .ok (.aload_n 0, 1) := by decide +kernel
theorem dX9_token_80 : decode cX9_token 80 = .ok (.getfield 91, 3) := by decide +kernel
theorem dX9_token_83 : decode cX9_token 83 = .ok (.aload_n 0, 1) := by decide +kernel
theorem dX9_token_84 : decode cX9_token 84 = .ok (.getfield 101, 3) := by decide +kernel
theorem dX9_token_87 : decode cX9_token 87 = .ok (.isub, 1) := by decide +kernel
theorem dX9_token_88 : decode cX9_token 88 = .ok (.bipush 6, 2) := by decide +kernel
theorem dX9_token_90 : decode cX9_token 90 = .ok (.if_icmp .ge 23, 3) := by decide +kernel
theorem dX9_token_93 : decode cX9_token 93 = .ok (.aload_n 0, 1) := by decide +kernel
theorem dX9_token_94 : decode cX9_token 94 = .ok (.aload_n 0, 1) := by decide +kernel
theorem dX9_token_95 : decode cX9_token 95 = .ok (.getfield 111, 3) := by decide +kernel
theorem dX9_token_98 : decode cX9_token 98 = .ok (.iconst 5, 1) := by decide +kernel
theorem dX9_token_99 : decode cX9_token 99 = .ok (.ishl, 1) := by decide +kernel
theorem dX9_token_100 : decode cX9_token 100 = .ok (.aload_n 0, 1) := by decide +kernel
theorem dX9_token_101 : decode cX9_token 101 = .ok (.invokevirtual 97, 3) := by decide +kernel
theorem dX9_token_104 : decode cX9_token 104 = .ok (.bipush 97, 2) := by decide +kernel
theorem dX9_token_106 : decode cX9_token 106 = .ok (.isub, 1) := by decide +kernel
theorem dX9_token_107 : decode cX9_token 107 = .ok (.iconst 1, 1) := by decide +kernel
theorem dX9_token_108 : decode cX9_token 108 = .ok (.iadd, 1) := by decide +kernel
theorem dX9_token_109 : decode cX9_token 109 = .ok (.ior, 1) := by decide +kernel
theorem dX9_token_110 : decode cX9_token 110 = .ok (.putfield 111, 3) := by decide +kernel
theorem dX9_token_113 : decode cX9_token 113 = .ok (.aload_n 0, 1) := by decide +kernel
theorem dX9_token_114 : decode cX9_token 114 = .ok (.dup, 1) := by decide +kernel
theorem dX9_token_115 : decode cX9_token 115 = .ok (.getfield 91, 3) := by decide +kernel
theorem dX9_token_118 : decode cX9_token 118 = .ok (.iconst 1, 1) := by decide +kernel
theorem dX9_token_119 : decode cX9_token 119 = .ok (.iadd, 1) := by decide +kernel
theorem dX9_token_120 : decode cX9_token 120 = .ok (.putfield 91, 3) := by decide +kernel
theorem dX9_token_123 : decode cX9_token 123 = .ok (.goto (-54), 3) := by decide +kernel
theorem dX9_token_126 : decode cX9_token 126 = .ok (.aload_n 0, 1) := by decide +kernel
theorem dX9_token_127 : decode cX9_token 127 = .ok (.aload_n 0, 1) := by decide +kernel
theorem dX9_token_128 : decode cX9_token 128 = .ok (.getfield 91, 3) := by decide +kernel
theorem dX9_token_131 : decode cX9_token 131 = .ok (.aload_n 0, 1) := by decide +kernel
theorem dX9_token_132 : decode cX9_token 132 = .ok (.getfield 101, 3) := by decide +kernel
theorem dX9_token_135 : decode cX9_token 135 = .ok (.isub, 1) := by decide +kernel
theorem dX9_token_136 : decode cX9_token 136 = .ok (.bipush 6, 2) := by decide +kernel
theorem dX9_token_138 : decode cX9_token 138 = .ok (.if_icmp .gt 7, 3) := by decide +kernel
theorem dX9_token_141 : decode cX9_token 141 = .ok (.iconst 0, 1) := by decide +kernel
theorem dX9_token_142 : decode cX9_token 142 = .ok (.goto 4, 3) := by decide +kernel
theorem dX9_token_145 : decode cX9_token 145 = .ok (.iconst 4, 1) := by decide +kernel
theorem dX9_token_146 : decode cX9_token 146 = .ok (.putfield 104, 3) := by decide +kernel
theorem dX9_token_149 : decode cX9_token 149 = .ok (.aload_n 0, 1) := by decide +kernel
theorem dX9_token_150 : decode cX9_token 150 = .ok (.aload_n 0, 1) := by decide +kernel
theorem dX9_token_151 : decode cX9_token 151 = .ok (.invokevirtual 114, 3) := by decide +kernel
theorem dX9_token_154 : decode cX9_token 154 = .ok (.putfield 117, 3) := by decide +kernel
theorem dX9_token_157 : decode cX9_token 157 = .ok (.goto 103, 3) := by decide +kernel
theorem dX9_token_160 : decode cX9_token 160 = .ok (.iload_n 1, 1) := by decide +kernel
theorem dX9_token_161 : decode cX9_token 161 = .ok (.invokestatic 120, 3) := by decide +kernel
theorem dX9_token_164 : decode cX9_token 164 = .ok (.ifCond .eq 71, 3) := by decide +kernel
theorem dX9_token_167 : decode cX9_token 167 = .ok (.aload_n 0, 1) := by decide +kernel
theorem dX9_token_168 : decode cX9_token 168 = .ok (.iconst 1, 1) := by decide +kernel
theorem dX9_token_169 : decode cX9_token 169 = .ok (.putfield 104, 3) := by decide +kernel
theorem dX9_token_172 : decode cX9_token 172 = .ok (.aload_n 0, 1) := by decide +kernel
theorem dX9_token_173 : decode cX9_token 173 = .ok (.iconst 0, 1) := by decide +kernel
theorem dX9_token_174 : decode cX9_token 174 = .ok (.putfield 117, 3) := by decide +kernel
theorem dX9_token_177 : decode cX9_token 177 = .ok (.aload_n 0, 1) := by decide +kernel
theorem dX9_token_178 : decode cX9_token 178 = .ok (.invokevirtual 97, 3) := by decide +kernel
theorem dX9_token_181 : decode cX9_token 181 = .ok (.invokestatic 120, 3) := by decide +kernel
theorem dX9_token_184 : decode cX9_token 184 = .ok (.ifCond .eq 76, 3) := by decide +kernel
theorem dX9_token_187 : decode cX9_token 187 = .ok (.aload_n 0, 1) := by decide +kernel
theorem dX9_token_188 : decode cX9_token 188 = .ok (.aload_n 0, 1) := by decide +kernel
theorem dX9_token_189 : decode cX9_token 189 = .ok (.getfield 117, 3) := by decide +kernel
theorem dX9_token_192 : decode cX9_token 192 = .ok (.ldc 123, 2) := by decide +kernel
theorem dX9_token_194 : decode cX9_token 194 = .ok (.if_icmp .le 10, 3) := by decide +kernel
theorem dX9_token_197 : decode cX9_token 197 = .ok (.aload_n 0, 1) := by decide +kernel
theorem dX9_token_198 : decode cX9_token 198 = .ok (.getfield 117, 3) := by decide +kernel
theorem dX9_token_201 : decode cX9_token 201 = .ok (.goto 18, 3) := by decide +kernel
theorem dX9_token_204 : decode cX9_token 204 = .ok (.bipush 10, 2) := by decide +kernel
theorem dX9_token_206 : decode cX9_token 206 = .ok (.aload_n 0, 1) := by decide +kernel
theorem dX9_token_207 : decode cX9_token 207 = .ok (.getfield 117, 3) := by decide +kernel
theorem dX9_token_210 : decode cX9_token 210 = .ok (.imul, 1) := by decide +kernel
theorem dX9_token_211 : decode cX9_token 211 = .ok (.aload_n 0, 1) := by decide +kernel
theorem dX9_token_212 : decode cX9_token 212 = .ok (.invokevirtual 97, 3) := by decide +kernel
theorem dX9_token_215 : decode cX9_token 215 = .ok (.iadd, 1) := by decide +kernel
theorem dX9_token_216 : decode cX9_token 216 = .ok (.bipush 48, 2) := by decide +kernel
theorem dX9_token_218 : decode cX9_token 218 = .ok (.isub, 1) := by decide +kernel
theorem dX9_token_219 : decode cX9_token 219 = .ok (.putfield 117, 3) := by decide +kernel
theorem dX9_token_222 : decode cX9_token 222 = .ok (.aload_n 0, 1) := by decide +kernel
theorem dX9_token_223 : decode cX9_token 223 = .ok (.dup, 1) := by decide +kernel
theorem dX9_token_224 : decode cX9_token 224 = .ok (.getfield 91, 3) := by decide +kernel
theorem dX9_token_227 : decode cX9_token 227 = .ok (.iconst 1, 1) := by decide +kernel
theorem dX9_token_228 : decode cX9_token 228 = .ok (.iadd, 1) := by decide +kernel
theorem dX9_token_229 : decode cX9_token 229 = .ok (.putfield 91, 3) := by decide +kernel
theorem dX9_token_232 : decode cX9_token 232 = .ok (.goto (-55), 3) := by decide +kernel
theorem dX9_token_235 : decode cX9_token 235 = .ok (.aload_n 0, 1) := by decide +kernel
theorem dX9_token_236 : decode cX9_token 236 = .ok (.iload_n 1, 1) := by decide +kernel
theorem dX9_token_237 : decode cX9_token 237 = .ok (.bipush 59, 2) := by decide +kernel
theorem dX9_token_239 : decode cX9_token 239 = .ok (.if_icmp .ne 7, 3) := by decide +kernel
theorem dX9_token_242 : decode cX9_token 242 = .ok (.iconst 2, 1) := by decide +kernel
theorem dX9_token_243 : decode cX9_token 243 = .ok (.goto 4, 3) := by decide +kernel
theorem dX9_token_246 : decode cX9_token 246 = .ok (.iconst 4, 1) := by decide +kernel
theorem dX9_token_247 : decode cX9_token 247 = .ok (.putfield 104, 3) := by decide +kernel
theorem dX9_token_250 : decode cX9_token 250 = .ok (.aload_n 0, 1) := by decide +kernel
theorem dX9_token_251 : decode cX9_token 251 = .ok (.dup, 1) := by decide +kernel
theorem dX9_token_252 : decode cX9_token 252 = .ok (.getfield 91, 3) := by decide +kernel
theorem dX9_token_255 : decode cX9_token 255 = .ok (.iconst 1, 1) := by decide +kernel
theorem dX9_token_256 : decode cX9_token 256 = .ok (.iadd, 1) := by decide +kernel
theorem dX9_token_257 : decode cX9_token 257 = .ok (.putfield 91, 3) := by decide +kernel
theorem dX9_token_260 : decode cX9_token 260 = .ok (.return_, 1) := by decide +kernel
theorem dX9_told_0 : decode cX9_told 0 = .ok (.aload_n 0, 1) := by decide +kernel
theorem dX9_told_1 : decode cX9_told 1 = .ok (.getfield 13, 3) := by decide +kernel
theorem dX9_told_4 : decode cX9_told 4 = .ok (.bipush 115, 2) := by decide +kernel
theorem dX9_told_6 : decode cX9_told 6 = .ok (.iconst 5, 1) := by decide +kernel
theorem dX9_told_7 : decode cX9_told 7 = .ok (.iload_n 1, 1) := by decide +kernel
theorem dX9_told_8 : decode cX9_told 8 = .ok (.imul, 1) := by decide +kernel
theorem dX9_told_9 : decode cX9_told 9 = .ok (.iadd, 1) := by decide +kernel
theorem dX9_told_10 : decode cX9_told 10 = .ok (.iload_n 2, 1) := by decide +kernel
theorem dX9_told_11 : decode cX9_told 11 = .ok (.iadd, 1) := by decide +kernel
theorem dX9_told_12 : decode cX9_told 12 = .ok (.iaload, 1) := by decide +kernel
theorem dX9_told_13 : decode cX9_told 13 = .ok (.ireturn, 1) := by decide +kernel
theorem dX9_tooLate_0 : decode cX9_tooLate 0 = .ok (.aload_n 0, 1) := by decide +kernel
theorem dX9_tooLate_1 : decode cX9_tooLate 1 = .ok (.iconst 0, 1) := by decide +kernel
theorem dX9_tooLate_2 : decode cX9_tooLate 2 = .ok (.putfield 85, 3) := by decide +kernel
theorem dX9_tooLate_5 : decode cX9_tooLate 5 = .ok (.aload_n 0, 1) := by decide +kernel
theorem dX9_tooLate_6 : decode cX9_tooLate 6 = .ok (.iload_n 1, 1) := by decide +kernel
theorem dX9_tooLate_7 : decode cX9_tooLate 7 = .ok (.iload_n 2, 1) := by decide +kernel
theorem dX9_tooLate_8 : decode cX9_tooLate 8 = .ok (.iload_n 3, 1) := by decide +kernel
theorem dX9_tooLate_9 : decode cX9_tooLate 9 = .ok (.invokevirtual 346, 3) := by decide +kernel
theorem dX9_tooLate_12 : decode cX9_tooLate 12 = .ok (.ifCond .ne 5, 3) := by decide +kernel
theorem dX9_tooLate_15 : decode cX9_tooLate 15 = .ok (.iconst (-1), 1) := by decide +kernel
theorem dX9_tooLate_16 : decode cX9_tooLate 16 = .ok (.ireturn, 1) := by decide +kernel
theorem dX9_tooLate_17 : decode cX9_tooLate 17 = .ok (.aload_n 0, 1) := by decide +kernel
theorem dX9_tooLate_18 : decode cX9_tooLate 18 = .ok (.getfield 186, 3) := by decide +kernel
theorem dX9_tooLate_21 : decode cX9_tooLate 21 = .ok (.ifCond .eq 15, 3) := by decide +kernel
theorem dX9_tooLate_24 : decode cX9_tooLate 24 = .ok (.aload_n 0, 1) := by decide +kernel
theorem dX9_tooLate_25 : decode cX9_tooLate 25 = .ok (.iload_n 1, 1) := by decide +kernel
theorem dX9_tooLate_26 : decode cX9_tooLate 26 = .ok (.iload_n 2, 1) := by decide +kernel
theorem dX9_tooLate_27 : decode cX9_tooLate 27 = .ok (.iload_n 3, 1) := by decide +kernel
theorem dX9_tooLate_28 : decode cX9_tooLate 28 = .ok (.iconst 0, 1) := by decide +kernel
theorem dX9_tooLate_29 : decode cX9_tooLate 29 = .ok (.invokevirtual 349, 3) := by decide +kernel
theorem dX9_tooLate_32 : decode cX9_tooLate 32 = .ok (.iconst 2, 1) := by decide +kernel
theorem dX9_tooLate_33 : decode cX9_tooLate 33 = .ok (.if_icmp .eq 6, 3) := by decide +kernel
theorem dX9_tooLate_36 : decode cX9_tooLate 36 = .ok (.bipush (-2), 2) := by decide +kernel
theorem dX9_tooLate_38 : decode cX9_tooLate 38 = .ok (.ireturn, 1) := by decide +kernel
theorem dX9_tooLate_39 : decode cX9_tooLate 39 = .ok (.aload_n 0, 1) := by decide +kernel
theorem dX9_tooLate_40 : decode cX9_tooLate 40 = .ok (.aload_n 0, 1) := by decide +kernel
theorem dX9_tooLate_41 : decode cX9_tooLate 41 = .ok (.getfield 335, 3) := by decide +kernel
theorem dX9_tooLate_44 : decode cX9_tooLate 44 = .ok (.iload_n 1, 1) := by decide +kernel
theorem dX9_tooLate_45 : decode cX9_tooLate 45 = .ok (.iload_n 3, 1) := by decide +kernel
theorem dX9_tooLate_46 : decode cX9_tooLate 46 = .ok (.iconst 0, 1) := by decide +kernel
theorem dX9_tooLate_47 : decode cX9_tooLate 47 = .ok (.invokevirtual 338, 3) := by decide +kernel
theorem dX9_tooLate_50 : decode cX9_tooLate 50 = .ok (.istore 4, 2) := by decide +kernel
theorem dX9_tooLate_52 : decode cX9_tooLate 52 = .ok (.iload 4, 2) := by decide +kernel
theorem dX9_tooLate_54 : decode cX9_tooLate 54 = .ok (.ldc 175, 2) := by decide +kernel
theorem dX9_tooLate_56 : decode cX9_tooLate 56 = .ok (.if_icmp .lt 8, 3) := by decide +kernel
theorem dX9_tooLate_59 : decode cX9_tooLate 59 = .ok (.bipush (-2), 2) := by decide +kernel
theorem dX9_tooLate_61 : decode cX9_tooLate 61 = .ok (.goto 15, 3) := by decide +kernel
theorem dX9_tooLate_64 : decode cX9_tooLate 64 = .ok (.iload 4, 2) := by decide +kernel
theorem dX9_tooLate_66 : decode cX9_tooLate 66 = .ok (.aload_n 0, 1) := by decide +kernel
theorem dX9_tooLate_67 : decode cX9_tooLate 67 = .ok (.aload_n 0, 1) := by decide +kernel
theorem dX9_tooLate_68 : decode cX9_tooLate 68 = .ok (.getfield 335, 3) := by decide +kernel
theorem dX9_tooLate_71 : decode cX9_tooLate 71 = .ok (.iconst 0, 1) := by decide +kernel
theorem dX9_tooLate_72 : decode cX9_tooLate 72 = .ok (.invokevirtual 342, 3) := by decide +kernel
theorem dX9_tooLate_75 : decode cX9_tooLate 75 = .ok (.isub, 1) := by decide +kernel
theorem dX9_tooLate_76 : decode cX9_tooLate 76 = .ok (.ireturn, 1) := by decide +kernel
theorem dX9_travels_0 : decode cX9_travels 0 = .ok (.aload_n 0, 1) := by decide +kernel
theorem dX9_travels_1 : decode cX9_travels 1 = .ok (.iconst 0, 1) := by decide +kernel
theorem dX9_travels_2 : decode cX9_travels 2 = .ok (.putfield 85, 3) := by decide +kernel
theorem dX9_travels_5 : decode cX9_travels 5 = .ok (.aload_n 0, 1) := by decide +kernel
theorem dX9_travels_6 : decode cX9_travels 6 = .ok (.iload_n 1, 1) := by decide +kernel
theorem dX9_travels_7 : decode cX9_travels 7 = .ok (.iload_n 2, 1) := by decide +kernel
theorem dX9_travels_8 : decode cX9_travels 8 = .ok (.invokevirtual 287, 3) := by decide +kernel
theorem dX9_travels_11 : decode cX9_travels 11 = .ok (.ifCond .eq 18, 3) := by decide +kernel
theorem dX9_travels_14 : decode cX9_travels 14 = .ok (.iload_n 3, 1) := by decide +kernel
theorem dX9_travels_15 : decode cX9_travels 15 = .ok (.ifCond .lt 14, 3) := by decide +kernel
theorem dX9_travels_18 : decode cX9_travels 18 = .ok (.iload 4, 2) := by decide +kernel
theorem dX9_travels_20 : decode cX9_travels 20 = .ok (.ifCond .lt 9, 3) := by decide +kernel
theorem dX9_travels_23 : decode cX9_travels 23 = .ok (.iload 4, 2) := by decide +kernel
theorem dX9_travels_25 : decode cX9_travels 25 = .ok (.iconst 2, 1) := by decide +kernel
theorem dX9_travels_26 : decode cX9_travels 26 = .ok (.if_icmp .le 5, 3) := by decide +kernel
theorem dX9_travels_29 : decode cX9_travels 29 = .ok (.iconst (-1), 1) := by decide +kernel
theorem dX9_travels_30 : decode cX9_travels 30 = .ok (.ireturn, 1) := by decide +kernel
theorem dX9_travels_31 : decode cX9_travels 31 = .ok (.aload_n 0, 1) := by decide +kernel
theorem dX9_travels_32 : decode cX9_travels 32 = .ok (.invokevirtual 290, 3) := by decide +kernel
theorem dX9_travels_35 : decode cX9_travels 35 = .ok (.aload_n 0, 1) := by decide +kernel
theorem dX9_travels_36 : decode cX9_travels 36 = .ok (.iload_n 1, 1) := by decide +kernel
theorem dX9_travels_37 : decode cX9_travels 37 = .ok (.iload_n 2, 1) := by decide +kernel
theorem dX9_travels_38 : decode cX9_travels 38 = .ok (.invokevirtual 293, 3) := by decide +kernel
theorem dX9_travels_41 : decode cX9_travels 41 = .ok (.iload_n 3, 1) := by decide +kernel
theorem dX9_travels_42 : decode cX9_travels 42 = .ok (.aload_n 0, 1) := by decide +kernel
theorem dX9_travels_43 : decode cX9_travels 43 = .ok (.getfield 278, 3) := by decide +kernel
theorem dX9_travels_46 : decode cX9_travels 46 = .ok (.if_icmp .lt 6, 3) := by decide +kernel
theorem dX9_travels_49 : decode cX9_travels 49 = .ok (.bipush (-2), 2) := by decide +kernel
theorem dX9_travels_51 : decode cX9_travels 51 = .ok (.ireturn, 1) := by decide +kernel
theorem dX9_travels_52 : decode cX9_travels 52 = .ok (.aload_n 0, 1) := by decide +kernel
theorem dX9_travels_53 : decode cX9_travels 53 = .ok (.iload_n 1, 1) := by decide +kernel
theorem dX9_travels_54 : decode cX9_travels 54 = .ok (.iload_n 2, 1) := by decide +kernel
theorem dX9_travels_55 : decode cX9_travels 55 = .ok (.aload_n 0, 1) := by decide +kernel
theorem dX9_travels_56 : decode cX9_travels 56 = .ok (.getfield 54, 3) := by decide +kernel
theorem dX9_travels_59 : decode cX9_travels 59 = .ok (.iload_n 3, 1) := by decide +kernel
theorem dX9_travels_60 : decode cX9_travels 60 = .ok (.iaload, 1) := by decide +kernel
theorem dX9_travels_61 : decode cX9_travels 61 = .ok (.invokevirtual 299, 3) := by decide +kernel
theorem dX9_travels_64 : decode cX9_travels 64 = .ok (.iconst 0, 1) := by decide +kernel
theorem dX9_travels_65 : decode cX9_travels 65 = .ok (.istore 5, 2) := by decide +kernel
theorem dX9_travels_67 : decode cX9_travels 67 = .ok (.iconst 0, 1) := by decide +kernel
theorem dX9_travels_68 : decode cX9_travels 68 = .ok (.istore 6, 2) := by decide +kernel
theorem dX9_travels_70 : decode cX9_travels 70 = .ok (.iconst 0, 1) := by decide +kernel
theorem dX9_travels_71 : decode cX9_travels 71 = .ok (.istore 7, 2) := by decide +kernel
theorem dX9_travels_73 : decode cX9_travels 73 = .ok (.iload 7, 2) := by decide +kernel
theorem dX9_travels_75 : decode cX9_travels 75 = .ok (.aload_n 0, 1) := by decide +kernel
theorem dX9_travels_76 : decode cX9_travels 76 = .ok (.getfield 51, 3) := by decide +kernel
theorem dX9_travels_79 : decode cX9_travels 79 = .ok (.aload_n 0, 1) := by decide +kernel
theorem dX9_travels_80 : decode cX9_travels 80 = .ok (.getfield 54, 3) := by decide +kernel
theorem dX9_travels_83 : decode cX9_travels 83 = .ok (.iload_n 3, 1) := by decide +kernel
theorem dX9_travels_84 : decode cX9_travels 84 = .ok (.iaload, 1) := by decide +kernel
theorem dX9_travels_85 : decode cX9_travels 85 = .ok (.iaload, 1) := by decide +kernel
theorem dX9_travels_86 : decode cX9_travels 86 = .ok (.if_icmp .gt 61, 3) := by decide +kernel
theorem dX9_travels_89 : decode cX9_travels 89 = .ok (.iload 5, 2) := by decide +kernel
theorem dX9_travels_91 : decode cX9_travels 91 = .ok (.aload_n 0, 1) := by decide +kernel
theorem dX9_travels_92 : decode cX9_travels 92 = .ok (.getfield 39, 3) := by decide +kernel
theorem dX9_travels_95 : decode cX9_travels 95 = .ok (.aload_n 0, 1) := by decide +kernel
theorem dX9_travels_96 : decode cX9_travels 96 = .ok (.getfield 67, 3) := by decide +kernel
theorem dX9_travels_99 : decode cX9_travels 99 = .ok (.iload 7, 2) := by decide +kernel
theorem dX9_travels_101 : decode cX9_travels 101 = .ok (.iaload, 1) := by decide +kernel
theorem dX9_travels_102 : decode cX9_travels 102 = .ok (.iaload, 1) := by decide +kernel
theorem dX9_travels_103 : decode cX9_travels 103 = .ok (.aload_n 0, 1) := by decide +kernel
theorem dX9_travels_104 : decode cX9_travels 104 = .ok (.getfield 36, 3) := by decide +kernel
theorem dX9_travels_107 : decode cX9_travels 107 = .ok (.aload_n 0, 1) := by decide +kernel
theorem dX9_travels_108 : decode cX9_travels 108 = .ok (.getfield 64, 3) := by decide +kernel
theorem dX9_travels_111 : decode cX9_travels 111 = .ok (.iload 7, 2) := by decide +kernel
theorem dX9_travels_113 : decode cX9_travels 113 = .ok (.iaload, 1) := by decide +kernel
theorem dX9_travels_114 : decode cX9_travels 114 = .ok (.iaload, 1) := by decide +kernel
theorem dX9_travels_115 : decode cX9_travels 115 = .ok (.isub, 1) := by decide +kernel
theorem dX9_travels_116 : decode cX9_travels 116 = .ok (.iadd, 1) := by decide +kernel
theorem dX9_travels_117 : decode cX9_travels 117 = .ok (.istore 5, 2) := by decide +kernel
theorem dX9_travels_119 : decode cX9_travels 119 = .ok (.iload 6, 2) := by decide +kernel
theorem dX9_travels_121 : decode cX9_travels 121 = .ok (.aload_n 0, 1) := by decide +kernel
theorem dX9_travels_122 : decode cX9_travels 122 = .ok (.getfield 67, 3) := by decide +kernel
theorem dX9_travels_125 : decode cX9_travels 125 = .ok (.iload 7, 2) := by decide +kernel
theorem dX9_travels_127 : decode cX9_travels 127 = .ok (.iaload, 1) := by decide +kernel
theorem dX9_travels_128 : decode cX9_travels 128 = .ok (.aload_n 0, 1) := by decide +kernel
theorem dX9_travels_129 : decode cX9_travels 129 = .ok (.getfield 64, 3) := by decide +kernel
theorem dX9_travels_132 : decode cX9_travels 132 = .ok (.iload 7, 2) := by decide +kernel
theorem dX9_travels_134 : decode cX9_travels 134 = .ok (.iaload, 1) := by decide +kernel
theorem dX9_travels_135 : decode cX9_travels 135 = .ok (.isub, 1) := by decide +kernel
theorem dX9_travels_136 : decode cX9_travels 136 = .ok (.iconst 1, 1) := by decide +kernel
theorem dX9_travels_137 : decode cX9_travels 137 = .ok (.iadd, 1) := by decide +kernel
theorem dX9_travels_138 : decode cX9_travels 138 = .ok (.iadd, 1) := by decide +kernel
theorem dX9_travels_139 : decode cX9_travels 139 = .ok (.istore 6, 2) := by decide +kernel
theorem dX9_travels_141 : decode cX9_travels 141 = .ok (.iinc 7 1, 3) := by decide +kernel
theorem dX9_travels_144 : decode cX9_travels 144 = .ok (.goto (-71), 3) := by decide +kernel
theorem dX9_travels_147 : decode cX9_travels 147 = .ok (.iload 4, 2) := by decide +kernel
theorem dX9_travels_149 : decode cX9_travels 149 = .ok (.ifCond .ne 8, 3) := by decide +kernel
theorem dX9_travels_152 : decode cX9_travels 152 = .ok (.iload 5, 2) := by decide +kernel
theorem dX9_travels_154 : decode cX9_travels 154 = .ok (.goto 36, 3) := by decide +kernel
theorem dX9_travels_157 : decode cX9_travels 157 = .ok (.iload 4, 2) := by decide +kernel
theorem dX9_travels_159 : decode cX9_travels 159 = .ok (.iconst 1, 1) := by decide +kernel
theorem dX9_travels_160 : decode cX9_travels 160 = .ok (.if_icmp .ne 28, 3) := by decide +kernel
theorem dX9_travels_163 : decode cX9_travels 163 = .ok (.aload_n 0, 1) := by decide +kernel
theorem dX9_travels_164 : decode cX9_travels 164 = .ok (.iload_n 1, 1) := by decide +kernel
theorem dX9_travels_165 : decode cX9_travels 165 = .ok (.iload_n 2, 1) := by decide +kernel
theorem dX9_travels_166 : decode cX9_travels 166 = .ok (.aload_n 0, 1) := by decide +kernel
theorem dX9_travels_167 : decode cX9_travels 167 = .ok (.getfield 51, 3) := by decide +kernel
theorem dX9_travels_170 : decode cX9_travels 170 = .ok (.aload_n 0, 1) := by decide +kernel
theorem dX9_travels_171 : decode cX9_travels 171 = .ok (.getfield 54, 3) := by decide +kernel
theorem dX9_travels_174 : decode cX9_travels 174 = .ok (.iload_n 3, 1) := by decide +kernel
theorem dX9_travels_175 : decode cX9_travels 175 = .ok (.iaload, 1) := by decide +kernel
theorem dX9_travels_176 : decode cX9_travels 176 = .ok (.iaload, 1) := by decide +kernel
theorem dX9_travels_177 : decode cX9_travels 177 = .ok (.iconst 1, 1) := by decide +kernel
theorem dX9_travels_178 : decode cX9_travels 178 = .ok (.iadd, 1) := by decide +kernel
theorem dX9_travels_179 : decode cX9_travels 179 = .ok (.invokevirtual 306, 3) := by decide +kernel
theorem dX9_travels_182 : decode cX9_travels 182 = .ok (.iload 5, 2) := by decide +kernel
theorem dX9_travels_184 : decode cX9_travels 184 = .ok (.isub, 1) := by decide +kernel
theorem dX9_travels_185 : decode cX9_travels 185 = .ok (.goto 5, 3) := by decide +kernel
theorem dX9_travels_188 : decode cX9_travels 188 = .ok (.iload 6, 2) := by decide +kernel
theorem dX9_travels_190 : decode cX9_travels 190 = .ok (.ireturn, 1) := by decide +kernel
theorem dX9_undo_0 : decode cX9_undo 0 = .ok (.aload_n 0, 1) := by decide +kernel
theorem dX9_undo_1 : decode cX9_undo 1 = .ok (.iconst 0, 1) := by decide +kernel
theorem dX9_undo_2 : decode cX9_undo 2 = .ok (.putfield 85, 3) := by decide +kernel
theorem dX9_undo_5 : decode cX9_undo 5 = .ok (.aload_n 0, 1) := by decide +kernel
theorem dX9_undo_6 : decode cX9_undo 6 = .ok (.getfield 183, 3) := by decide +kernel
theorem dX9_undo_9 : decode cX9_undo 9 = .ok (.ifCond .ne 5, 3) := by decide +kernel
theorem dX9_undo_12 : decode cX9_undo 12 = .ok (.iconst (-1), 1) := by decide +kernel
theorem dX9_undo_13 : decode cX9_undo 13 = .ok (.ireturn, 1) := by decide +kernel
theorem dX9_undo_14 : decode cX9_undo 14 = .ok (.aload_n 0, 1) := by decide +kernel
theorem dX9_undo_15 : decode cX9_undo 15 = .ok (.dup, 1) := by decide +kernel
theorem dX9_undo_16 : decode cX9_undo 16 = .ok (.getfield 183, 3) := by decide +kernel
theorem dX9_undo_19 : decode cX9_undo 19 = .ok (.iconst 1, 1) := by decide +kernel
theorem dX9_undo_20 : decode cX9_undo 20 = .ok (.isub, 1) := by decide +kernel
theorem dX9_undo_21 : decode cX9_undo 21 = .ok (.putfield 183, 3) := by decide +kernel
theorem dX9_undo_24 : decode cX9_undo 24 = .ok (.iconst 0, 1) := by decide +kernel
theorem dX9_undo_25 : decode cX9_undo 25 = .ok (.istore_n 1, 1) := by decide +kernel
theorem dX9_undo_26 : decode cX9_undo 26 = .ok (.iload_n 1, 1) := by decide +kernel
theorem dX9_undo_27 : decode cX9_undo 27 = .ok (.bipush 60, 2) := by decide +kernel
theorem dX9_undo_29 : decode cX9_undo 29 = .ok (.if_icmp .ge 29, 3) := by decide +kernel
theorem dX9_undo_32 : decode cX9_undo 32 = .ok (.aload_n 0, 1) := by decide +kernel
theorem dX9_undo_33 : decode cX9_undo 33 = .ok (.getfield 26, 3) := by decide +kernel
theorem dX9_undo_36 : decode cX9_undo 36 = .ok (.iload_n 1, 1) := by decide +kernel
theorem dX9_undo_37 : decode cX9_undo 37 = .ok (.aload_n 0, 1) := by decide +kernel
theorem dX9_undo_38 : decode cX9_undo 38 = .ok (.getfield 29, 3) := by decide +kernel
theorem dX9_undo_41 : decode cX9_undo 41 = .ok (.bipush 60, 2) := by decide +kernel
theorem dX9_undo_43 : decode cX9_undo 43 = .ok (.aload_n 0, 1) := by decide +kernel
theorem dX9_undo_44 : decode cX9_undo 44 = .ok (.getfield 183, 3) := by decide +kernel
theorem dX9_undo_47 : decode cX9_undo 47 = .ok (.imul, 1) := by decide +kernel
theorem dX9_undo_48 : decode cX9_undo 48 = .ok (.iload_n 1, 1) := by decide +kernel
theorem dX9_undo_49 : decode cX9_undo 49 = .ok (.iadd, 1) := by decide +kernel
theorem dX9_undo_50 : decode cX9_undo 50 = .ok (.iaload, 1) := by decide +kernel
theorem dX9_undo_51 : decode cX9_undo 51 = .ok (.iastore, 1) := by decide +kernel
theorem dX9_undo_52 : decode cX9_undo 52 = .ok (.iinc 1 1, 3) := by decide +kernel
theorem dX9_undo_55 : decode cX9_undo 55 = .ok (.goto (-29), 3) := by decide +kernel
theorem dX9_undo_58 : decode cX9_undo 58 = .ok (.aload_n 0, 1) := by decide +kernel
theorem dX9_undo_59 : decode cX9_undo 59 = .ok (.aload_n 0, 1) := by decide +kernel
theorem dX9_undo_60 : decode cX9_undo 60 = .ok (.getfield 32, 3) := by decide +kernel
theorem dX9_undo_63 : decode cX9_undo 63 = .ok (.aload_n 0, 1) := by decide +kernel
theorem dX9_undo_64 : decode cX9_undo 64 = .ok (.getfield 183, 3) := by decide +kernel
theorem dX9_undo_67 : decode cX9_undo 67 = .ok (.laload, 1) := by decide +kernel
theorem dX9_undo_68 : decode cX9_undo 68 = .ok (.putfield 179, 3) := by decide +kernel
theorem dX9_undo_71 : decode cX9_undo 71 = .ok (.aload_n 0, 1) := by decide +kernel
theorem dX9_undo_72 : decode cX9_undo 72 = .ok (.getfield 183, 3) := by decide +kernel
theorem dX9_undo_75 : decode cX9_undo 75 = .ok (.ireturn, 1) := by decide +kernel
theorem dX9_unfolds_0 : decode cX9_unfolds 0 = .ok (.aload_n 0, 1) := by decide +kernel
theorem dX9_unfolds_1 : decode cX9_unfolds 1 = .ok (.iload_n 2, 1) := by decide +kernel
theorem dX9_unfolds_2 : decode cX9_unfolds 2 = .ok (.aload_n 0, 1) := by decide +kernel
theorem dX9_unfolds_3 : decode cX9_unfolds 3 = .ok (.getfield 48, 3) := by decide +kernel
theorem dX9_unfolds_6 : decode cX9_unfolds 6 = .ok (.iload_n 3, 1) := by decide +kernel
theorem dX9_unfolds_7 : decode cX9_unfolds 7 = .ok (.iaload, 1) := by decide +kernel
theorem dX9_unfolds_8 : decode cX9_unfolds 8 = .ok (.invokevirtual 296, 3) := by decide +kernel
theorem dX9_unfolds_11 : decode cX9_unfolds 11 = .ok (.aload_n 0, 1) := by decide +kernel
theorem dX9_unfolds_12 : decode cX9_unfolds 12 = .ok (.getfield 51, 3) := by decide +kernel
theorem dX9_unfolds_15 : decode cX9_unfolds 15 = .ok (.iload_n 3, 1) := by decide +kernel
theorem dX9_unfolds_16 : decode cX9_unfolds 16 = .ok (.iaload, 1) := by decide +kernel
theorem dX9_unfolds_17 : decode cX9_unfolds 17 = .ok (.istore 4, 2) := by decide +kernel
theorem dX9_unfolds_19 : decode cX9_unfolds 19 = .ok (.iconst 0, 1) := by decide +kernel
theorem dX9_unfolds_20 : decode cX9_unfolds 20 = .ok (.istore 5, 2) := by decide +kernel
theorem dX9_unfolds_22 : decode cX9_unfolds 22 = .ok (.aload_n 0, 1) := by decide +kernel
theorem dX9_unfolds_23 : decode cX9_unfolds 23 = .ok (.iload_n 1, 1) := by decide +kernel
theorem dX9_unfolds_24 : decode cX9_unfolds 24 = .ok (.iload 5, 2) := by decide +kernel
theorem dX9_unfolds_26 : decode cX9_unfolds 26 = .ok (.invokevirtual 257, 3) := by decide +kernel
theorem dX9_unfolds_29 : decode cX9_unfolds 29 = .ok (.aload_n 0, 1) := by decide +kernel
theorem dX9_unfolds_30 : decode cX9_unfolds 30 = .ok (.getfield 45, 3) := by decide +kernel
theorem dX9_unfolds_33 : decode cX9_unfolds 33 = .ok (.iload_n 3, 1) := by decide +kernel
theorem dX9_unfolds_34 : decode cX9_unfolds 34 = .ok (.iaload, 1) := by decide +kernel
theorem dX9_unfolds_35 : decode cX9_unfolds 35 = .ok (.if_icmp .ne 19, 3) := by decide +kernel
theorem dX9_unfolds_38 : decode cX9_unfolds 38 = .ok (.aload_n 0, 1) := by decide +kernel
theorem dX9_unfolds_39 : decode cX9_unfolds 39 = .ok (.getfield 57, 3) := by decide +kernel
theorem dX9_unfolds_42 : decode cX9_unfolds 42 = .ok (.bipush 60, 2) := by decide +kernel
theorem dX9_unfolds_44 : decode cX9_unfolds 44 = .ok (.iload 4, 2) := by decide +kernel
theorem dX9_unfolds_46 : decode cX9_unfolds 46 = .ok (.imul, 1) := by decide +kernel
theorem dX9_unfolds_47 : decode cX9_unfolds 47 = .ok (.iload 5, 2) := by decide +kernel
theorem dX9_unfolds_49 : decode cX9_unfolds 49 = .ok (.iadd, 1) := by decide +kernel
theorem dX9_unfolds_50 : decode cX9_unfolds 50 = .ok (.baload, 1) := by decide +kernel
theorem dX9_unfolds_51 : decode cX9_unfolds 51 = .ok (.ifCond .ne 9, 3) := by decide +kernel
theorem dX9_unfolds_54 : decode cX9_unfolds 54 = .ok (.iinc 5 1, 3) := by decide +kernel
theorem dX9_unfolds_57 : decode cX9_unfolds 57 = .ok (.goto (-35), 3) := by decide +kernel
theorem dX9_unfolds_60 : decode cX9_unfolds 60 = .ok (.iconst 0, 1) := by decide +kernel
theorem dX9_unfolds_61 : decode cX9_unfolds 61 = .ok (.istore 6, 2) := by decide +kernel
theorem dX9_unfolds_63 : decode cX9_unfolds 63 = .ok (.iload 6, 2) := by decide +kernel
theorem dX9_unfolds_65 : decode cX9_unfolds 65 = .ok (.aload_n 0, 1) := by decide +kernel
theorem dX9_unfolds_66 : decode cX9_unfolds 66 = .ok (.getfield 51, 3) := by decide +kernel
theorem dX9_unfolds_69 : decode cX9_unfolds 69 = .ok (.iload_n 3, 1) := by decide +kernel
theorem dX9_unfolds_70 : decode cX9_unfolds 70 = .ok (.iaload, 1) := by decide +kernel
theorem dX9_unfolds_71 : decode cX9_unfolds 71 = .ok (.if_icmp .gt 103, 3) := by decide +kernel
theorem dX9_unfolds_74 : decode cX9_unfolds 74 = .ok (.iload 5, 2) := by decide +kernel
theorem dX9_unfolds_76 : decode cX9_unfolds 76 = .ok (.istore 7, 2) := by decide +kernel
theorem dX9_unfolds_78 : decode cX9_unfolds 78 = .ok (.aload_n 0, 1) := by decide +kernel
theorem dX9_unfolds_79 : decode cX9_unfolds 79 = .ok (.getfield 61, 3) := by decide +kernel
theorem dX9_unfolds_82 : decode cX9_unfolds 82 = .ok (.bipush 60, 2) := by decide +kernel
theorem dX9_unfolds_84 : decode cX9_unfolds 84 = .ok (.iload 4, 2) := by decide +kernel
theorem dX9_unfolds_86 : decode cX9_unfolds 86 = .ok (.imul, 1) := by decide +kernel
theorem dX9_unfolds_87 : decode cX9_unfolds 87 = .ok (.iload 7, 2) := by decide +kernel
theorem dX9_unfolds_89 : decode cX9_unfolds 89 = .ok (.iadd, 1) := by decide +kernel
theorem dX9_unfolds_90 : decode cX9_unfolds 90 = .ok (.baload, 1) := by decide +kernel
theorem dX9_unfolds_91 : decode cX9_unfolds 91 = .ok (.ifCond .ne 9, 3) := by decide +kernel
theorem dX9_unfolds_94 : decode cX9_unfolds 94 = .ok (.iinc 7 1, 3) := by decide +kernel
theorem dX9_unfolds_97 : decode cX9_unfolds 97 = .ok (.goto (-19), 3) := by decide +kernel
theorem dX9_unfolds_100 : decode cX9_unfolds 100 = .ok (.aload_n 0, 1) := by decide +kernel
theorem dX9_unfolds_101 : decode cX9_unfolds 101 = .ok (.getfield 64, 3) := by decide +kernel
theorem dX9_unfolds_104 : decode cX9_unfolds 104 = .ok (.iload 6, 2) := by decide +kernel
theorem dX9_unfolds_106 : decode cX9_unfolds 106 = .ok (.iload 5, 2) := by decide +kernel
theorem dX9_unfolds_108 : decode cX9_unfolds 108 = .ok (.iastore, 1) := by decide +kernel
theorem dX9_unfolds_109 : decode cX9_unfolds 109 = .ok (.aload_n 0, 1) := by decide +kernel
theorem dX9_unfolds_110 : decode cX9_unfolds 110 = .ok (.getfield 67, 3) := by decide +kernel
theorem dX9_unfolds_113 : decode cX9_unfolds 113 = .ok (.iload 6, 2) := by decide +kernel
theorem dX9_unfolds_115 : decode cX9_unfolds 115 = .ok (.iload 7, 2) := by decide +kernel
theorem dX9_unfolds_117 : decode cX9_unfolds 117 = .ok (.iastore, 1) := by decide +kernel
theorem dX9_unfolds_118 : decode cX9_unfolds 118 = .ok (.iinc 4 (-1), 3) := by decide +kernel
theorem dX9_unfolds_121 : decode cX9_unfolds 121 = .ok (.iconst 0, 1) := by decide +kernel
theorem dX9_unfolds_122 : decode cX9_unfolds 122 = .ok (.istore 5, 2) := by decide +kernel
theorem dX9_unfolds_124 : decode cX9_unfolds 124 = .ok (.iload 4, 2) := by decide +kernel
theorem dX9_unfolds_126 : decode cX9_unfolds 126 = .ok (.ifCond .lt 42, 3) := by decide +kernel
theorem dX9_unfolds_129 : decode cX9_unfolds 129 = .ok (.aload_n 0, 1) := by decide +kernel
theorem dX9_unfolds_130 : decode cX9_unfolds 130 = .ok (.getfield 42, 3) := by decide +kernel
theorem dX9_unfolds_133 : decode cX9_unfolds 133 = .ok (.iload 7, 2) := by decide +kernel
theorem dX9_unfolds_135 : decode cX9_unfolds 135 = .ok (.laload, 1) := by decide +kernel
theorem dX9_unfolds_136 : decode cX9_unfolds 136 = .ok (.iload 5, 2) := by decide +kernel
theorem dX9_unfolds_138 : decode cX9_unfolds 138 = .ok (.lshr, 1) := by decide +kernel
theorem dX9_unfolds_139 : decode cX9_unfolds 139 = .ok (.lconst 1, 1) := by decide +kernel
theorem dX9_unfolds_140 : decode cX9_unfolds 140 = .ok (.land, 1) := by decide +kernel
theorem dX9_unfolds_141 : decode cX9_unfolds 141 = .ok (.lconst 0, 1) := by decide +kernel
theorem dX9_unfolds_142 : decode cX9_unfolds 142 = .ok (.lcmp, 1) := by decide +kernel
theorem dX9_unfolds_143 : decode cX9_unfolds 143 = .ok (.ifCond .eq 19, 3) := by decide +kernel
theorem dX9_unfolds_146 : decode cX9_unfolds 146 = .ok (.aload_n 0, 1) := by decide +kernel
theorem dX9_unfolds_147 : decode cX9_unfolds 147 = .ok (.getfield 57, 3) := by decide +kernel
theorem dX9_unfolds_150 : decode cX9_unfolds 150 = .ok (.bipush 60, 2) := by decide +kernel
theorem dX9_unfolds_152 : decode cX9_unfolds 152 = .ok (.iload 4, 2) := by decide +kernel
theorem dX9_unfolds_154 : decode cX9_unfolds 154 = .ok (.imul, 1) := by decide +kernel
theorem dX9_unfolds_155 : decode cX9_unfolds 155 = .ok (.iload 5, 2) := by decide +kernel
theorem dX9_unfolds_157 : decode cX9_unfolds 157 = .ok (.iadd, 1) := by decide +kernel
theorem dX9_unfolds_158 : decode cX9_unfolds 158 = .ok (.baload, 1) := by decide +kernel
theorem dX9_unfolds_159 : decode cX9_unfolds 159 = .ok (.ifCond .ne 9, 3) := by decide +kernel
theorem dX9_unfolds_162 : decode cX9_unfolds 162 = .ok (.iinc 5 1, 3) := by decide +kernel
theorem dX9_unfolds_165 : decode cX9_unfolds 165 = .ok (.goto (-41), 3) := by decide +kernel
theorem dX9_unfolds_168 : decode cX9_unfolds 168 = .ok (.iinc 6 1, 3) := by decide +kernel
theorem dX9_unfolds_171 : decode cX9_unfolds 171 = .ok (.goto (-108), 3) := by decide +kernel
theorem dX9_unfolds_174 : decode cX9_unfolds 174 = .ok (.return_, 1) := by decide +kernel
theorem dX9_uses_0 : decode cX9_uses 0 = .ok (.aload_n 0, 1) := by decide +kernel
theorem dX9_uses_1 : decode cX9_uses 1 = .ok (.iconst 0, 1) := by decide +kernel
theorem dX9_uses_2 : decode cX9_uses 2 = .ok (.putfield 85, 3) := by decide +kernel
theorem dX9_uses_5 : decode cX9_uses 5 = .ok (.aload_n 0, 1) := by decide +kernel
theorem dX9_uses_6 : decode cX9_uses 6 = .ok (.iload_n 1, 1) := by decide +kernel
theorem dX9_uses_7 : decode cX9_uses 7 = .ok (.invokevirtual 222, 3) := by decide +kernel
theorem dX9_uses_10 : decode cX9_uses 10 = .ok (.ifCond .eq 11, 3) := by decide +kernel
theorem dX9_uses_13 : decode cX9_uses 13 = .ok (.aload_n 0, 1) := by decide +kernel
theorem dX9_uses_14 : decode cX9_uses 14 = .ok (.iload_n 2, 1) := by decide +kernel
theorem dX9_uses_15 : decode cX9_uses 15 = .ok (.invokevirtual 213, 3) := by decide +kernel
theorem dX9_uses_18 : decode cX9_uses 18 = .ok (.ifCond .ne 5, 3) := by decide +kernel
theorem dX9_uses_21 : decode cX9_uses 21 = .ok (.iconst (-1), 1) := by decide +kernel
theorem dX9_uses_22 : decode cX9_uses 22 = .ok (.ireturn, 1) := by decide +kernel
theorem dX9_uses_23 : decode cX9_uses 23 = .ok (.aload_n 0, 1) := by decide +kernel
theorem dX9_uses_24 : decode cX9_uses 24 = .ok (.invokevirtual 290, 3) := by decide +kernel
theorem dX9_uses_27 : decode cX9_uses 27 = .ok (.iconst 0, 1) := by decide +kernel
theorem dX9_uses_28 : decode cX9_uses 28 = .ok (.istore_n 3, 1) := by decide +kernel
theorem dX9_uses_29 : decode cX9_uses 29 = .ok (.iconst 0, 1) := by decide +kernel
theorem dX9_uses_30 : decode cX9_uses 30 = .ok (.istore 4, 2) := by decide +kernel
theorem dX9_uses_32 : decode cX9_uses 32 = .ok (.iload 4, 2) := by decide +kernel
theorem dX9_uses_34 : decode cX9_uses 34 = .ok (.aload_n 0, 1) := by decide +kernel
theorem dX9_uses_35 : decode cX9_uses 35 = .ok (.invokevirtual 195, 3) := by decide +kernel
theorem dX9_uses_38 : decode cX9_uses 38 = .ok (.if_icmp .ge 125, 3) := by decide +kernel
theorem dX9_uses_41 : decode cX9_uses 41 = .ok (.iload 4, 2) := by decide +kernel
theorem dX9_uses_43 : decode cX9_uses 43 = .ok (.iload_n 2, 1) := by decide +kernel
theorem dX9_uses_44 : decode cX9_uses 44 = .ok (.if_icmp .ne 6, 3) := by decide +kernel
theorem dX9_uses_47 : decode cX9_uses 47 = .ok (.goto 110, 3) := by decide +kernel
theorem dX9_uses_50 : decode cX9_uses 50 = .ok (.aload_n 0, 1) := by decide +kernel
theorem dX9_uses_51 : decode cX9_uses 51 = .ok (.iload 4, 2) := by decide +kernel
theorem dX9_uses_53 : decode cX9_uses 53 = .ok (.iload_n 2, 1) := by decide +kernel
theorem dX9_uses_54 : decode cX9_uses 54 = .ok (.invokevirtual 293, 3) := by decide +kernel
theorem dX9_uses_57 : decode cX9_uses 57 = .ok (.iconst 0, 1) := by decide +kernel
theorem dX9_uses_58 : decode cX9_uses 58 = .ok (.istore 5, 2) := by decide +kernel
theorem dX9_uses_60 : decode cX9_uses 60 = .ok (.iload 5, 2) := by decide +kernel
theorem dX9_uses_62 : decode cX9_uses 62 = .ok (.aload_n 0, 1) := by decide +kernel
theorem dX9_uses_63 : decode cX9_uses 63 = .ok (.getfield 278, 3) := by decide +kernel
theorem dX9_uses_66 : decode cX9_uses 66 = .ok (.if_icmp .ge 91, 3) := by decide +kernel
theorem dX9_uses_69 : decode cX9_uses 69 = .ok (.aload_n 0, 1) := by decide +kernel
theorem dX9_uses_70 : decode cX9_uses 70 = .ok (.iload 4, 2) := by decide +kernel
theorem dX9_uses_72 : decode cX9_uses 72 = .ok (.iload_n 2, 1) := by decide +kernel
theorem dX9_uses_73 : decode cX9_uses 73 = .ok (.aload_n 0, 1) := by decide +kernel
theorem dX9_uses_74 : decode cX9_uses 74 = .ok (.getfield 54, 3) := by decide +kernel
theorem dX9_uses_77 : decode cX9_uses 77 = .ok (.iload 5, 2) := by decide +kernel
theorem dX9_uses_79 : decode cX9_uses 79 = .ok (.iaload, 1) := by decide +kernel
theorem dX9_uses_80 : decode cX9_uses 80 = .ok (.invokevirtual 299, 3) := by decide +kernel
theorem dX9_uses_83 : decode cX9_uses 83 = .ok (.iconst 0, 1) := by decide +kernel
theorem dX9_uses_84 : decode cX9_uses 84 = .ok (.istore 6, 2) := by decide +kernel
theorem dX9_uses_86 : decode cX9_uses 86 = .ok (.iconst 0, 1) := by decide +kernel
theorem dX9_uses_87 : decode cX9_uses 87 = .ok (.istore 7, 2) := by decide +kernel
theorem dX9_uses_89 : decode cX9_uses 89 = .ok (.iload 7, 2) := by decide +kernel
theorem dX9_uses_91 : decode cX9_uses 91 = .ok (.aload_n 0, 1) := by decide +kernel
theorem dX9_uses_92 : decode cX9_uses 92 = .ok (.getfield 51, 3) := by decide +kernel
theorem dX9_uses_95 : decode cX9_uses 95 = .ok (.aload_n 0, 1) := by decide +kernel
theorem dX9_uses_96 : decode cX9_uses 96 = .ok (.getfield 54, 3) := by decide +kernel
theorem dX9_uses_99 : decode cX9_uses 99 = .ok (.iload 5, 2) := by decide +kernel
theorem dX9_uses_101 : decode cX9_uses 101 = .ok (.iaload, 1) := by decide +kernel
theorem dX9_uses_102 : decode cX9_uses 102 = .ok (.iaload, 1) := by decide +kernel
theorem dX9_uses_103 : decode cX9_uses 103 = .ok (.if_icmp .gt 35, 3) := by decide +kernel
theorem dX9_uses_106 : decode cX9_uses 106 = .ok (.iload 6, 2) := by decide +kernel
theorem dX9_uses_108 : decode cX9_uses 108 = .ok (.aload_n 0, 1) := by decide +kernel
theorem dX9_uses_109 : decode cX9_uses 109 = .ok (.aload_n 0, 1) := by decide +kernel
theorem dX9_uses_110 : decode cX9_uses 110 = .ok (.getfield 64, 3) := by decide +kernel
theorem dX9_uses_113 : decode cX9_uses 113 = .ok (.iload 7, 2) := by decide +kernel
theorem dX9_uses_115 : decode cX9_uses 115 = .ok (.iaload, 1) := by decide +kernel
theorem dX9_uses_116 : decode cX9_uses 116 = .ok (.iconst 0, 1) := by decide +kernel
theorem dX9_uses_117 : decode cX9_uses 117 = .ok (.invokevirtual 201, 3) := by decide +kernel
theorem dX9_uses_120 : decode cX9_uses 120 = .ok (.iload_n 1, 1) := by decide +kernel
theorem dX9_uses_121 : decode cX9_uses 121 = .ok (.if_icmp .ne 7, 3) := by decide +kernel
theorem dX9_uses_124 : decode cX9_uses 124 = .ok (.iconst 1, 1) := by decide +kernel
theorem dX9_uses_125 : decode cX9_uses 125 = .ok (.goto 4, 3) := by decide +kernel
theorem dX9_uses_128 : decode cX9_uses 128 = .ok (.iconst 0, 1) := by decide +kernel
theorem dX9_uses_129 : decode cX9_uses 129 = .ok (.ior, 1) := by decide +kernel
theorem dX9_uses_130 : decode cX9_uses 130 = .ok (.istore 6, 2) := by decide +kernel
theorem dX9_uses_132 : decode cX9_uses 132 = .ok (.iinc 7 1, 3) := by decide +kernel
theorem dX9_uses_135 : decode cX9_uses 135 = .ok (.goto (-46), 3) := by decide +kernel
theorem dX9_uses_138 : decode cX9_uses 138 = .ok (.iload_n 3, 1) := by decide +kernel
theorem dX9_uses_139 : decode cX9_uses 139 = .ok (.iload 6, 2) := by decide +kernel
theorem dX9_uses_141 : decode cX9_uses 141 = .ok (.ifCond .eq 7, 3) := by decide +kernel
theorem dX9_uses_144 : decode cX9_uses 144 = .ok (.iconst 1, 1) := by decide +kernel
theorem dX9_uses_145 : decode cX9_uses 145 = .ok (.goto 4, 3) := by decide +kernel
theorem dX9_uses_148 : decode cX9_uses 148 = .ok (.iconst 0, 1) := by decide +kernel
theorem dX9_uses_149 : decode cX9_uses 149 = .ok (.iadd, 1) := by decide +kernel
theorem dX9_uses_150 : decode cX9_uses 150 = .ok (.istore_n 3, 1) := by decide +kernel
theorem dX9_uses_151 : decode cX9_uses 151 = .ok (.iinc 5 1, 3) := by decide +kernel
theorem dX9_uses_154 : decode cX9_uses 154 = .ok (.goto (-94), 3) := by decide +kernel
theorem dX9_uses_157 : decode cX9_uses 157 = .ok (.iinc 4 1, 3) := by decide +kernel
theorem dX9_uses_160 : decode cX9_uses 160 = .ok (.goto (-128), 3) := by decide +kernel
theorem dX9_uses_163 : decode cX9_uses 163 = .ok (.iload_n 3, 1) := by decide +kernel
theorem dX9_uses_164 : decode cX9_uses 164 = .ok (.ireturn, 1) := by decide +kernel
theorem dX9_via_0 : decode cX9_via 0 = .ok (.aload_n 0, 1) := by decide +kernel
theorem dX9_via_1 : decode cX9_via 1 = .ok (.iconst 0, 1) := by decide +kernel
theorem dX9_via_2 : decode cX9_via 2 = .ok (.putfield 85, 3) := by decide +kernel
theorem dX9_via_5 : decode cX9_via 5 = .ok (.aload_n 0, 1) := by decide +kernel
theorem dX9_via_6 : decode cX9_via 6 = .ok (.iload_n 1, 1) := by decide +kernel
theorem dX9_via_7 : decode cX9_via 7 = .ok (.invokevirtual 213, 3) := by decide +kernel
theorem dX9_via_10 : decode cX9_via 10 = .ok (.ifCond .eq 27, 3) := by decide +kernel
theorem dX9_via_13 : decode cX9_via 13 = .ok (.aload_n 0, 1) := by decide +kernel
theorem dX9_via_14 : decode cX9_via 14 = .ok (.iload_n 2, 1) := by decide +kernel
theorem dX9_via_15 : decode cX9_via 15 = .ok (.invokevirtual 213, 3) := by decide +kernel
theorem dX9_via_18 : decode cX9_via 18 = .ok (.ifCond .eq 19, 3) := by decide +kernel
theorem dX9_via_21 : decode cX9_via 21 = .ok (.aload_n 0, 1) := by decide +kernel
theorem dX9_via_22 : decode cX9_via 22 = .ok (.iload_n 3, 1) := by decide +kernel
theorem dX9_via_23 : decode cX9_via 23 = .ok (.invokevirtual 213, 3) := by decide +kernel
theorem dX9_via_26 : decode cX9_via 26 = .ok (.ifCond .eq 11, 3) := by decide +kernel
theorem dX9_via_29 : decode cX9_via 29 = .ok (.iload 4, 2) := by decide +kernel
theorem dX9_via_31 : decode cX9_via 31 = .ok (.invokestatic 320, 3) := by decide +kernel
theorem dX9_via_34 : decode cX9_via 34 = .ok (.ifCond .ne 5, 3) := by decide +kernel
theorem dX9_via_37 : decode cX9_via 37 = .ok (.iconst (-1), 1) := by decide +kernel
theorem dX9_via_38 : decode cX9_via 38 = .ok (.ireturn, 1) := by decide +kernel
theorem dX9_via_39 : decode cX9_via 39 = .ok (.aload_n 0, 1) := by decide +kernel
theorem dX9_via_40 : decode cX9_via 40 = .ok (.invokevirtual 290, 3) := by decide +kernel
theorem dX9_via_43 : decode cX9_via 43 = .ok (.aload_n 0, 1) := by decide +kernel
theorem dX9_via_44 : decode cX9_via 44 = .ok (.iload_n 1, 1) := by decide +kernel
theorem dX9_via_45 : decode cX9_via 45 = .ok (.iload_n 2, 1) := by decide +kernel
theorem dX9_via_46 : decode cX9_via 46 = .ok (.iload 4, 2) := by decide +kernel
theorem dX9_via_48 : decode cX9_via 48 = .ok (.invokevirtual 323, 3) := by decide +kernel
theorem dX9_via_51 : decode cX9_via 51 = .ok (.istore 5, 2) := by decide +kernel
theorem dX9_via_53 : decode cX9_via 53 = .ok (.iload 5, 2) := by decide +kernel
theorem dX9_via_55 : decode cX9_via 55 = .ok (.ldc 175, 2) := by decide +kernel
theorem dX9_via_57 : decode cX9_via 57 = .ok (.if_icmp .lt 8, 3) := by decide +kernel
theorem dX9_via_60 : decode cX9_via 60 = .ok (.bipush (-2), 2) := by decide +kernel
theorem dX9_via_62 : decode cX9_via 62 = .ok (.goto 14, 3) := by decide +kernel
theorem dX9_via_65 : decode cX9_via 65 = .ok (.aload_n 0, 1) := by decide +kernel
theorem dX9_via_66 : decode cX9_via 66 = .ok (.iload_n 2, 1) := by decide +kernel
theorem dX9_via_67 : decode cX9_via 67 = .ok (.iload_n 3, 1) := by decide +kernel
theorem dX9_via_68 : decode cX9_via 68 = .ok (.iload 5, 2) := by decide +kernel
theorem dX9_via_70 : decode cX9_via 70 = .ok (.invokevirtual 323, 3) := by decide +kernel
theorem dX9_via_73 : decode cX9_via 73 = .ok (.invokestatic 326, 3) := by decide +kernel
theorem dX9_via_76 : decode cX9_via 76 = .ok (.ireturn, 1) := by decide +kernel
theorem dX9_waits_0 : decode cX9_waits 0 = .ok (.aload_n 0, 1) := by decide +kernel
theorem dX9_waits_1 : decode cX9_waits 1 = .ok (.iconst 0, 1) := by decide +kernel
theorem dX9_waits_2 : decode cX9_waits 2 = .ok (.putfield 85, 3) := by decide +kernel
theorem dX9_waits_5 : decode cX9_waits 5 = .ok (.aload_n 0, 1) := by decide +kernel
theorem dX9_waits_6 : decode cX9_waits 6 = .ok (.iload_n 1, 1) := by decide +kernel
theorem dX9_waits_7 : decode cX9_waits 7 = .ok (.iload_n 2, 1) := by decide +kernel
theorem dX9_waits_8 : decode cX9_waits 8 = .ok (.invokevirtual 287, 3) := by decide +kernel
theorem dX9_waits_11 : decode cX9_waits 11 = .ok (.ifCond .eq 18, 3) := by decide +kernel
theorem dX9_waits_14 : decode cX9_waits 14 = .ok (.iload_n 3, 1) := by decide +kernel
theorem dX9_waits_15 : decode cX9_waits 15 = .ok (.ifCond .lt 14, 3) := by decide +kernel
theorem dX9_waits_18 : decode cX9_waits 18 = .ok (.iload 4, 2) := by decide +kernel
theorem dX9_waits_20 : decode cX9_waits 20 = .ok (.ifCond .lt 9, 3) := by decide +kernel
theorem dX9_waits_23 : decode cX9_waits 23 = .ok (.iload 4, 2) := by decide +kernel
theorem dX9_waits_25 : decode cX9_waits 25 = .ok (.iconst 1, 1) := by decide +kernel
theorem dX9_waits_26 : decode cX9_waits 26 = .ok (.if_icmp .le 5, 3) := by decide +kernel
theorem dX9_waits_29 : decode cX9_waits 29 = .ok (.iconst (-1), 1) := by decide +kernel
theorem dX9_waits_30 : decode cX9_waits 30 = .ok (.ireturn, 1) := by decide +kernel
theorem dX9_waits_31 : decode cX9_waits 31 = .ok (.aload_n 0, 1) := by decide +kernel
theorem dX9_waits_32 : decode cX9_waits 32 = .ok (.invokevirtual 290, 3) := by decide +kernel
theorem dX9_waits_35 : decode cX9_waits 35 = .ok (.aload_n 0, 1) := by decide +kernel
theorem dX9_waits_36 : decode cX9_waits 36 = .ok (.iload_n 1, 1) := by decide +kernel
theorem dX9_waits_37 : decode cX9_waits 37 = .ok (.iload_n 2, 1) := by decide +kernel
theorem dX9_waits_38 : decode cX9_waits 38 = .ok (.invokevirtual 293, 3) := by decide +kernel
theorem dX9_waits_41 : decode cX9_waits 41 = .ok (.iload_n 3, 1) := by decide +kernel
theorem dX9_waits_42 : decode cX9_waits 42 = .ok (.aload_n 0, 1) := by decide +kernel
theorem dX9_waits_43 : decode cX9_waits 43 = .ok (.getfield 278, 3) := by decide +kernel
theorem dX9_waits_46 : decode cX9_waits 46 = .ok (.if_icmp .lt 6, 3) := by decide +kernel
theorem dX9_waits_49 : decode cX9_waits 49 = .ok (.bipush (-2), 2) := by decide +kernel
theorem dX9_waits_51 : decode cX9_waits 51 = .ok (.ireturn, 1) := by decide +kernel
theorem dX9_waits_52 : decode cX9_waits 52 = .ok (.aload_n 0, 1) := by decide +kernel
theorem dX9_waits_53 : decode cX9_waits 53 = .ok (.getfield 54, 3) := by decide +kernel
theorem dX9_waits_56 : decode cX9_waits 56 = .ok (.iload_n 3, 1) := by decide +kernel
theorem dX9_waits_57 : decode cX9_waits 57 = .ok (.iaload, 1) := by decide +kernel
theorem dX9_waits_58 : decode cX9_waits 58 = .ok (.istore 5, 2) := by decide +kernel
theorem dX9_waits_60 : decode cX9_waits 60 = .ok (.aload_n 0, 1) := by decide +kernel
theorem dX9_waits_61 : decode cX9_waits 61 = .ok (.iload_n 1, 1) := by decide +kernel
theorem dX9_waits_62 : decode cX9_waits 62 = .ok (.iload_n 2, 1) := by decide +kernel
theorem dX9_waits_63 : decode cX9_waits 63 = .ok (.iload 5, 2) := by decide +kernel
theorem dX9_waits_65 : decode cX9_waits 65 = .ok (.invokevirtual 299, 3) := by decide +kernel
theorem dX9_waits_68 : decode cX9_waits 68 = .ok (.iload 4, 2) := by decide +kernel
theorem dX9_waits_70 : decode cX9_waits 70 = .ok (.ifCond .ne 37, 3) := by decide +kernel
theorem dX9_waits_73 : decode cX9_waits 73 = .ok (.aload_n 0, 1) := by decide +kernel
theorem dX9_waits_74 : decode cX9_waits 74 = .ok (.getfield 48, 3) := by decide +kernel
theorem dX9_waits_77 : decode cX9_waits 77 = .ok (.iload 5, 2) := by decide +kernel
theorem dX9_waits_79 : decode cX9_waits 79 = .ok (.iaload, 1) := by decide +kernel
theorem dX9_waits_80 : decode cX9_waits 80 = .ok (.aload_n 0, 1) := by decide +kernel
theorem dX9_waits_81 : decode cX9_waits 81 = .ok (.getfield 45, 3) := by decide +kernel
theorem dX9_waits_84 : decode cX9_waits 84 = .ok (.iload 5, 2) := by decide +kernel
theorem dX9_waits_86 : decode cX9_waits 86 = .ok (.iaload, 1) := by decide +kernel
theorem dX9_waits_87 : decode cX9_waits 87 = .ok (.isub, 1) := by decide +kernel
theorem dX9_waits_88 : decode cX9_waits 88 = .ok (.aload_n 0, 1) := by decide +kernel
theorem dX9_waits_89 : decode cX9_waits 89 = .ok (.iload_n 1, 1) := by decide +kernel
theorem dX9_waits_90 : decode cX9_waits 90 = .ok (.iload_n 2, 1) := by decide +kernel
theorem dX9_waits_91 : decode cX9_waits 91 = .ok (.aload_n 0, 1) := by decide +kernel
theorem dX9_waits_92 : decode cX9_waits 92 = .ok (.getfield 51, 3) := by decide +kernel
theorem dX9_waits_95 : decode cX9_waits 95 = .ok (.iload 5, 2) := by decide +kernel
theorem dX9_waits_97 : decode cX9_waits 97 = .ok (.iaload, 1) := by decide +kernel
theorem dX9_waits_98 : decode cX9_waits 98 = .ok (.iconst 1, 1) := by decide +kernel
theorem dX9_waits_99 : decode cX9_waits 99 = .ok (.iadd, 1) := by decide +kernel
theorem dX9_waits_100 : decode cX9_waits 100 = .ok (.invokevirtual 306, 3) := by decide +kernel
theorem dX9_waits_103 : decode cX9_waits 103 = .ok (.isub, 1) := by decide +kernel
theorem dX9_waits_104 : decode cX9_waits 104 = .ok (.goto 16, 3) := by decide +kernel
theorem dX9_waits_107 : decode cX9_waits 107 = .ok (.aload_n 0, 1) := by decide +kernel
theorem dX9_waits_108 : decode cX9_waits 108 = .ok (.aload_n 0, 1) := by decide +kernel
theorem dX9_waits_109 : decode cX9_waits 109 = .ok (.getfield 51, 3) := by decide +kernel
theorem dX9_waits_112 : decode cX9_waits 112 = .ok (.iload 5, 2) := by decide +kernel
theorem dX9_waits_114 : decode cX9_waits 114 = .ok (.iaload, 1) := by decide +kernel
theorem dX9_waits_115 : decode cX9_waits 115 = .ok (.iconst 1, 1) := by decide +kernel
theorem dX9_waits_116 : decode cX9_waits 116 = .ok (.iadd, 1) := by decide +kernel
theorem dX9_waits_117 : decode cX9_waits 117 = .ok (.invokevirtual 310, 3) := by decide +kernel
theorem dX9_waits_120 : decode cX9_waits 120 = .ok (.ireturn, 1) := by decide +kernel
theorem dX9_walk_0 : decode cX9_walk 0 = .ok (.aload_n 0, 1) := by decide +kernel
theorem dX9_walk_1 : decode cX9_walk 1 = .ok (.iconst 0, 1) := by decide +kernel
theorem dX9_walk_2 : decode cX9_walk 2 = .ok (.putfield 85, 3) := by decide +kernel
theorem dX9_walk_5 : decode cX9_walk 5 = .ok (.aload_n 0, 1) := by decide +kernel
theorem dX9_walk_6 : decode cX9_walk 6 = .ok (.iload_n 1, 1) := by decide +kernel
theorem dX9_walk_7 : decode cX9_walk 7 = .ok (.invokevirtual 213, 3) := by decide +kernel
theorem dX9_walk_10 : decode cX9_walk 10 = .ok (.ifCond .eq 11, 3) := by decide +kernel
theorem dX9_walk_13 : decode cX9_walk 13 = .ok (.aload_n 0, 1) := by decide +kernel
theorem dX9_walk_14 : decode cX9_walk 14 = .ok (.iload_n 2, 1) := by decide +kernel
theorem dX9_walk_15 : decode cX9_walk 15 = .ok (.invokevirtual 213, 3) := by decide +kernel
theorem dX9_walk_18 : decode cX9_walk 18 = .ok (.ifCond .ne 5, 3) := by decide +kernel
theorem dX9_walk_21 : decode cX9_walk 21 = .ok (.iconst (-1), 1) := by decide +kernel
theorem dX9_walk_22 : decode cX9_walk 22 = .ok (.ireturn, 1) := by decide +kernel
theorem dX9_walk_23 : decode cX9_walk 23 = .ok (.aload_n 0, 1) := by decide +kernel
theorem dX9_walk_24 : decode cX9_walk 24 = .ok (.iload_n 1, 1) := by decide +kernel
theorem dX9_walk_25 : decode cX9_walk 25 = .ok (.iload_n 2, 1) := by decide +kernel
theorem dX9_walk_26 : decode cX9_walk 26 = .ok (.invokevirtual 216, 3) := by decide +kernel
theorem dX9_walk_29 : decode cX9_walk 29 = .ok (.ldc 175, 2) := by decide +kernel
theorem dX9_walk_31 : decode cX9_walk 31 = .ok (.if_icmp .lt 8, 3) := by decide +kernel
theorem dX9_walk_34 : decode cX9_walk 34 = .ok (.bipush (-2), 2) := by decide +kernel
theorem dX9_walk_36 : decode cX9_walk 36 = .ok (.goto 9, 3) := by decide +kernel
theorem dX9_walk_39 : decode cX9_walk 39 = .ok (.aload_n 0, 1) := by decide +kernel
theorem dX9_walk_40 : decode cX9_walk 40 = .ok (.iload_n 1, 1) := by decide +kernel
theorem dX9_walk_41 : decode cX9_walk 41 = .ok (.iload_n 2, 1) := by decide +kernel
theorem dX9_walk_42 : decode cX9_walk 42 = .ok (.invokevirtual 216, 3) := by decide +kernel
theorem dX9_walk_45 : decode cX9_walk 45 = .ok (.ireturn, 1) := by decide +kernel
theorem dX9_walked_0 : decode cX9_walked 0 = .ok (.aload_n 0, 1) := by decide +kernel
theorem dX9_walked_1 : decode cX9_walked 1 = .ok (.getfield 13, 3) := by decide +kernel
theorem dX9_walked_4 : decode cX9_walked 4 = .ok (.bipush 15, 2) := by decide +kernel
theorem dX9_walked_6 : decode cX9_walked 6 = .ok (.bipush 10, 2) := by decide +kernel
theorem dX9_walked_8 : decode cX9_walked 8 = .ok (.iload_n 1, 1) := by decide +kernel
theorem dX9_walked_9 : decode cX9_walked 9 = .ok (.imul, 1) := by decide +kernel
theorem dX9_walked_10 : decode cX9_walked 10 = .ok (.iadd, 1) := by decide +kernel
theorem dX9_walked_11 : decode cX9_walked 11 = .ok (.iload_n 2, 1) := by decide +kernel
theorem dX9_walked_12 : decode cX9_walked 12 = .ok (.iadd, 1) := by decide +kernel
theorem dX9_walked_13 : decode cX9_walked 13 = .ok (.iaload, 1) := by decide +kernel
theorem dX9_walked_14 : decode cX9_walked 14 = .ok (.ireturn, 1) := by decide +kernel
theorem dX9_wordHere_0 : decode cX9_wordHere 0 = .ok (.iconst 0, 1) := by decide +kernel
theorem dX9_wordHere_1 : decode cX9_wordHere 1 = .ok (.istore_n 1, 1) := by decide +kernel
theorem dX9_wordHere_2 : decode cX9_wordHere 2 = .ok (.iload_n 1, 1) := by decide +kernel
theorem dX9_wordHere_3 : decode cX9_wordHere 3 = .ok (.iconst 3, 1) := by decide +kernel
theorem dX9_wordHere_4 : decode cX9_wordHere 4 = .ok (.if_icmp .ge 75, 3) := by decide +kernel
theorem dX9_wordHere_7 : decode cX9_wordHere 7 = .ok (.aload_n 0, 1) := by decide +kernel
theorem dX9_wordHere_8 : decode cX9_wordHere 8 = .ok (.getfield 91, 3) := by decide +kernel
theorem dX9_wordHere_11 : decode cX9_wordHere 11 = .ok (.aload_n 0, 1) := by decide +kernel
theorem dX9_wordHere_12 : decode cX9_wordHere 12 = .ok (.getfield 101, 3) := by decide +kernel
theorem dX9_wordHere_15 : decode cX9_wordHere 15 = .ok (.isub, 1) := by decide +kernel
theorem dX9_wordHere_16 : decode cX9_wordHere 16 = .ok (.iconst 4, 1) := by decide +kernel
theorem dX9_wordHere_17 : decode cX9_wordHere 17 = .ok (.if_icmp .ne 62, 3) := by decide +kernel
theorem dX9_wordHere_20 : decode cX9_wordHere 20 = .ok (.iconst 1, 1) := by decide +kernel
theorem dX9_wordHere_21 : decode cX9_wordHere 21 = .ok (.istore_n 2, 1) := by decide +kernel
theorem dX9_wordHere_22 : decode cX9_wordHere 22 = .ok (.iconst 0, 1) := by decide +kernel
theorem dX9_wordHere_23 : decode cX9_wordHere 23 = .ok (.istore_n 3, 1) := by decide +kernel
theorem dX9_wordHere_24 : decode cX9_wordHere 24 = .ok (.iload_n 3, 1) := by decide +kernel
theorem dX9_wordHere_25 : decode cX9_wordHere 25 = .ok (.iconst 4, 1) := by decide +kernel
theorem dX9_wordHere_26 : decode cX9_wordHere 26 = .ok (.if_icmp .ge 41, 3) := by decide +kernel
