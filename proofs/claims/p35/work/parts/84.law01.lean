theorem dL_arePatterns_0 : decode cL_arePatterns 0 = .ok (.aload_n 0, 1) := by decide +kernel
theorem dL_arePatterns_1 : decode cL_arePatterns 1 = .ok (.iconst 1, 1) := by decide +kernel
theorem dL_arePatterns_2 : decode cL_arePatterns 2 = .ok (.iload_n 2, 1) := by decide +kernel
theorem dL_arePatterns_3 : decode cL_arePatterns 3 = .ok (.iconst 0, 1) := by decide +kernel
theorem dL_arePatterns_4 : decode cL_arePatterns 4 = .ok (.invokestatic 120, 3) := by decide +kernel
theorem dL_arePatterns_7 : decode cL_arePatterns 7 = .ok (.sipush (-2005), 3) := by decide +kernel
theorem dL_arePatterns_10 : decode cL_arePatterns 10 = .ok (.if_icmp .ne 33, 3) := by decide +kernel
theorem dL_arePatterns_13 : decode cL_arePatterns 13 = .ok (.aload_n 0, 1) := by decide +kernel
theorem dL_arePatterns_14 : decode cL_arePatterns 14 = .ok (.iconst 4, 1) := by decide +kernel
theorem dL_arePatterns_15 : decode cL_arePatterns 15 = .ok (.iconst (-1), 1) := by decide +kernel
theorem dL_arePatterns_16 : decode cL_arePatterns 16 = .ok (.iconst 0, 1) := by decide +kernel
theorem dL_arePatterns_17 : decode cL_arePatterns 17 = .ok (.invokestatic 120, 3) := by decide +kernel
theorem dL_arePatterns_20 : decode cL_arePatterns 20 = .ok (.sipush (-2005), 3) := by decide +kernel
theorem dL_arePatterns_23 : decode cL_arePatterns 23 = .ok (.if_icmp .ne 20, 3) := by decide +kernel
theorem dL_arePatterns_26 : decode cL_arePatterns 26 = .ok (.aload_n 0, 1) := by decide +kernel
theorem dL_arePatterns_27 : decode cL_arePatterns 27 = .ok (.iconst 2, 1) := by decide +kernel
theorem dL_arePatterns_28 : decode cL_arePatterns 28 = .ok (.iconst 4, 1) := by decide +kernel
theorem dL_arePatterns_29 : decode cL_arePatterns 29 = .ok (.iconst 0, 1) := by decide +kernel
theorem dL_arePatterns_30 : decode cL_arePatterns 30 = .ok (.invokestatic 120, 3) := by decide +kernel
theorem dL_arePatterns_33 : decode cL_arePatterns 33 = .ok (.sipush (-2002), 3) := by decide +kernel
theorem dL_arePatterns_36 : decode cL_arePatterns 36 = .ok (.if_icmp .ne 7, 3) := by decide +kernel
theorem dL_arePatterns_39 : decode cL_arePatterns 39 = .ok (.iconst 1, 1) := by decide +kernel
theorem dL_arePatterns_40 : decode cL_arePatterns 40 = .ok (.goto 4, 3) := by decide +kernel
theorem dL_arePatterns_43 : decode cL_arePatterns 43 = .ok (.iconst 0, 1) := by decide +kernel
theorem dL_arePatterns_44 : decode cL_arePatterns 44 = .ok (.istore_n 3, 1) := by decide +kernel
theorem dL_arePatterns_45 : decode cL_arePatterns 45 = .ok (.sipush 200, 3) := by decide +kernel
theorem dL_arePatterns_48 : decode cL_arePatterns 48 = .ok (.newarray .int, 2) := by decide +kernel
theorem dL_arePatterns_50 : decode cL_arePatterns 50 = .ok (.astore 4, 2) := by decide +kernel
theorem dL_arePatterns_52 : decode cL_arePatterns 52 = .ok (.sipush 600, 3) := by decide +kernel
theorem dL_arePatterns_55 : decode cL_arePatterns 55 = .ok (.newarray .int, 2) := by decide +kernel
theorem dL_arePatterns_57 : decode cL_arePatterns 57 = .ok (.astore 5, 2) := by decide +kernel
theorem dL_arePatterns_59 : decode cL_arePatterns 59 = .ok (.iconst 0, 1) := by decide +kernel
theorem dL_arePatterns_60 : decode cL_arePatterns 60 = .ok (.istore 6, 2) := by decide +kernel
theorem dL_arePatterns_62 : decode cL_arePatterns 62 = .ok (.iconst 0, 1) := by decide +kernel
theorem dL_arePatterns_63 : decode cL_arePatterns 63 = .ok (.istore 7, 2) := by decide +kernel
theorem dL_arePatterns_65 : decode cL_arePatterns 65 = .ok (.iconst 0, 1) := by decide +kernel
theorem dL_arePatterns_66 : decode cL_arePatterns 66 = .ok (.istore 8, 2) := by decide +kernel
theorem dL_arePatterns_68 : decode cL_arePatterns 68 = .ok (.iload 8, 2) := by decide +kernel
theorem dL_arePatterns_70 : decode cL_arePatterns 70 = .ok (.iload_n 2, 1) := by decide +kernel
theorem dL_arePatterns_71 : decode cL_arePatterns 71 = .ok (.if_icmp .ge 129, 3) := by decide +kernel
theorem dL_arePatterns_74 : decode cL_arePatterns 74 = .ok (.iload_n 3, 1) := by decide +kernel
theorem dL_arePatterns_75 : decode cL_arePatterns 75 = .ok (.ifCond .eq 125, 3) := by decide +kernel
theorem dL_arePatterns_78 : decode cL_arePatterns 78 = .ok (.aload_n 0, 1) := by decide +kernel
theorem dL_arePatterns_79 : decode cL_arePatterns 79 = .ok (.iconst 1, 1) := by decide +kernel
theorem dL_arePatterns_80 : decode cL_arePatterns 80 = .ok (.iload 8, 2) := by decide +kernel
theorem dL_arePatterns_82 : decode cL_arePatterns 82 = .ok (.iconst 0, 1) := by decide +kernel
theorem dL_arePatterns_83 : decode cL_arePatterns 83 = .ok (.invokestatic 120, 3) := by decide +kernel
theorem dL_arePatterns_86 : decode cL_arePatterns 86 = .ok (.istore 9, 2) := by decide +kernel
theorem dL_arePatterns_88 : decode cL_arePatterns 88 = .ok (.iload 6, 2) := by decide +kernel
theorem dL_arePatterns_90 : decode cL_arePatterns 90 = .ok (.iload 9, 2) := by decide +kernel
theorem dL_arePatterns_92 : decode cL_arePatterns 92 = .ok (.iconst 1, 1) := by decide +kernel
theorem dL_arePatterns_93 : decode cL_arePatterns 93 = .ok (.iadd, 1) := by decide +kernel
theorem dL_arePatterns_94 : decode cL_arePatterns 94 = .ok (.invokestatic 123, 3) := by decide +kernel
theorem dL_arePatterns_97 : decode cL_arePatterns 97 = .ok (.istore 6, 2) := by decide +kernel
theorem dL_arePatterns_99 : decode cL_arePatterns 99 = .ok (.aload 4, 2) := by decide +kernel
theorem dL_arePatterns_101 : decode cL_arePatterns 101 = .ok (.iload 9, 2) := by decide +kernel
theorem dL_arePatterns_103 : decode cL_arePatterns 103 = .ok (.aload_n 1, 1) := by decide +kernel
theorem dL_arePatterns_104 : decode cL_arePatterns 104 = .ok (.bipush 7, 2) := by decide +kernel
theorem dL_arePatterns_106 : decode cL_arePatterns 106 = .ok (.iload 8, 2) := by decide +kernel
theorem dL_arePatterns_108 : decode cL_arePatterns 108 = .ok (.imul, 1) := by decide +kernel
theorem dL_arePatterns_109 : decode cL_arePatterns 109 = .ok (.iaload, 1) := by decide +kernel
theorem dL_arePatterns_110 : decode cL_arePatterns 110 = .ok (.iastore, 1) := by decide +kernel
theorem dL_arePatterns_111 : decode cL_arePatterns 111 = .ok (.iconst 0, 1) := by decide +kernel
theorem dL_arePatterns_112 : decode cL_arePatterns 112 = .ok (.istore 10, 2) := by decide +kernel
theorem dL_arePatterns_114 : decode cL_arePatterns 114 = .ok (.iload 10, 2) := by decide +kernel
theorem dL_arePatterns_116 : decode cL_arePatterns 116 = .ok (.iconst 3, 1) := by decide +kernel
theorem dL_arePatterns_117 : decode cL_arePatterns 117 = .ok (.if_icmp .ge 53, 3) := by decide +kernel
theorem dL_arePatterns_120 : decode cL_arePatterns 120 = .ok (.aload_n 0, 1) := by decide +kernel
theorem dL_arePatterns_121 : decode cL_arePatterns 121 = .ok (.iconst 3, 1) := by decide +kernel
theorem dL_arePatterns_122 : decode cL_arePatterns 122 = .ok (.iload 9, 2) := by decide +kernel
theorem dL_arePatterns_124 : decode cL_arePatterns 124 = .ok (.iload 10, 2) := by decide +kernel
theorem dL_arePatterns_126 : decode cL_arePatterns 126 = .ok (.invokestatic 120, 3) := by decide +kernel
theorem dL_arePatterns_129 : decode cL_arePatterns 129 = .ok (.istore 11, 2) := by decide +kernel
theorem dL_arePatterns_131 : decode cL_arePatterns 131 = .ok (.iload_n 3, 1) := by decide +kernel
theorem dL_arePatterns_132 : decode cL_arePatterns 132 = .ok (.ifCond .eq 30, 3) := by decide +kernel
theorem dL_arePatterns_135 : decode cL_arePatterns 135 = .ok (.iload 11, 2) := by decide +kernel
theorem dL_arePatterns_137 : decode cL_arePatterns 137 = .ok (.iconst (-1), 1) := by decide +kernel
theorem dL_arePatterns_138 : decode cL_arePatterns 138 = .ok (.if_icmp .eq 20, 3) := by decide +kernel
theorem dL_arePatterns_141 : decode cL_arePatterns 141 = .ok (.iload 11, 2) := by decide +kernel
theorem dL_arePatterns_143 : decode cL_arePatterns 143 = .ok (.aload_n 1, 1) := by decide +kernel
theorem dL_arePatterns_144 : decode cL_arePatterns 144 = .ok (.bipush 7, 2) := by decide +kernel
theorem dL_arePatterns_146 : decode cL_arePatterns 146 = .ok (.iload 8, 2) := by decide +kernel
theorem dL_arePatterns_148 : decode cL_arePatterns 148 = .ok (.imul, 1) := by decide +kernel
theorem dL_arePatterns_149 : decode cL_arePatterns 149 = .ok (.iconst 2, 1) := by decide +kernel
theorem dL_arePatterns_150 : decode cL_arePatterns 150 = .ok (.iadd, 1) := by decide +kernel
theorem dL_arePatterns_151 : decode cL_arePatterns 151 = .ok (.iload 10, 2) := by decide +kernel
theorem dL_arePatterns_153 : decode cL_arePatterns 153 = .ok (.iadd, 1) := by decide +kernel
theorem dL_arePatterns_154 : decode cL_arePatterns 154 = .ok (.iaload, 1) := by decide +kernel
theorem dL_arePatterns_155 : decode cL_arePatterns 155 = .ok (.if_icmp .ne 7, 3) := by decide +kernel
theorem dL_arePatterns_158 : decode cL_arePatterns 158 = .ok (.iconst 1, 1) := by decide +kernel
theorem dL_arePatterns_159 : decode cL_arePatterns 159 = .ok (.goto 4, 3) := by decide +kernel
theorem dL_arePatterns_162 : decode cL_arePatterns 162 = .ok (.iconst 0, 1) := by decide +kernel
theorem dL_arePatterns_163 : decode cL_arePatterns 163 = .ok (.istore_n 3, 1) := by decide +kernel
theorem dL_arePatterns_164 : decode cL_arePatterns 164 = .ok (.iinc 10 1, 3) := by decide +kernel
theorem dL_arePatterns_167 : decode cL_arePatterns 167 = .ok (.goto (-53), 3) := by decide +kernel
theorem dL_arePatterns_170 : decode cL_arePatterns 170 = .ok (.iload_n 3, 1) := by decide +kernel
theorem dL_arePatterns_171 : decode cL_arePatterns 171 = .ok (.ifCond .eq 21, 3) := by decide +kernel
theorem dL_arePatterns_174 : decode cL_arePatterns 174 = .ok (.aload_n 0, 1) := by decide +kernel
theorem dL_arePatterns_175 : decode cL_arePatterns 175 = .ok (.iconst 3, 1) := by decide +kernel
theorem dL_arePatterns_176 : decode cL_arePatterns 176 = .ok (.iload 9, 2) := by decide +kernel
theorem dL_arePatterns_178 : decode cL_arePatterns 178 = .ok (.iconst 3, 1) := by decide +kernel
theorem dL_arePatterns_179 : decode cL_arePatterns 179 = .ok (.invokestatic 120, 3) := by decide +kernel
theorem dL_arePatterns_182 : decode cL_arePatterns 182 = .ok (.sipush (-2002), 3) := by decide +kernel
theorem dL_arePatterns_185 : decode cL_arePatterns 185 = .ok (.if_icmp .ne 7, 3) := by decide +kernel
theorem dL_arePatterns_188 : decode cL_arePatterns 188 = .ok (.iconst 1, 1) := by decide +kernel
theorem dL_arePatterns_189 : decode cL_arePatterns 189 = .ok (.goto 4, 3) := by decide +kernel
theorem dL_arePatterns_192 : decode cL_arePatterns 192 = .ok (.iconst 0, 1) := by decide +kernel
theorem dL_arePatterns_193 : decode cL_arePatterns 193 = .ok (.istore_n 3, 1) := by decide +kernel
theorem dL_arePatterns_194 : decode cL_arePatterns 194 = .ok (.iinc 8 1, 3) := by decide +kernel
theorem dL_arePatterns_197 : decode cL_arePatterns 197 = .ok (.goto (-129), 3) := by decide +kernel
theorem dL_arePatterns_200 : decode cL_arePatterns 200 = .ok (.iconst 4, 1) := by decide +kernel
theorem dL_arePatterns_201 : decode cL_arePatterns 201 = .ok (.newarray .int, 2) := by decide +kernel
theorem dL_arePatterns_203 : decode cL_arePatterns 203 = .ok (.astore 8, 2) := by decide +kernel
theorem dL_arePatterns_205 : decode cL_arePatterns 205 = .ok (.iconst 0, 1) := by decide +kernel
theorem dL_arePatterns_206 : decode cL_arePatterns 206 = .ok (.istore 9, 2) := by decide +kernel
theorem dL_arePatterns_208 : decode cL_arePatterns 208 = .ok (.iload 9, 2) := by decide +kernel
theorem dL_arePatterns_210 : decode cL_arePatterns 210 = .ok (.iload 6, 2) := by decide +kernel
theorem dL_arePatterns_212 : decode cL_arePatterns 212 = .ok (.if_icmp .ge 308, 3) := by decide +kernel
theorem dL_arePatterns_215 : decode cL_arePatterns 215 = .ok (.iload_n 3, 1) := by decide +kernel
theorem dL_arePatterns_216 : decode cL_arePatterns 216 = .ok (.ifCond .eq 304, 3) := by decide +kernel
theorem dL_arePatterns_219 : decode cL_arePatterns 219 = .ok (.aload_n 0, 1) := by decide +kernel
theorem dL_arePatterns_220 : decode cL_arePatterns 220 = .ok (.iconst 4, 1) := by decide +kernel
theorem dL_arePatterns_221 : decode cL_arePatterns 221 = .ok (.iload 9, 2) := by decide +kernel
theorem dL_arePatterns_223 : decode cL_arePatterns 223 = .ok (.iconst 0, 1) := by decide +kernel
theorem dL_arePatterns_224 : decode cL_arePatterns 224 = .ok (.invokestatic 120, 3) := by decide +kernel
theorem dL_arePatterns_227 : decode cL_arePatterns 227 = .ok (.istore 10, 2) := by decide +kernel
theorem dL_arePatterns_229 : decode cL_arePatterns 229 = .ok (.iconst 0, 1) := by decide +kernel
theorem dL_arePatterns_230 : decode cL_arePatterns 230 = .ok (.istore 11, 2) := by decide +kernel
theorem dL_arePatterns_232 : decode cL_arePatterns 232 = .ok (.iload 11, 2) := by decide +kernel
theorem dL_arePatterns_234 : decode cL_arePatterns 234 = .ok (.iconst 3, 1) := by decide +kernel
theorem dL_arePatterns_235 : decode cL_arePatterns 235 = .ok (.if_icmp .ge 24, 3) := by decide +kernel
theorem dL_arePatterns_238 : decode cL_arePatterns 238 = .ok (.aload 5, 2) := by decide +kernel
theorem dL_arePatterns_240 : decode cL_arePatterns 240 = .ok (.iconst 3, 1) := by decide +kernel
theorem dL_arePatterns_241 : decode cL_arePatterns 241 = .ok (.iload 9, 2) := by decide +kernel
theorem dL_arePatterns_243 : decode cL_arePatterns 243 = .ok (.imul, 1) := by decide +kernel
theorem dL_arePatterns_244 : decode cL_arePatterns 244 = .ok (.iload 11, 2) := by decide +kernel
theorem dL_arePatterns_246 : decode cL_arePatterns 246 = .ok (.iadd, 1) := by decide +kernel
theorem dL_arePatterns_247 : decode cL_arePatterns 247 = .ok (.bipush (-10), 2) := by decide +kernel
theorem dL_arePatterns_249 : decode cL_arePatterns 249 = .ok (.iload 9, 2) := by decide +kernel
theorem dL_arePatterns_251 : decode cL_arePatterns 251 = .ok (.isub, 1) := by decide +kernel
theorem dL_arePatterns_252 : decode cL_arePatterns 252 = .ok (.iastore, 1) := by decide +kernel
theorem dL_arePatterns_253 : decode cL_arePatterns 253 = .ok (.iinc 11 1, 3) := by decide +kernel
theorem dL_arePatterns_256 : decode cL_arePatterns 256 = .ok (.goto (-24), 3) := by decide +kernel
theorem dL_arePatterns_259 : decode cL_arePatterns 259 = .ok (.iload 10, 2) := by decide +kernel
theorem dL_arePatterns_261 : decode cL_arePatterns 261 = .ok (.sipush (-2005), 3) := by decide +kernel
theorem dL_arePatterns_264 : decode cL_arePatterns 264 = .ok (.if_icmp .eq 250, 3) := by decide +kernel
theorem dL_arePatterns_267 : decode cL_arePatterns 267 = .ok (.iload 7, 2) := by decide +kernel
theorem dL_arePatterns_269 : decode cL_arePatterns 269 = .ok (.iload 10, 2) := by decide +kernel
theorem dL_arePatterns_271 : decode cL_arePatterns 271 = .ok (.iadd, 1) := by decide +kernel
theorem dL_arePatterns_272 : decode cL_arePatterns 272 = .ok (.istore 7, 2) := by decide +kernel
