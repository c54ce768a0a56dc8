theorem dL_arePatterns_549 : decode cL_arePatterns 549 = .ok (.iconst 1, 1) := by decide +kernel
theorem dL_arePatterns_550 : decode cL_arePatterns 550 = .ok (.goto 4, 3) := by decide +kernel
theorem dL_arePatterns_553 : decode cL_arePatterns 553 = .ok (.iconst 0, 1) := by decide +kernel
theorem dL_arePatterns_554 : decode cL_arePatterns 554 = .ok (.istore_n 3, 1) := by decide +kernel
theorem dL_arePatterns_555 : decode cL_arePatterns 555 = .ok (.iinc 9 1, 3) := by decide +kernel
theorem dL_arePatterns_558 : decode cL_arePatterns 558 = .ok (.goto (-35), 3) := by decide +kernel
theorem dL_arePatterns_561 : decode cL_arePatterns 561 = .ok (.iload_n 3, 1) := by decide +kernel
theorem dL_arePatterns_562 : decode cL_arePatterns 562 = .ok (.ifCond .eq 13, 3) := by decide +kernel
theorem dL_arePatterns_565 : decode cL_arePatterns 565 = .ok (.iload 7, 2) := by decide +kernel
theorem dL_arePatterns_567 : decode cL_arePatterns 567 = .ok (.iload_n 2, 1) := by decide +kernel
theorem dL_arePatterns_568 : decode cL_arePatterns 568 = .ok (.if_icmp .ne 7, 3) := by decide +kernel
theorem dL_arePatterns_571 : decode cL_arePatterns 571 = .ok (.iconst 1, 1) := by decide +kernel
theorem dL_arePatterns_572 : decode cL_arePatterns 572 = .ok (.goto 4, 3) := by decide +kernel
theorem dL_arePatterns_575 : decode cL_arePatterns 575 = .ok (.iconst 0, 1) := by decide +kernel
theorem dL_arePatterns_576 : decode cL_arePatterns 576 = .ok (.ireturn, 1) := by decide +kernel
theorem dL_areAlerts_0 : decode cL_areAlerts 0 = .ok (.aload_n 0, 1) := by decide +kernel
theorem dL_areAlerts_1 : decode cL_areAlerts 1 = .ok (.bipush 9, 2) := by decide +kernel
theorem dL_areAlerts_3 : decode cL_areAlerts 3 = .ok (.iload 4, 2) := by decide +kernel
theorem dL_areAlerts_5 : decode cL_areAlerts 5 = .ok (.iconst 0, 1) := by decide +kernel
theorem dL_areAlerts_6 : decode cL_areAlerts 6 = .ok (.invokestatic 120, 3) := by decide +kernel
theorem dL_areAlerts_9 : decode cL_areAlerts 9 = .ok (.sipush (-2001), 3) := by decide +kernel
theorem dL_areAlerts_12 : decode cL_areAlerts 12 = .ok (.if_icmp .ne 38, 3) := by decide +kernel
theorem dL_areAlerts_15 : decode cL_areAlerts 15 = .ok (.aload_n 0, 1) := by decide +kernel
theorem dL_areAlerts_16 : decode cL_areAlerts 16 = .ok (.bipush 13, 2) := by decide +kernel
theorem dL_areAlerts_18 : decode cL_areAlerts 18 = .ok (.aload_n 0, 1) := by decide +kernel
theorem dL_areAlerts_19 : decode cL_areAlerts 19 = .ok (.invokevirtual 128, 3) := by decide +kernel
theorem dL_areAlerts_22 : decode cL_areAlerts 22 = .ok (.iconst 0, 1) := by decide +kernel
theorem dL_areAlerts_23 : decode cL_areAlerts 23 = .ok (.invokestatic 120, 3) := by decide +kernel
theorem dL_areAlerts_26 : decode cL_areAlerts 26 = .ok (.sipush (-2005), 3) := by decide +kernel
theorem dL_areAlerts_29 : decode cL_areAlerts 29 = .ok (.if_icmp .ne 21, 3) := by decide +kernel
theorem dL_areAlerts_32 : decode cL_areAlerts 32 = .ok (.aload_n 0, 1) := by decide +kernel
theorem dL_areAlerts_33 : decode cL_areAlerts 33 = .ok (.bipush 17, 2) := by decide +kernel
theorem dL_areAlerts_35 : decode cL_areAlerts 35 = .ok (.iload_n 3, 1) := by decide +kernel
theorem dL_areAlerts_36 : decode cL_areAlerts 36 = .ok (.iconst 0, 1) := by decide +kernel
theorem dL_areAlerts_37 : decode cL_areAlerts 37 = .ok (.invokestatic 120, 3) := by decide +kernel
theorem dL_areAlerts_40 : decode cL_areAlerts 40 = .ok (.sipush (-2005), 3) := by decide +kernel
theorem dL_areAlerts_43 : decode cL_areAlerts 43 = .ok (.if_icmp .ne 7, 3) := by decide +kernel
theorem dL_areAlerts_46 : decode cL_areAlerts 46 = .ok (.iconst 1, 1) := by decide +kernel
theorem dL_areAlerts_47 : decode cL_areAlerts 47 = .ok (.goto 4, 3) := by decide +kernel
theorem dL_areAlerts_50 : decode cL_areAlerts 50 = .ok (.iconst 0, 1) := by decide +kernel
theorem dL_areAlerts_51 : decode cL_areAlerts 51 = .ok (.istore 5, 2) := by decide +kernel
theorem dL_areAlerts_53 : decode cL_areAlerts 53 = .ok (.sipush 200, 3) := by decide +kernel
theorem dL_areAlerts_56 : decode cL_areAlerts 56 = .ok (.newarray .boolean, 2) := by decide +kernel
theorem dL_areAlerts_58 : decode cL_areAlerts 58 = .ok (.astore 6, 2) := by decide +kernel
theorem dL_areAlerts_60 : decode cL_areAlerts 60 = .ok (.iconst 0, 1) := by decide +kernel
theorem dL_areAlerts_61 : decode cL_areAlerts 61 = .ok (.istore 7, 2) := by decide +kernel
theorem dL_areAlerts_63 : decode cL_areAlerts 63 = .ok (.iload 7, 2) := by decide +kernel
theorem dL_areAlerts_65 : decode cL_areAlerts 65 = .ok (.iload 4, 2) := by decide +kernel
theorem dL_areAlerts_67 : decode cL_areAlerts 67 = .ok (.if_icmp .ge 320, 3) := by decide +kernel
theorem dL_areAlerts_70 : decode cL_areAlerts 70 = .ok (.iload 5, 2) := by decide +kernel
theorem dL_areAlerts_72 : decode cL_areAlerts 72 = .ok (.ifCond .eq 315, 3) := by decide +kernel
theorem dL_areAlerts_75 : decode cL_areAlerts 75 = .ok (.iconst 0, 1) := by decide +kernel
theorem dL_areAlerts_76 : decode cL_areAlerts 76 = .ok (.istore 8, 2) := by decide +kernel
theorem dL_areAlerts_78 : decode cL_areAlerts 78 = .ok (.bipush 7, 2) := by decide +kernel
theorem dL_areAlerts_80 : decode cL_areAlerts 80 = .ok (.iload 7, 2) := by decide +kernel
theorem dL_areAlerts_82 : decode cL_areAlerts 82 = .ok (.imul, 1) := by decide +kernel
theorem dL_areAlerts_83 : decode cL_areAlerts 83 = .ok (.istore 9, 2) := by decide +kernel
theorem dL_areAlerts_85 : decode cL_areAlerts 85 = .ok (.iconst 0, 1) := by decide +kernel
theorem dL_areAlerts_86 : decode cL_areAlerts 86 = .ok (.istore 10, 2) := by decide +kernel
theorem dL_areAlerts_88 : decode cL_areAlerts 88 = .ok (.iload 10, 2) := by decide +kernel
theorem dL_areAlerts_90 : decode cL_areAlerts 90 = .ok (.iload_n 3, 1) := by decide +kernel
theorem dL_areAlerts_91 : decode cL_areAlerts 91 = .ok (.if_icmp .ge 157, 3) := by decide +kernel
theorem dL_areAlerts_94 : decode cL_areAlerts 94 = .ok (.aload_n 0, 1) := by decide +kernel
theorem dL_areAlerts_95 : decode cL_areAlerts 95 = .ok (.iconst 0, 1) := by decide +kernel
theorem dL_areAlerts_96 : decode cL_areAlerts 96 = .ok (.iload 10, 2) := by decide +kernel
theorem dL_areAlerts_98 : decode cL_areAlerts 98 = .ok (.iconst 0, 1) := by decide +kernel
theorem dL_areAlerts_99 : decode cL_areAlerts 99 = .ok (.invokestatic 120, 3) := by decide +kernel
theorem dL_areAlerts_102 : decode cL_areAlerts 102 = .ok (.bipush 100, 2) := by decide +kernel
theorem dL_areAlerts_104 : decode cL_areAlerts 104 = .ok (.if_icmp .eq 97, 3) := by decide +kernel
theorem dL_areAlerts_107 : decode cL_areAlerts 107 = .ok (.aload_n 1, 1) := by decide +kernel
theorem dL_areAlerts_108 : decode cL_areAlerts 108 = .ok (.bipush 7, 2) := by decide +kernel
theorem dL_areAlerts_110 : decode cL_areAlerts 110 = .ok (.iload 10, 2) := by decide +kernel
theorem dL_areAlerts_112 : decode cL_areAlerts 112 = .ok (.imul, 1) := by decide +kernel
theorem dL_areAlerts_113 : decode cL_areAlerts 113 = .ok (.iaload, 1) := by decide +kernel
theorem dL_areAlerts_114 : decode cL_areAlerts 114 = .ok (.aload_n 2, 1) := by decide +kernel
theorem dL_areAlerts_115 : decode cL_areAlerts 115 = .ok (.iload 9, 2) := by decide +kernel
theorem dL_areAlerts_117 : decode cL_areAlerts 117 = .ok (.iaload, 1) := by decide +kernel
theorem dL_areAlerts_118 : decode cL_areAlerts 118 = .ok (.if_icmp .ne 83, 3) := by decide +kernel
theorem dL_areAlerts_121 : decode cL_areAlerts 121 = .ok (.aload_n 1, 1) := by decide +kernel
theorem dL_areAlerts_122 : decode cL_areAlerts 122 = .ok (.bipush 7, 2) := by decide +kernel
theorem dL_areAlerts_124 : decode cL_areAlerts 124 = .ok (.iload 10, 2) := by decide +kernel
theorem dL_areAlerts_126 : decode cL_areAlerts 126 = .ok (.imul, 1) := by decide +kernel
theorem dL_areAlerts_127 : decode cL_areAlerts 127 = .ok (.iconst 1, 1) := by decide +kernel
theorem dL_areAlerts_128 : decode cL_areAlerts 128 = .ok (.iadd, 1) := by decide +kernel
theorem dL_areAlerts_129 : decode cL_areAlerts 129 = .ok (.iaload, 1) := by decide +kernel
theorem dL_areAlerts_130 : decode cL_areAlerts 130 = .ok (.aload_n 2, 1) := by decide +kernel
theorem dL_areAlerts_131 : decode cL_areAlerts 131 = .ok (.iload 9, 2) := by decide +kernel
theorem dL_areAlerts_133 : decode cL_areAlerts 133 = .ok (.iconst 1, 1) := by decide +kernel
theorem dL_areAlerts_134 : decode cL_areAlerts 134 = .ok (.iadd, 1) := by decide +kernel
theorem dL_areAlerts_135 : decode cL_areAlerts 135 = .ok (.iaload, 1) := by decide +kernel
theorem dL_areAlerts_136 : decode cL_areAlerts 136 = .ok (.if_icmp .lt 65, 3) := by decide +kernel
theorem dL_areAlerts_139 : decode cL_areAlerts 139 = .ok (.aload_n 1, 1) := by decide +kernel
theorem dL_areAlerts_140 : decode cL_areAlerts 140 = .ok (.bipush 7, 2) := by decide +kernel
theorem dL_areAlerts_142 : decode cL_areAlerts 142 = .ok (.iload 10, 2) := by decide +kernel
theorem dL_areAlerts_144 : decode cL_areAlerts 144 = .ok (.imul, 1) := by decide +kernel
theorem dL_areAlerts_145 : decode cL_areAlerts 145 = .ok (.bipush 6, 2) := by decide +kernel
theorem dL_areAlerts_147 : decode cL_areAlerts 147 = .ok (.iadd, 1) := by decide +kernel
theorem dL_areAlerts_148 : decode cL_areAlerts 148 = .ok (.iaload, 1) := by decide +kernel
theorem dL_areAlerts_149 : decode cL_areAlerts 149 = .ok (.aload_n 2, 1) := by decide +kernel
theorem dL_areAlerts_150 : decode cL_areAlerts 150 = .ok (.iload 9, 2) := by decide +kernel
theorem dL_areAlerts_152 : decode cL_areAlerts 152 = .ok (.iconst 5, 1) := by decide +kernel
theorem dL_areAlerts_153 : decode cL_areAlerts 153 = .ok (.iadd, 1) := by decide +kernel
theorem dL_areAlerts_154 : decode cL_areAlerts 154 = .ok (.iaload, 1) := by decide +kernel
theorem dL_areAlerts_155 : decode cL_areAlerts 155 = .ok (.iadd, 1) := by decide +kernel
theorem dL_areAlerts_156 : decode cL_areAlerts 156 = .ok (.aload_n 0, 1) := by decide +kernel
theorem dL_areAlerts_157 : decode cL_areAlerts 157 = .ok (.invokevirtual 132, 3) := by decide +kernel
theorem dL_areAlerts_160 : decode cL_areAlerts 160 = .ok (.if_icmp .le 41, 3) := by decide +kernel
theorem dL_areAlerts_163 : decode cL_areAlerts 163 = .ok (.aload_n 2, 1) := by decide +kernel
theorem dL_areAlerts_164 : decode cL_areAlerts 164 = .ok (.iload 9, 2) := by decide +kernel
theorem dL_areAlerts_166 : decode cL_areAlerts 166 = .ok (.iconst 2, 1) := by decide +kernel
theorem dL_areAlerts_167 : decode cL_areAlerts 167 = .ok (.iadd, 1) := by decide +kernel
theorem dL_areAlerts_168 : decode cL_areAlerts 168 = .ok (.iaload, 1) := by decide +kernel
theorem dL_areAlerts_169 : decode cL_areAlerts 169 = .ok (.ifCond .lt 28, 3) := by decide +kernel
theorem dL_areAlerts_172 : decode cL_areAlerts 172 = .ok (.aload_n 1, 1) := by decide +kernel
theorem dL_areAlerts_173 : decode cL_areAlerts 173 = .ok (.bipush 7, 2) := by decide +kernel
theorem dL_areAlerts_175 : decode cL_areAlerts 175 = .ok (.iload 10, 2) := by decide +kernel
theorem dL_areAlerts_177 : decode cL_areAlerts 177 = .ok (.imul, 1) := by decide +kernel
theorem dL_areAlerts_178 : decode cL_areAlerts 178 = .ok (.iconst 2, 1) := by decide +kernel
theorem dL_areAlerts_179 : decode cL_areAlerts 179 = .ok (.iadd, 1) := by decide +kernel
theorem dL_areAlerts_180 : decode cL_areAlerts 180 = .ok (.aload_n 2, 1) := by decide +kernel
theorem dL_areAlerts_181 : decode cL_areAlerts 181 = .ok (.iload 9, 2) := by decide +kernel
theorem dL_areAlerts_183 : decode cL_areAlerts 183 = .ok (.iconst 2, 1) := by decide +kernel
theorem dL_areAlerts_184 : decode cL_areAlerts 184 = .ok (.iadd, 1) := by decide +kernel
theorem dL_areAlerts_185 : decode cL_areAlerts 185 = .ok (.iaload, 1) := by decide +kernel
theorem dL_areAlerts_186 : decode cL_areAlerts 186 = .ok (.iadd, 1) := by decide +kernel
theorem dL_areAlerts_187 : decode cL_areAlerts 187 = .ok (.iaload, 1) := by decide +kernel
theorem dL_areAlerts_188 : decode cL_areAlerts 188 = .ok (.aload_n 2, 1) := by decide +kernel
theorem dL_areAlerts_189 : decode cL_areAlerts 189 = .ok (.iload 9, 2) := by decide +kernel
theorem dL_areAlerts_191 : decode cL_areAlerts 191 = .ok (.iconst 3, 1) := by decide +kernel
theorem dL_areAlerts_192 : decode cL_areAlerts 192 = .ok (.iadd, 1) := by decide +kernel
theorem dL_areAlerts_193 : decode cL_areAlerts 193 = .ok (.iaload, 1) := by decide +kernel
theorem dL_areAlerts_194 : decode cL_areAlerts 194 = .ok (.if_icmp .ne 7, 3) := by decide +kernel
theorem dL_areAlerts_197 : decode cL_areAlerts 197 = .ok (.iconst 1, 1) := by decide +kernel
theorem dL_areAlerts_198 : decode cL_areAlerts 198 = .ok (.goto 4, 3) := by decide +kernel
theorem dL_areAlerts_201 : decode cL_areAlerts 201 = .ok (.iconst 0, 1) := by decide +kernel
theorem dL_areAlerts_202 : decode cL_areAlerts 202 = .ok (.istore 11, 2) := by decide +kernel
theorem dL_areAlerts_204 : decode cL_areAlerts 204 = .ok (.iload 8, 2) := by decide +kernel
theorem dL_areAlerts_206 : decode cL_areAlerts 206 = .ok (.iload 11, 2) := by decide +kernel
theorem dL_areAlerts_208 : decode cL_areAlerts 208 = .ok (.ifCond .eq 7, 3) := by decide +kernel
theorem dL_areAlerts_211 : decode cL_areAlerts 211 = .ok (.iconst 1, 1) := by decide +kernel
theorem dL_areAlerts_212 : decode cL_areAlerts 212 = .ok (.goto 4, 3) := by decide +kernel
theorem dL_areAlerts_215 : decode cL_areAlerts 215 = .ok (.iconst 0, 1) := by decide +kernel
theorem dL_areAlerts_216 : decode cL_areAlerts 216 = .ok (.iadd, 1) := by decide +kernel
theorem dL_areAlerts_217 : decode cL_areAlerts 217 = .ok (.istore 8, 2) := by decide +kernel
theorem dL_areAlerts_219 : decode cL_areAlerts 219 = .ok (.aload 6, 2) := by decide +kernel
theorem dL_areAlerts_221 : decode cL_areAlerts 221 = .ok (.iload 10, 2) := by decide +kernel
theorem dL_areAlerts_223 : decode cL_areAlerts 223 = .ok (.aload 6, 2) := by decide +kernel
theorem dL_areAlerts_225 : decode cL_areAlerts 225 = .ok (.iload 10, 2) := by decide +kernel
theorem dL_areAlerts_227 : decode cL_areAlerts 227 = .ok (.baload, 1) := by decide +kernel
theorem dL_areAlerts_228 : decode cL_areAlerts 228 = .ok (.ifCond .ne 8, 3) := by decide +kernel
