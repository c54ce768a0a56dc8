set_option maxRecDepth 20000 in
theorem gL_asked_X7_heldFor : GoodIn wsL_asked (wsV RL 91 RX7 yX7_heldFor wsX7_heldFor) := goodIn_app (goodIn_of _ (by decide +kernel)) ggL_asked_X7_heldFor
set_option maxRecDepth 20000 in
theorem ggL_asked_X7_alertOf : GoodIn wsL_asked wsX7_alertOf := goodIn_ca (goodIn_r _ [162, 163, 164, 165, 4, 166, 10, 11, 167, 168, 14, 15, 16, 17, 18, 19, 20, 21, 22, 23, 24, 25, 26, 27, 28, 29, 30, 31, 32, 33, 34, 35, 36, 236, 237, 238, 239, 240, 223, 224, 225, 226, 227, 228, 229, 230, 231, 202, 203, 204, 205, 206, 207, 208, 209, 210, 211] (by decide +kernel) (by decide +kernel)) (goodIn_sub (fun _ h => List.mem_cons_of_mem _ (List.mem_append_left _ (List.mem_append_left _ (List.mem_append_left _ (List.mem_append_left _ (List.mem_append_right _ h)))))) (by decide +kernel))
set_option maxRecDepth 20000 in
theorem gL_asked_X7_alertOf : GoodIn wsL_asked (wsV RL 94 RX7 yX7_alertOf wsX7_alertOf) := goodIn_app (goodIn_of _ (by decide +kernel)) ggL_asked_X7_alertOf
set_option maxRecDepth 20000 in
theorem ggL_asked_X7_firedAt : GoodIn wsL_asked wsX7_firedAt := goodIn_ca (goodIn_r _ [172, 163, 164, 165, 4, 166, 10, 11, 167, 168, 14, 15, 16, 17, 18, 19, 20, 21, 22, 23, 24, 25, 26, 27, 28, 29, 30, 31, 32, 33, 34, 35, 36, 236, 237, 238, 239, 240, 202, 203, 204, 205, 206, 207, 208, 209, 210, 211] (by decide +kernel) (by decide +kernel)) (goodIn_sub (fun _ h => List.mem_cons_of_mem _ (List.mem_append_left _ (List.mem_append_left _ (List.mem_append_left _ (List.mem_append_left _ (List.mem_append_right _ h)))))) (by decide +kernel))
set_option maxRecDepth 20000 in
theorem gL_asked_X7_firedAt : GoodIn wsL_asked (wsV RL 97 RX7 yX7_firedAt wsX7_firedAt) := goodIn_app (goodIn_of _ (by decide +kernel)) ggL_asked_X7_firedAt
set_option maxRecDepth 20000 in
theorem ggL_asked_X7_ground : GoodIn wsL_asked wsX7_ground := goodIn_ca (goodIn_r _ [176, 163, 164, 165, 4, 166, 10, 11, 167, 168, 14, 15, 16, 17, 18, 19, 20, 21, 22, 23, 24, 25, 26, 27, 28, 29, 30, 31, 32, 33, 34, 35, 36, 236, 237, 238, 239, 240, 202, 203, 204, 205, 206, 207, 208, 209, 210, 211] (by decide +kernel) (by decide +kernel)) (goodIn_sub (fun _ h => List.mem_cons_of_mem _ (List.mem_append_left _ (List.mem_append_left _ (List.mem_append_left _ (List.mem_append_left _ (List.mem_append_right _ h)))))) (by decide +kernel))
set_option maxRecDepth 20000 in
theorem gL_asked_X7_ground : GoodIn wsL_asked (wsV RL 100 RX7 yX7_ground wsX7_ground) := goodIn_app (goodIn_of _ (by decide +kernel)) ggL_asked_X7_ground
set_option maxRecDepth 20000 in
theorem ggL_asked_X7_standsOn : GoodIn wsL_asked wsX7_standsOn := goodIn_ca (goodIn_ca (goodIn_r _ [180, 163, 164, 165, 4, 166, 10, 11, 167, 168, 14, 15, 16, 17, 18, 19, 20, 21, 22, 23, 24, 25, 26, 27, 28, 29, 30, 31, 32, 33, 34, 35, 36, 6, 7, 8, 9, 12, 13, 181, 182, 183, 184, 185, 202, 203, 204, 205, 206, 207, 208, 209, 210, 211, 236, 237, 238, 239, 240] (by decide +kernel) (by decide +kernel)) (goodIn_sub (fun _ h => List.mem_cons_of_mem _ (List.mem_append_left _ (List.mem_append_left _ (List.mem_append_left _ (List.mem_append_left _ (List.mem_append_right _ h)))))) (by decide +kernel))) (goodIn_sub (fun _ h => List.mem_cons_of_mem _ (List.mem_append_right _ h)) (by decide +kernel))
set_option maxRecDepth 20000 in
theorem gL_asked_X7_standsOn : GoodIn wsL_asked (wsV RL 103 RX7 yX7_standsOn wsX7_standsOn) := goodIn_app (goodIn_of _ (by decide +kernel)) ggL_asked_X7_standsOn
set_option maxRecDepth 20000 in
theorem ggL_asked_L_told : GoodIn wsL_asked wsL_told := goodIn_r _ [189] (by decide +kernel) (by decide +kernel)
set_option maxRecDepth 20000 in
theorem gL_asked_L_told : GoodIn wsL_asked (va_wsS RL 107 yL_told wsL_told) := goodIn_app (goodIn_of _ (by decide +kernel)) ggL_asked_L_told
set_option maxRecDepth 20000 in
theorem ggL_asked_X7_isGuarded : GoodIn wsL_asked wsX7_isGuarded := goodIn_ca (goodIn_r _ [193, 6, 7, 8, 4, 9, 10, 11, 12, 13, 14, 15, 16, 17, 18, 19, 20, 21, 22, 23, 24, 25, 26, 27, 28, 29, 30, 31, 32, 33, 34, 35, 36, 194, 195, 196, 197, 198, 199, 200, 201, 202, 203, 204, 205, 206, 207, 208, 209, 210, 211] (by decide +kernel) (by decide +kernel)) (goodIn_sub (fun _ h => List.mem_cons_of_mem _ (List.mem_append_left _ (List.mem_append_left _ (List.mem_append_left _ (List.mem_append_left _ (List.mem_append_right _ h)))))) (by decide +kernel))
set_option maxRecDepth 20000 in
theorem gL_asked_X7_isGuarded : GoodIn wsL_asked (wsV RL 111 RX7 yX7_isGuarded wsX7_isGuarded) := goodIn_app (goodIn_of _ (by decide +kernel)) ggL_asked_X7_isGuarded
theorem dL_asked_0 : decode cL_asked 0 = .ok (.iload_n 1, 1) := by decide +kernel
theorem dL_asked_1 : decode cL_asked 1 = .ok (.tableswitch 191 0 16 #[83, 89, 95, 101, 108, 114, 121, 127, 133, 139, 145, 151, 157, 163, 169, 175, 181], 83) := by decide +kernel
theorem dL_asked_84 : decode cL_asked 84 = .ok (.aload_n 0, 1) := by decide +kernel
theorem dL_asked_85 : decode cL_asked 85 = .ok (.iload_n 2, 1) := by decide +kernel
theorem dL_asked_86 : decode cL_asked 86 = .ok (.invokevirtual 54, 3) := by decide +kernel
theorem dL_asked_89 : decode cL_asked 89 = .ok (.ireturn, 1) := by decide +kernel
theorem dL_asked_90 : decode cL_asked 90 = .ok (.aload_n 0, 1) := by decide +kernel
theorem dL_asked_91 : decode cL_asked 91 = .ok (.iload_n 2, 1) := by decide +kernel
theorem dL_asked_92 : decode cL_asked 92 = .ok (.invokevirtual 58, 3) := by decide +kernel
theorem dL_asked_95 : decode cL_asked 95 = .ok (.ireturn, 1) := by decide +kernel
theorem dL_asked_96 : decode cL_asked 96 = .ok (.aload_n 0, 1) := by decide +kernel
theorem dL_asked_97 : decode cL_asked 97 = .ok (.iload_n 2, 1) := by decide +kernel
theorem dL_asked_98 : decode cL_asked 98 = .ok (.invokevirtual 61, 3) := by decide +kernel
theorem dL_asked_101 : decode cL_asked 101 = .ok (.ireturn, 1) := by decide +kernel
theorem dL_asked_102 : decode cL_asked 102 = .ok (.aload_n 0, 1) := by decide +kernel
theorem dL_asked_103 : decode cL_asked 103 = .ok (.iload_n 2, 1) := by decide +kernel
theorem dL_asked_104 : decode cL_asked 104 = .ok (.iload_n 3, 1) := by decide +kernel
theorem dL_asked_105 : decode cL_asked 105 = .ok (.invokevirtual 64, 3) := by decide +kernel
theorem dL_asked_108 : decode cL_asked 108 = .ok (.ireturn, 1) := by decide +kernel
theorem dL_asked_109 : decode cL_asked 109 = .ok (.aload_n 0, 1) := by decide +kernel
theorem dL_asked_110 : decode cL_asked 110 = .ok (.iload_n 2, 1) := by decide +kernel
theorem dL_asked_111 : decode cL_asked 111 = .ok (.invokevirtual 67, 3) := by decide +kernel
theorem dL_asked_114 : decode cL_asked 114 = .ok (.ireturn, 1) := by decide +kernel
theorem dL_asked_115 : decode cL_asked 115 = .ok (.aload_n 0, 1) := by decide +kernel
theorem dL_asked_116 : decode cL_asked 116 = .ok (.iload_n 2, 1) := by decide +kernel
theorem dL_asked_117 : decode cL_asked 117 = .ok (.iload_n 3, 1) := by decide +kernel
theorem dL_asked_118 : decode cL_asked 118 = .ok (.invokevirtual 70, 3) := by decide +kernel
theorem dL_asked_121 : decode cL_asked 121 = .ok (.ireturn, 1) := by decide +kernel
theorem dL_asked_122 : decode cL_asked 122 = .ok (.aload_n 0, 1) := by decide +kernel
theorem dL_asked_123 : decode cL_asked 123 = .ok (.iload_n 2, 1) := by decide +kernel
theorem dL_asked_124 : decode cL_asked 124 = .ok (.invokevirtual 73, 3) := by decide +kernel
theorem dL_asked_127 : decode cL_asked 127 = .ok (.ireturn, 1) := by decide +kernel
theorem dL_asked_128 : decode cL_asked 128 = .ok (.aload_n 0, 1) := by decide +kernel
theorem dL_asked_129 : decode cL_asked 129 = .ok (.iload_n 2, 1) := by decide +kernel
theorem dL_asked_130 : decode cL_asked 130 = .ok (.invokevirtual 76, 3) := by decide +kernel
theorem dL_asked_133 : decode cL_asked 133 = .ok (.ireturn, 1) := by decide +kernel
theorem dL_asked_134 : decode cL_asked 134 = .ok (.aload_n 0, 1) := by decide +kernel
theorem dL_asked_135 : decode cL_asked 135 = .ok (.iload_n 2, 1) := by decide +kernel
theorem dL_asked_136 : decode cL_asked 136 = .ok (.invokevirtual 79, 3) := by decide +kernel
theorem dL_asked_139 : decode cL_asked 139 = .ok (.ireturn, 1) := by decide +kernel
theorem dL_asked_140 : decode cL_asked 140 = .ok (.aload_n 0, 1) := by decide +kernel
theorem dL_asked_141 : decode cL_asked 141 = .ok (.iload_n 2, 1) := by decide +kernel
theorem dL_asked_142 : decode cL_asked 142 = .ok (.invokevirtual 82, 3) := by decide +kernel
theorem dL_asked_145 : decode cL_asked 145 = .ok (.ireturn, 1) := by decide +kernel
theorem dL_asked_146 : decode cL_asked 146 = .ok (.aload_n 0, 1) := by decide +kernel
theorem dL_asked_147 : decode cL_asked 147 = .ok (.iload_n 2, 1) := by decide +kernel
theorem dL_asked_148 : decode cL_asked 148 = .ok (.invokevirtual 85, 3) := by decide +kernel
theorem dL_asked_151 : decode cL_asked 151 = .ok (.ireturn, 1) := by decide +kernel
theorem dL_asked_152 : decode cL_asked 152 = .ok (.aload_n 0, 1) := by decide +kernel
theorem dL_asked_153 : decode cL_asked 153 = .ok (.iload_n 2, 1) := by decide +kernel
theorem dL_asked_154 : decode cL_asked 154 = .ok (.invokevirtual 88, 3) := by decide +kernel
theorem dL_asked_157 : decode cL_asked 157 = .ok (.ireturn, 1) := by decide +kernel
theorem dL_asked_158 : decode cL_asked 158 = .ok (.aload_n 0, 1) := by decide +kernel
theorem dL_asked_159 : decode cL_asked 159 = .ok (.iload_n 2, 1) := by decide +kernel
theorem dL_asked_160 : decode cL_asked 160 = .ok (.invokevirtual 91, 3) := by decide +kernel
theorem dL_asked_163 : decode cL_asked 163 = .ok (.ireturn, 1) := by decide +kernel
theorem dL_asked_164 : decode cL_asked 164 = .ok (.aload_n 0, 1) := by decide +kernel
theorem dL_asked_165 : decode cL_asked 165 = .ok (.iload_n 2, 1) := by decide +kernel
theorem dL_asked_166 : decode cL_asked 166 = .ok (.invokevirtual 94, 3) := by decide +kernel
theorem dL_asked_169 : decode cL_asked 169 = .ok (.ireturn, 1) := by decide +kernel
theorem dL_asked_170 : decode cL_asked 170 = .ok (.aload_n 0, 1) := by decide +kernel
theorem dL_asked_171 : decode cL_asked 171 = .ok (.iload_n 2, 1) := by decide +kernel
theorem dL_asked_172 : decode cL_asked 172 = .ok (.invokevirtual 97, 3) := by decide +kernel
theorem dL_asked_175 : decode cL_asked 175 = .ok (.ireturn, 1) := by decide +kernel
theorem dL_asked_176 : decode cL_asked 176 = .ok (.aload_n 0, 1) := by decide +kernel
theorem dL_asked_177 : decode cL_asked 177 = .ok (.iload_n 2, 1) := by decide +kernel
theorem dL_asked_178 : decode cL_asked 178 = .ok (.invokevirtual 100, 3) := by decide +kernel
theorem dL_asked_181 : decode cL_asked 181 = .ok (.ireturn, 1) := by decide +kernel
theorem dL_asked_182 : decode cL_asked 182 = .ok (.aload_n 0, 1) := by decide +kernel
theorem dL_asked_183 : decode cL_asked 183 = .ok (.iload_n 2, 1) := by decide +kernel
theorem dL_asked_184 : decode cL_asked 184 = .ok (.iload_n 3, 1) := by decide +kernel
theorem dL_asked_185 : decode cL_asked 185 = .ok (.invokevirtual 103, 3) := by decide +kernel
theorem dL_asked_188 : decode cL_asked 188 = .ok (.invokestatic 107, 3) := by decide +kernel
theorem dL_asked_191 : decode cL_asked 191 = .ok (.ireturn, 1) := by decide +kernel
theorem dL_asked_192 : decode cL_asked 192 = .ok (.aload_n 0, 1) := by decide +kernel
theorem dL_asked_193 : decode cL_asked 193 = .ok (.iload_n 2, 1) := by decide +kernel
theorem dL_asked_194 : decode cL_asked 194 = .ok (.invokevirtual 111, 3) := by decide +kernel
theorem dL_asked_197 : decode cL_asked 197 = .ok (.invokestatic 107, 3) := by decide +kernel
theorem dL_asked_200 : decode cL_asked 200 = .ok (.ireturn, 1) := by decide +kernel
set_option maxRecDepth 20000 in
theorem ggL_ask_L_asked : GoodIn wsL_ask wsL_asked := goodIn_ca (goodIn_ca (goodIn_ca (goodIn_ca (goodIn_ca (goodIn_r _ [8, 9, 10, 11, 12, 13, 14, 15, 16, 17, 18, 19, 20, 21, 22, 23, 24, 25, 26, 27, 28, 29, 30, 31, 32, 33, 34, 35, 36, 37, 38, 39, 40, 41, 42, 43, 44, 45, 46, 47, 48, 49, 50, 51, 52, 53, 54, 55, 56, 57, 58, 59, 60, 61, 62, 63, 64, 65, 66, 67, 68, 69, 70, 71, 72, 73, 74, 75, 76, 77, 78, 79, 80, 81, 82, 83, 84, 85, 86, 87, 88, 89, 90, 91, 92, 93, 94, 95, 96, 97, 98, 99, 100, 101, 102, 103, 104, 105, 106, 107, 108, 109, 110, 111, 112, 113, 114, 115, 116, 117, 118, 119, 120, 121, 122, 123, 124, 125, 126, 127, 128, 129, 130, 131, 132, 133, 134, 135, 136, 137, 138, 139, 140, 141, 142, 143, 144, 145, 146, 147, 148, 149, 150, 151, 152, 153, 154, 155, 156, 157, 158, 159, 160, 161, 162, 163, 164, 165, 166, 167, 168, 169, 170, 171, 172, 173, 174, 175, 176, 177, 178, 179, 180, 181, 182, 183, 184, 185, 186, 187, 188, 189, 190, 191, 192, 193, 194, 195, 7, 196, 197, 198, 199, 200, 201, 202, 203, 204, 205, 206, 207, 208, 209, 210, 211, 212, 213, 214, 215, 216, 217, 218, 219, 220, 221, 222, 223, 224, 225, 226, 227, 228, 229, 230, 231, 232, 233, 234, 235, 236, 237, 238, 239, 240, 241, 242, 243, 244, 245, 246, 247] (by decide +kernel) (by decide +kernel)) (goodIn_sub (fun _ h => List.mem_cons_of_mem _ (List.mem_append_left _ (List.mem_append_left _ (List.mem_append_left _ (List.mem_append_left _ (List.mem_append_right _ h)))))) (by decide +kernel))) (goodIn_sub (fun _ h => List.mem_cons_of_mem _ (List.mem_append_left _ (List.mem_append_left _ (List.mem_append_left _ (List.mem_append_right _ h))))) (by decide +kernel))) (goodIn_sub (fun _ h => List.mem_cons_of_mem _ (List.mem_append_left _ (List.mem_append_left _ (List.mem_append_right _ h)))) (by decide +kernel))) (goodIn_sub (fun _ h => List.mem_cons_of_mem _ (List.mem_append_left _ (List.mem_append_right _ h))) (by decide +kernel))) (goodIn_sub (fun _ h => List.mem_cons_of_mem _ (List.mem_append_right _ h)) (by decide +kernel))
set_option maxRecDepth 20000 in
theorem gL_ask_L_asked : GoodIn wsL_ask (va_wsS RL 115 yL_asked wsL_asked) := goodIn_app (goodIn_of _ (by decide +kernel)) ggL_ask_L_asked
theorem dL_ask_0 : decode cL_ask 0 = .ok (.aload_n 0, 1) := by decide +kernel
theorem dL_ask_1 : decode cL_ask 1 = .ok (.iload_n 1, 1) := by decide +kernel
theorem dL_ask_2 : decode cL_ask 2 = .ok (.iload_n 2, 1) := by decide +kernel
theorem dL_ask_3 : decode cL_ask 3 = .ok (.iload_n 3, 1) := by decide +kernel
theorem dL_ask_4 : decode cL_ask 4 = .ok (.invokestatic 115, 3) := by decide +kernel
theorem dL_ask_7 : decode cL_ask 7 = .ok (.ireturn, 1) := by decide +kernel
theorem dL_ask_8 : decode cL_ask 8 = .ok (.astore 4, 2) := by decide +kernel
theorem dL_ask_10 : decode cL_ask 10 = .ok (.sipush (-2001), 3) := by decide +kernel
theorem dL_ask_13 : decode cL_ask 13 = .ok (.ireturn, 1) := by decide +kernel
theorem dL_ask_14 : decode cL_ask 14 = .ok (.astore 4, 2) := by decide +kernel
theorem dL_ask_16 : decode cL_ask 16 = .ok (.sipush (-2002), 3) := by decide +kernel
theorem dL_ask_19 : decode cL_ask 19 = .ok (.ireturn, 1) := by decide +kernel
theorem dL_ask_20 : decode cL_ask 20 = .ok (.astore 4, 2) := by decide +kernel
theorem dL_ask_22 : decode cL_ask 22 = .ok (.sipush (-2003), 3) := by decide +kernel
theorem dL_ask_25 : decode cL_ask 25 = .ok (.ireturn, 1) := by decide +kernel
theorem dL_ask_26 : decode cL_ask 26 = .ok (.astore 4, 2) := by decide +kernel
theorem dL_ask_28 : decode cL_ask 28 = .ok (.sipush (-2005), 3) := by decide +kernel
theorem dL_ask_31 : decode cL_ask 31 = .ok (.ireturn, 1) := by decide +kernel
