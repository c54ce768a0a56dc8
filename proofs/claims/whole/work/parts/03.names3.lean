set_option maxRecDepth 20000 in
theorem ggX7_addLine_X7_learn : GoodIn wsX7_addLine wsX7_learn := goodIn_r _ [75, 6, 7, 8, 76, 77, 64, 44, 32, 33, 34, 35, 36, 37, 38, 39, 26, 27, 28, 29, 30, 31, 78, 79, 80, 81, 67, 68, 82, 83, 84, 85, 86, 87, 62, 88, 89, 90, 91, 92, 93, 94, 95, 96, 97, 98, 99, 100, 101, 102, 103, 104, 105, 106, 107, 108, 109, 110, 111, 112, 113, 114, 115, 116, 117, 118, 119, 120, 121, 122, 123, 124, 125, 126, 127, 128, 129, 130, 131, 132, 133, 134, 239, 240, 241, 253, 254, 255, 256, 232, 233, 234, 235, 236, 237, 238, 250, 251, 252] (by decide +kernel) (by decide +kernel)
set_option maxRecDepth 20000 in
theorem gX7_addLine_X7_learn : GoodIn wsX7_addLine (wsV RX7 71 RX7 yX7_learn wsX7_learn) := goodIn_app (goodIn_of _ (by decide +kernel)) ggX7_addLine_X7_learn
set_option maxRecDepth 20000 in
theorem ggX7_addLine_X3_init : GoodIn wsX7_addLine wsX3_init := goodIn_r _ [136, 137, 35, 36, 138, 139, 140, 141, 142, 143, 144, 242, 243, 244, 245, 246, 247, 248, 249] (by decide +kernel) (by decide +kernel)
set_option maxRecDepth 20000 in
theorem gX7_addLine_X3_init_n80 : GoodIn wsX7_addLine (wsX3_init) := ggX7_addLine_X3_init
set_option maxRecDepth 20000 in
theorem ggX7_addLine_Jx4a65c_add_9ea2d : GoodIn wsX7_addLine wsJx4a65c_add_9ea2d := goodIn_r _ [85, 86, 87, 62, 31, 88, 89, 90, 29, 91, 92, 93, 94, 95, 96, 97, 98, 99, 100, 101, 102, 103, 104, 105, 106, 107, 108, 109, 110, 111, 112, 113, 114, 115, 116, 117, 118, 119, 120, 121, 122, 123, 124, 125, 126, 127, 128, 129, 130, 131, 132, 133, 134, 250, 251, 252] (by decide +kernel) (by decide +kernel)
set_option maxRecDepth 20000 in
theorem gX7_addLine_Jx4a65c_add_9ea2d : GoodIn wsX7_addLine (wsV RX7 83 RJx4a65c yJx4a65c_add_9ea2d wsJx4a65c_add_9ea2d) := goodIn_app (goodIn_of _ (by decide +kernel)) ggX7_addLine_Jx4a65c_add_9ea2d
set_option maxRecDepth 20000 in
theorem ggX7_addLine_X7_mergeFrom : GoodIn wsX7_addLine wsX7_mergeFrom := goodIn_r _ [148, 44, 26, 27, 28, 29, 30, 31, 149, 150, 151, 15, 152, 45, 46, 47, 48, 49, 50, 51, 52, 53, 54, 55, 56, 57, 58, 59, 60, 61, 62, 153, 8, 154, 155, 156, 69, 70, 71, 37, 38, 39, 157, 158, 159, 160, 5, 161, 162, 163, 164, 232, 233, 234, 235, 236, 237, 238, 253, 254, 255, 256, 250, 251, 252, 239, 240, 241, 242, 243, 244, 245, 246, 247, 248, 249] (by decide +kernel) (by decide +kernel)
set_option maxRecDepth 20000 in
theorem gX7_addLine_X7_mergeFrom : GoodIn wsX7_addLine (wsV RX7 87 RX7 yX7_mergeFrom wsX7_mergeFrom) := goodIn_app (goodIn_of _ (by decide +kernel)) ggX7_addLine_X7_mergeFrom
set_option maxRecDepth 20000 in
theorem ggX7_addLine_X7_showToAlerts : GoodIn wsX7_addLine wsX7_showToAlerts := goodIn_ca (goodIn_r _ [168, 169, 170, 26, 27, 28, 29, 30, 31, 46, 47, 48, 49, 50, 51, 52, 53, 54, 55, 56, 57, 58, 59, 60, 61, 62, 171, 172, 173, 15, 174, 12, 175, 176, 177, 178, 179, 180, 181, 11, 182, 183, 143, 184, 185, 186, 187, 188, 189, 190, 191, 69, 8, 70, 71, 37, 38, 39, 192, 193, 194, 195, 196, 197, 198, 199, 200, 201, 202, 35, 36, 203, 204, 205, 206, 82, 83, 84, 85, 86, 87, 88, 89, 90, 91, 92, 93, 94, 95, 96, 97, 98, 99, 100, 101, 102, 103, 104, 105, 106, 107, 108, 109, 110, 111, 112, 113, 114, 115, 116, 117, 118, 119, 120, 121, 122, 123, 124, 125, 126, 127, 128, 129, 130, 131, 132, 133, 134, 207, 208, 209, 210, 5, 161, 211, 212, 213, 214, 215, 216, 217, 218, 232, 233, 234, 235, 236, 237, 238, 250, 251, 252, 257, 258, 259, 260, 261, 262, 263, 264, 265, 242, 243, 244, 245, 246, 247, 248, 249, 266, 267, 268, 269, 239, 240, 241, 270, 271, 272, 273, 274] (by decide +kernel) (by decide +kernel)) (goodIn_sub (fun _ h => List.mem_cons_of_mem _ (List.mem_append_right _ h)) (by decide +kernel))
set_option maxRecDepth 20000 in
theorem gX7_addLine_X7_showToAlerts : GoodIn wsX7_addLine (wsV RX7 91 RX7 yX7_showToAlerts wsX7_showToAlerts) := goodIn_app (goodIn_of _ (by decide +kernel)) ggX7_addLine_X7_showToAlerts
set_option maxRecDepth 20000 in
theorem ggX7_addLine_X7_lookAtSource : GoodIn wsX7_addLine wsX7_lookAtSource := goodIn_ca (goodIn_r _ [222, 223, 224, 225, 226, 15, 227, 5, 161, 26, 27, 28, 29, 30, 31, 46, 47, 48, 49, 50, 51, 52, 53, 54, 55, 56, 57, 58, 59, 60, 61, 62, 228, 229, 230, 231, 232, 233, 234, 235, 236, 237, 238, 242, 243, 244, 245, 246, 247, 248, 249, 250, 251, 252] (by decide +kernel) (by decide +kernel)) (goodIn_sub (fun _ h => List.mem_cons_of_mem _ (List.mem_append_right _ h)) (by decide +kernel))
set_option maxRecDepth 20000 in
theorem gX7_addLine_X7_lookAtSource : GoodIn wsX7_addLine (wsV RX7 95 RX7 yX7_lookAtSource wsX7_lookAtSource) := goodIn_app (goodIn_of _ (by decide +kernel)) ggX7_addLine_X7_lookAtSource
theorem dX7_addLine_0 : decode cX7_addLine 0 = .ok (.iload_n 1, 1) := by decide +kernel
theorem dX7_addLine_1 : decode cX7_addLine 1 = .ok (.invokestatic 32, 3) := by decide +kernel
theorem dX7_addLine_4 : decode cX7_addLine 4 = .ok (.ifCond .eq 44, 3) := by decide +kernel
theorem dX7_addLine_7 : decode cX7_addLine 7 = .ok (.iload_n 2, 1) := by decide +kernel
theorem dX7_addLine_8 : decode cX7_addLine 8 = .ok (.invokestatic 36, 3) := by decide +kernel
theorem dX7_addLine_11 : decode cX7_addLine 11 = .ok (.ifCond .eq 37, 3) := by decide +kernel
theorem dX7_addLine_14 : decode cX7_addLine 14 = .ok (.iload_n 3, 1) := by decide +kernel
theorem dX7_addLine_15 : decode cX7_addLine 15 = .ok (.invokestatic 39, 3) := by decide +kernel
theorem dX7_addLine_18 : decode cX7_addLine 18 = .ok (.ifCond .eq 30, 3) := by decide +kernel
theorem dX7_addLine_21 : decode cX7_addLine 21 = .ok (.iload 4, 2) := by decide +kernel
theorem dX7_addLine_23 : decode cX7_addLine 23 = .ok (.invokestatic 39, 3) := by decide +kernel
theorem dX7_addLine_26 : decode cX7_addLine 26 = .ok (.ifCond .eq 22, 3) := by decide +kernel
theorem dX7_addLine_29 : decode cX7_addLine 29 = .ok (.iload 5, 2) := by decide +kernel
theorem dX7_addLine_31 : decode cX7_addLine 31 = .ok (.invokestatic 39, 3) := by decide +kernel
theorem dX7_addLine_34 : decode cX7_addLine 34 = .ok (.ifCond .eq 14, 3) := by decide +kernel
theorem dX7_addLine_37 : decode cX7_addLine 37 = .ok (.iload 6, 2) := by decide +kernel
theorem dX7_addLine_39 : decode cX7_addLine 39 = .ok (.iconst 1, 1) := by decide +kernel
theorem dX7_addLine_40 : decode cX7_addLine 40 = .ok (.bipush 99, 2) := by decide +kernel
theorem dX7_addLine_42 : decode cX7_addLine 42 = .ok (.invokestatic 42, 3) := by decide +kernel
theorem dX7_addLine_45 : decode cX7_addLine 45 = .ok (.ifCond .ne 13, 3) := by decide +kernel
theorem dX7_addLine_48 : decode cX7_addLine 48 = .ok (.new 46, 3) := by decide +kernel
theorem dX7_addLine_51 : decode cX7_addLine 51 = .ok (.dup, 1) := by decide +kernel
theorem dX7_addLine_52 : decode cX7_addLine 52 = .ok (.ldc 48, 2) := by decide +kernel
theorem dX7_addLine_54 : decode cX7_addLine 54 = .ok (.invokespecial 50, 3) := by decide +kernel
theorem dX7_addLine_57 : decode cX7_addLine 57 = .ok (.athrow, 1) := by decide +kernel
theorem dX7_addLine_58 : decode cX7_addLine 58 = .ok (.aload_n 0, 1) := by decide +kernel
theorem dX7_addLine_59 : decode cX7_addLine 59 = .ok (.getfield 10, 3) := by decide +kernel
theorem dX7_addLine_62 : decode cX7_addLine 62 = .ok (.invokevirtual 53, 3) := by decide +kernel
theorem dX7_addLine_65 : decode cX7_addLine 65 = .ok (.sipush 200, 3) := by decide +kernel
theorem dX7_addLine_68 : decode cX7_addLine 68 = .ok (.if_icmp .lt 13, 3) := by decide +kernel
theorem dX7_addLine_71 : decode cX7_addLine 71 = .ok (.new 57, 3) := by decide +kernel
theorem dX7_addLine_74 : decode cX7_addLine 74 = .ok (.dup, 1) := by decide +kernel
theorem dX7_addLine_75 : decode cX7_addLine 75 = .ok (.ldc 59, 2) := by decide +kernel
theorem dX7_addLine_77 : decode cX7_addLine 77 = .ok (.invokespecial 61, 3) := by decide +kernel
theorem dX7_addLine_80 : decode cX7_addLine 80 = .ok (.athrow, 1) := by decide +kernel
theorem dX7_addLine_81 : decode cX7_addLine 81 = .ok (.aload_n 0, 1) := by decide +kernel
theorem dX7_addLine_82 : decode cX7_addLine 82 = .ok (.getfield 10, 3) := by decide +kernel
theorem dX7_addLine_85 : decode cX7_addLine 85 = .ok (.invokevirtual 53, 3) := by decide +kernel
theorem dX7_addLine_88 : decode cX7_addLine 88 = .ok (.istore 7, 2) := by decide +kernel
theorem dX7_addLine_90 : decode cX7_addLine 90 = .ok (.new 62, 3) := by decide +kernel
theorem dX7_addLine_93 : decode cX7_addLine 93 = .ok (.dup, 1) := by decide +kernel
theorem dX7_addLine_94 : decode cX7_addLine 94 = .ok (.iload_n 3, 1) := by decide +kernel
theorem dX7_addLine_95 : decode cX7_addLine 95 = .ok (.iload 4, 2) := by decide +kernel
theorem dX7_addLine_97 : decode cX7_addLine 97 = .ok (.iload 5, 2) := by decide +kernel
theorem dX7_addLine_99 : decode cX7_addLine 99 = .ok (.invokespecial 64, 3) := by decide +kernel
theorem dX7_addLine_102 : decode cX7_addLine 102 = .ok (.astore 8, 2) := by decide +kernel
theorem dX7_addLine_104 : decode cX7_addLine 104 = .ok (.aload_n 0, 1) := by decide +kernel
theorem dX7_addLine_105 : decode cX7_addLine 105 = .ok (.iload_n 1, 1) := by decide +kernel
theorem dX7_addLine_106 : decode cX7_addLine 106 = .ok (.aload 8, 2) := by decide +kernel
theorem dX7_addLine_108 : decode cX7_addLine 108 = .ok (.invokevirtual 67, 3) := by decide +kernel
theorem dX7_addLine_111 : decode cX7_addLine 111 = .ok (.astore 9, 2) := by decide +kernel
theorem dX7_addLine_113 : decode cX7_addLine 113 = .ok (.aload 9, 2) := by decide +kernel
theorem dX7_addLine_115 : decode cX7_addLine 115 = .ok (.ifnonnull 13, 3) := by decide +kernel
theorem dX7_addLine_118 : decode cX7_addLine 118 = .ok (.aload_n 0, 1) := by decide +kernel
theorem dX7_addLine_119 : decode cX7_addLine 119 = .ok (.iload_n 1, 1) := by decide +kernel
theorem dX7_addLine_120 : decode cX7_addLine 120 = .ok (.aload 8, 2) := by decide +kernel
theorem dX7_addLine_122 : decode cX7_addLine 122 = .ok (.invokevirtual 71, 3) := by decide +kernel
theorem dX7_addLine_125 : decode cX7_addLine 125 = .ok (.goto 5, 3) := by decide +kernel
theorem dX7_addLine_128 : decode cX7_addLine 128 = .ok (.aload 9, 2) := by decide +kernel
theorem dX7_addLine_130 : decode cX7_addLine 130 = .ok (.astore 10, 2) := by decide +kernel
theorem dX7_addLine_132 : decode cX7_addLine 132 = .ok (.new 74, 3) := by decide +kernel
theorem dX7_addLine_135 : decode cX7_addLine 135 = .ok (.dup, 1) := by decide +kernel
theorem dX7_addLine_136 : decode cX7_addLine 136 = .ok (.iload_n 1, 1) := by decide +kernel
theorem dX7_addLine_137 : decode cX7_addLine 137 = .ok (.iload_n 2, 1) := by decide +kernel
theorem dX7_addLine_138 : decode cX7_addLine 138 = .ok (.aload 8, 2) := by decide +kernel
theorem dX7_addLine_140 : decode cX7_addLine 140 = .ok (.iload 6, 2) := by decide +kernel
theorem dX7_addLine_142 : decode cX7_addLine 142 = .ok (.aload_n 0, 1) := by decide +kernel
theorem dX7_addLine_143 : decode cX7_addLine 143 = .ok (.getfield 76, 3) := by decide +kernel
theorem dX7_addLine_146 : decode cX7_addLine 146 = .ok (.aload 10, 2) := by decide +kernel
theorem dX7_addLine_148 : decode cX7_addLine 148 = .ok (.invokespecial 80, 3) := by decide +kernel
theorem dX7_addLine_151 : decode cX7_addLine 151 = .ok (.astore 11, 2) := by decide +kernel
theorem dX7_addLine_153 : decode cX7_addLine 153 = .ok (.aload_n 0, 1) := by decide +kernel
theorem dX7_addLine_154 : decode cX7_addLine 154 = .ok (.getfield 10, 3) := by decide +kernel
theorem dX7_addLine_157 : decode cX7_addLine 157 = .ok (.aload 11, 2) := by decide +kernel
theorem dX7_addLine_159 : decode cX7_addLine 159 = .ok (.invokevirtual 83, 3) := by decide +kernel
theorem dX7_addLine_162 : decode cX7_addLine 162 = .ok (.pop, 1) := by decide +kernel
theorem dX7_addLine_163 : decode cX7_addLine 163 = .ok (.aload 9, 2) := by decide +kernel
theorem dX7_addLine_165 : decode cX7_addLine 165 = .ok (.ifnonnull 9, 3) := by decide +kernel
theorem dX7_addLine_168 : decode cX7_addLine 168 = .ok (.aload_n 0, 1) := by decide +kernel
theorem dX7_addLine_169 : decode cX7_addLine 169 = .ok (.aload 10, 2) := by decide +kernel
theorem dX7_addLine_171 : decode cX7_addLine 171 = .ok (.invokevirtual 87, 3) := by decide +kernel
theorem dX7_addLine_174 : decode cX7_addLine 174 = .ok (.aload_n 0, 1) := by decide +kernel
theorem dX7_addLine_175 : decode cX7_addLine 175 = .ok (.aload 11, 2) := by decide +kernel
theorem dX7_addLine_177 : decode cX7_addLine 177 = .ok (.invokevirtual 91, 3) := by decide +kernel
theorem dX7_addLine_180 : decode cX7_addLine 180 = .ok (.aload_n 0, 1) := by decide +kernel
theorem dX7_addLine_181 : decode cX7_addLine 181 = .ok (.iload_n 1, 1) := by decide +kernel
theorem dX7_addLine_182 : decode cX7_addLine 182 = .ok (.invokevirtual 95, 3) := by decide +kernel
theorem dX7_addLine_185 : decode cX7_addLine 185 = .ok (.pop, 1) := by decide +kernel
theorem dX7_addLine_186 : decode cX7_addLine 186 = .ok (.iload 7, 2) := by decide +kernel
theorem dX7_addLine_188 : decode cX7_addLine 188 = .ok (.ireturn, 1) := by decide +kernel
set_option maxRecDepth 20000 in
theorem ggX7_lines_Jx4a65c_size_8abf5 : GoodIn wsX7_lines wsJx4a65c_size_8abf5 := goodIn_r _ [6, 7, 15, 16, 17] (by decide +kernel) (by decide +kernel)
set_option maxRecDepth 20000 in
theorem gX7_lines_Jx4a65c_size_8abf5 : GoodIn wsX7_lines (wsV RX7 53 RJx4a65c yJx4a65c_size_8abf5 wsJx4a65c_size_8abf5) := goodIn_app (goodIn_of _ (by decide +kernel)) ggX7_lines_Jx4a65c_size_8abf5
theorem dX7_lines_0 : decode cX7_lines 0 = .ok (.aload_n 0, 1) := by decide +kernel
theorem dX7_lines_1 : decode cX7_lines 1 = .ok (.getfield 10, 3) := by decide +kernel
theorem dX7_lines_4 : decode cX7_lines 4 = .ok (.invokevirtual 53, 3) := by decide +kernel
theorem dX7_lines_7 : decode cX7_lines 7 = .ok (.ireturn, 1) := by decide +kernel
set_option maxRecDepth 20000 in
theorem ggX7_stateOf_X7_lineNumbered : GoodIn wsX7_stateOf wsX7_lineNumbered := goodIn_ca (goodIn_r _ [5, 6, 7, 8, 9, 10, 11, 12, 13, 14, 15, 16, 17, 18, 19, 20, 21, 22, 23, 24, 25, 26, 27, 28, 29, 30, 31, 32, 41, 42, 43, 44, 45, 46, 47, 48, 49, 50] (by decide +kernel) (by decide +kernel)) (goodIn_sub (fun _ h => List.mem_cons_of_mem _ (List.mem_append_right _ h)) (by decide +kernel))
set_option maxRecDepth 20000 in
theorem gX7_stateOf_X7_lineNumbered : GoodIn wsX7_stateOf (wsV RX7 99 RX7 yX7_lineNumbered wsX7_lineNumbered) := goodIn_app (goodIn_of _ (by decide +kernel)) ggX7_stateOf_X7_lineNumbered
theorem dX7_stateOf_0 : decode cX7_stateOf 0 = .ok (.aload_n 0, 1) := by decide +kernel
theorem dX7_stateOf_1 : decode cX7_stateOf 1 = .ok (.iload_n 1, 1) := by decide +kernel
theorem dX7_stateOf_2 : decode cX7_stateOf 2 = .ok (.invokevirtual 99, 3) := by decide +kernel
theorem dX7_stateOf_5 : decode cX7_stateOf 5 = .ok (.getfield 103, 3) := by decide +kernel
theorem dX7_stateOf_8 : decode cX7_stateOf 8 = .ok (.ireturn, 1) := by decide +kernel
set_option maxRecDepth 20000 in
theorem ggX7_patternOf_X7_lineNumbered : GoodIn wsX7_patternOf wsX7_lineNumbered := goodIn_ca (goodIn_r _ [5, 6, 7, 8, 9, 10, 11, 12, 13, 14, 15, 16, 17, 18, 19, 20, 21, 22, 23, 24, 25, 26, 27, 28, 29, 30, 31, 32, 45, 46, 47, 48, 49, 50, 51, 52, 53, 54] (by decide +kernel) (by decide +kernel)) (goodIn_sub (fun _ h => List.mem_cons_of_mem _ (List.mem_append_right _ h)) (by decide +kernel))
set_option maxRecDepth 20000 in
theorem gX7_patternOf_X7_lineNumbered : GoodIn wsX7_patternOf (wsV RX7 99 RX7 yX7_lineNumbered wsX7_lineNumbered) := goodIn_app (goodIn_of _ (by decide +kernel)) ggX7_patternOf_X7_lineNumbered
theorem dX7_patternOf_0 : decode cX7_patternOf 0 = .ok (.aload_n 0, 1) := by decide +kernel
theorem dX7_patternOf_1 : decode cX7_patternOf 1 = .ok (.iload_n 1, 1) := by decide +kernel
theorem dX7_patternOf_2 : decode cX7_patternOf 2 = .ok (.invokevirtual 99, 3) := by decide +kernel
theorem dX7_patternOf_5 : decode cX7_patternOf 5 = .ok (.getfield 107, 3) := by decide +kernel
theorem dX7_patternOf_8 : decode cX7_patternOf 8 = .ok (.getfield 111, 3) := by decide +kernel
theorem dX7_patternOf_11 : decode cX7_patternOf 11 = .ok (.ireturn, 1) := by decide +kernel
set_option maxRecDepth 20000 in
theorem ggX7_patterns_X7_checkSource : GoodIn wsX7_patterns wsX7_checkSource := goodIn_ca (goodIn_r _ [6, 7, 8, 9, 10, 5, 11, 12, 13, 14] (by decide +kernel) (by decide +kernel)) (goodIn_sub (fun _ h => List.mem_cons_of_mem _ (List.mem_append_right _ h)) (by decide +kernel))
set_option maxRecDepth 20000 in
theorem gX7_patterns_X7_checkSource : GoodIn wsX7_patterns (va_wsS RX7 116 yX7_checkSource wsX7_checkSource) := goodIn_app (goodIn_of _ (by decide +kernel)) ggX7_patterns_X7_checkSource
set_option maxRecDepth 20000 in
theorem ggX7_patterns_Jx4a65c_size_8abf5 : GoodIn wsX7_patterns wsJx4a65c_size_8abf5 := goodIn_r _ [19, 20, 49, 50, 51] (by decide +kernel) (by decide +kernel)
set_option maxRecDepth 20000 in
theorem gX7_patterns_Jx4a65c_size_8abf5 : GoodIn wsX7_patterns (wsV RX7 53 RJx4a65c yJx4a65c_size_8abf5 wsJx4a65c_size_8abf5) := goodIn_app (goodIn_of _ (by decide +kernel)) ggX7_patterns_Jx4a65c_size_8abf5
set_option maxRecDepth 20000 in
theorem ggX7_patterns_Jx4a65c_get_915e3 : GoodIn wsX7_patterns wsJx4a65c_get_915e3 := goodIn_r _ [24, 20, 25, 26, 27, 28, 29, 30, 31, 32, 33, 34, 35, 18, 36, 37, 49, 50, 51] (by decide +kernel) (by decide +kernel)
set_option maxRecDepth 20000 in
theorem gX7_patterns_Jx4a65c_get_915e3 : GoodIn wsX7_patterns (wsV RX7 120 RJx4a65c yJx4a65c_get_915e3 wsJx4a65c_get_915e3) := goodIn_app (goodIn_of _ (by decide +kernel)) ggX7_patterns_Jx4a65c_get_915e3
theorem dX7_patterns_0 : decode cX7_patterns 0 = .ok (.iload_n 1, 1) := by decide +kernel
theorem dX7_patterns_1 : decode cX7_patterns 1 = .ok (.invokestatic 116, 3) := by decide +kernel
theorem dX7_patterns_4 : decode cX7_patterns 4 = .ok (.iconst 0, 1) := by decide +kernel
theorem dX7_patterns_5 : decode cX7_patterns 5 = .ok (.istore_n 2, 1) := by decide +kernel
theorem dX7_patterns_6 : decode cX7_patterns 6 = .ok (.iconst 0, 1) := by decide +kernel
theorem dX7_patterns_7 : decode cX7_patterns 7 = .ok (.istore_n 3, 1) := by decide +kernel
theorem dX7_patterns_8 : decode cX7_patterns 8 = .ok (.iload_n 3, 1) := by decide +kernel
theorem dX7_patterns_9 : decode cX7_patterns 9 = .ok (.aload_n 0, 1) := by decide +kernel
theorem dX7_patterns_10 : decode cX7_patterns 10 = .ok (.getfield 16, 3) := by decide +kernel
theorem dX7_patterns_13 : decode cX7_patterns 13 = .ok (.invokevirtual 53, 3) := by decide +kernel
theorem dX7_patterns_16 : decode cX7_patterns 16 = .ok (.if_icmp .ge 42, 3) := by decide +kernel
theorem dX7_patterns_19 : decode cX7_patterns 19 = .ok (.aload_n 0, 1) := by decide +kernel
theorem dX7_patterns_20 : decode cX7_patterns 20 = .ok (.getfield 16, 3) := by decide +kernel
theorem dX7_patterns_23 : decode cX7_patterns 23 = .ok (.iload_n 3, 1) := by decide +kernel
theorem dX7_patterns_24 : decode cX7_patterns 24 = .ok (.invokevirtual 120, 3) := by decide +kernel
theorem dX7_patterns_27 : decode cX7_patterns 27 = .ok (.checkcast 112, 3) := by decide +kernel
theorem dX7_patterns_30 : decode cX7_patterns 30 = .ok (.astore 4, 2) := by decide +kernel
theorem dX7_patterns_32 : decode cX7_patterns 32 = .ok (.aload 4, 2) := by decide +kernel
theorem dX7_patterns_34 : decode cX7_patterns 34 = .ok (.getfield 124, 3) := by decide +kernel
theorem dX7_patterns_37 : decode cX7_patterns 37 = .ok (.iload_n 1, 1) := by decide +kernel
theorem dX7_patterns_38 : decode cX7_patterns 38 = .ok (.if_icmp .ne 14, 3) := by decide +kernel
theorem dX7_patterns_41 : decode cX7_patterns 41 = .ok (.aload 4, 2) := by decide +kernel
theorem dX7_patterns_43 : decode cX7_patterns 43 = .ok (.getfield 127, 3) := by decide +kernel
theorem dX7_patterns_46 : decode cX7_patterns 46 = .ok (.ifCond .ne 6, 3) := by decide +kernel
theorem dX7_patterns_49 : decode cX7_patterns 49 = .ok (.iinc 2 1, 3) := by decide +kernel
theorem dX7_patterns_52 : decode cX7_patterns 52 = .ok (.iinc 3 1, 3) := by decide +kernel
theorem dX7_patterns_55 : decode cX7_patterns 55 = .ok (.goto (-47), 3) := by decide +kernel
theorem dX7_patterns_58 : decode cX7_patterns 58 = .ok (.iload_n 2, 1) := by decide +kernel
theorem dX7_patterns_59 : decode cX7_patterns 59 = .ok (.ireturn, 1) := by decide +kernel
set_option maxRecDepth 20000 in
theorem ggX7_wordAt_X7_patternNumbered : GoodIn wsX7_wordAt wsX7_patternNumbered := goodIn_ca (goodIn_r _ [5, 6, 7, 8, 9, 10, 11, 12, 13, 14, 15, 16, 17, 18, 19, 20, 21, 22, 23, 24, 25, 26, 27, 28, 29, 30, 31, 32, 52, 53, 54, 55, 56, 57, 58, 48, 49, 50, 51, 59, 60, 61] (by decide +kernel) (by decide +kernel)) (goodIn_sub (fun _ h => List.mem_cons_of_mem _ (List.mem_append_left _ (List.mem_append_right _ h))) (by decide +kernel))
set_option maxRecDepth 20000 in
theorem gX7_wordAt_X7_patternNumbered : GoodIn wsX7_wordAt (wsV RX7 131 RX7 yX7_patternNumbered wsX7_patternNumbered) := goodIn_app (goodIn_of _ (by decide +kernel)) ggX7_wordAt_X7_patternNumbered
set_option maxRecDepth 20000 in
theorem ggX7_wordAt_X7_checkPlace : GoodIn wsX7_wordAt wsX7_checkPlace := goodIn_ca (goodIn_r _ [35, 36, 37, 38, 39, 4, 40] (by decide +kernel) (by decide +kernel)) (goodIn_sub (fun _ h => List.mem_cons_of_mem _ (List.mem_append_right _ h)) (by decide +kernel))
set_option maxRecDepth 20000 in
theorem gX7_wordAt_X7_checkPlace : GoodIn wsX7_wordAt (va_wsS RX7 135 yX7_checkPlace wsX7_checkPlace) := goodIn_app (goodIn_of _ (by decide +kernel)) ggX7_wordAt_X7_checkPlace
set_option maxRecDepth 20000 in
theorem ggX7_wordAt_X6_at : GoodIn wsX7_wordAt wsX6_at := goodIn_r _ [44, 45, 46, 47, 62, 63, 64] (by decide +kernel) (by decide +kernel)
set_option maxRecDepth 20000 in
theorem gX7_wordAt_X6_at_n142 : GoodIn wsX7_wordAt (wsX6_at) := ggX7_wordAt_X6_at
theorem dX7_wordAt_0 : decode cX7_wordAt 0 = .ok (.aload_n 0, 1) := by decide +kernel
theorem dX7_wordAt_1 : decode cX7_wordAt 1 = .ok (.iload_n 1, 1) := by decide +kernel
theorem dX7_wordAt_2 : decode cX7_wordAt 2 = .ok (.invokevirtual 131, 3) := by decide +kernel
theorem dX7_wordAt_5 : decode cX7_wordAt 5 = .ok (.astore_n 3, 1) := by decide +kernel
theorem dX7_wordAt_6 : decode cX7_wordAt 6 = .ok (.iload_n 2, 1) := by decide +kernel
theorem dX7_wordAt_7 : decode cX7_wordAt 7 = .ok (.invokestatic 135, 3) := by decide +kernel
theorem dX7_wordAt_10 : decode cX7_wordAt 10 = .ok (.aload_n 3, 1) := by decide +kernel
theorem dX7_wordAt_11 : decode cX7_wordAt 11 = .ok (.getfield 138, 3) := by decide +kernel
theorem dX7_wordAt_14 : decode cX7_wordAt 14 = .ok (.iload_n 2, 1) := by decide +kernel
theorem dX7_wordAt_15 : decode cX7_wordAt 15 = .ok (.invokevirtual 142, 3) := by decide +kernel
theorem dX7_wordAt_18 : decode cX7_wordAt 18 = .ok (.ireturn, 1) := by decide +kernel
set_option maxRecDepth 20000 in
theorem ggX7_linesOf_X7_patternNumbered : GoodIn wsX7_linesOf wsX7_patternNumbered := goodIn_ca (goodIn_r _ [7, 8, 9, 10, 11, 12, 13, 14, 15, 16, 17, 18, 19, 20, 21, 22, 23, 24, 25, 26, 27, 28, 29, 30, 31, 32, 33, 34, 35, 36, 37, 38, 39, 40, 41, 50, 51, 52, 53, 54, 55, 56] (by decide +kernel) (by decide +kernel)) (goodIn_sub (fun _ h => List.mem_cons_of_mem _ (List.mem_append_right _ h)) (by decide +kernel))
set_option maxRecDepth 20000 in
theorem gX7_linesOf_X7_patternNumbered : GoodIn wsX7_linesOf (wsV RX7 131 RX7 yX7_patternNumbered wsX7_patternNumbered) := goodIn_app (goodIn_of _ (by decide +kernel)) ggX7_linesOf_X7_patternNumbered
set_option maxRecDepth 20000 in
theorem ggX7_linesOf_Jx4a65c_size_8abf5 : GoodIn wsX7_linesOf wsJx4a65c_size_8abf5 := goodIn_r _ [16, 17, 54, 55, 56] (by decide +kernel) (by decide +kernel)
set_option maxRecDepth 20000 in
theorem gX7_linesOf_Jx4a65c_size_8abf5 : GoodIn wsX7_linesOf (wsV RX7 53 RJx4a65c yJx4a65c_size_8abf5 wsJx4a65c_size_8abf5) := goodIn_app (goodIn_of _ (by decide +kernel)) ggX7_linesOf_Jx4a65c_size_8abf5
set_option maxRecDepth 20000 in
theorem ggX7_linesOf_Jx4a65c_get_915e3 : GoodIn wsX7_linesOf wsJx4a65c_get_915e3 := goodIn_r _ [21, 17, 22, 23, 24, 25, 26, 27, 28, 29, 30, 31, 32, 15, 33, 34, 54, 55, 56] (by decide +kernel) (by decide +kernel)
set_option maxRecDepth 20000 in
theorem gX7_linesOf_Jx4a65c_get_915e3 : GoodIn wsX7_linesOf (wsV RX7 120 RJx4a65c yJx4a65c_get_915e3 wsJx4a65c_get_915e3) := goodIn_app (goodIn_of _ (by decide +kernel)) ggX7_linesOf_Jx4a65c_get_915e3
theorem dX7_linesOf_0 : decode cX7_linesOf 0 = .ok (.aload_n 0, 1) := by decide +kernel
theorem dX7_linesOf_1 : decode cX7_linesOf 1 = .ok (.iload_n 1, 1) := by decide +kernel
theorem dX7_linesOf_2 : decode cX7_linesOf 2 = .ok (.invokevirtual 131, 3) := by decide +kernel
theorem dX7_linesOf_5 : decode cX7_linesOf 5 = .ok (.astore_n 2, 1) := by decide +kernel
theorem dX7_linesOf_6 : decode cX7_linesOf 6 = .ok (.iconst 0, 1) := by decide +kernel
theorem dX7_linesOf_7 : decode cX7_linesOf 7 = .ok (.istore_n 3, 1) := by decide +kernel
theorem dX7_linesOf_8 : decode cX7_linesOf 8 = .ok (.iconst 0, 1) := by decide +kernel
theorem dX7_linesOf_9 : decode cX7_linesOf 9 = .ok (.istore 4, 2) := by decide +kernel
theorem dX7_linesOf_11 : decode cX7_linesOf 11 = .ok (.iload 4, 2) := by decide +kernel
theorem dX7_linesOf_13 : decode cX7_linesOf 13 = .ok (.aload_n 0, 1) := by decide +kernel
theorem dX7_linesOf_14 : decode cX7_linesOf 14 = .ok (.getfield 10, 3) := by decide +kernel
theorem dX7_linesOf_17 : decode cX7_linesOf 17 = .ok (.invokevirtual 53, 3) := by decide +kernel
theorem dX7_linesOf_20 : decode cX7_linesOf 20 = .ok (.if_icmp .ge 31, 3) := by decide +kernel
theorem dX7_linesOf_23 : decode cX7_linesOf 23 = .ok (.aload_n 0, 1) := by decide +kernel
theorem dX7_linesOf_24 : decode cX7_linesOf 24 = .ok (.getfield 10, 3) := by decide +kernel
theorem dX7_linesOf_27 : decode cX7_linesOf 27 = .ok (.iload 4, 2) := by decide +kernel
theorem dX7_linesOf_29 : decode cX7_linesOf 29 = .ok (.invokevirtual 120, 3) := by decide +kernel
theorem dX7_linesOf_32 : decode cX7_linesOf 32 = .ok (.checkcast 74, 3) := by decide +kernel
theorem dX7_linesOf_35 : decode cX7_linesOf 35 = .ok (.getfield 107, 3) := by decide +kernel
theorem dX7_linesOf_38 : decode cX7_linesOf 38 = .ok (.aload_n 2, 1) := by decide +kernel
theorem dX7_linesOf_39 : decode cX7_linesOf 39 = .ok (.if_acmp .ne 6, 3) := by decide +kernel
theorem dX7_linesOf_42 : decode cX7_linesOf 42 = .ok (.iinc 3 1, 3) := by decide +kernel
theorem dX7_linesOf_45 : decode cX7_linesOf 45 = .ok (.iinc 4 1, 3) := by decide +kernel
theorem dX7_linesOf_48 : decode cX7_linesOf 48 = .ok (.goto (-37), 3) := by decide +kernel
theorem dX7_linesOf_51 : decode cX7_linesOf 51 = .ok (.iload_n 3, 1) := by decide +kernel
theorem dX7_linesOf_52 : decode cX7_linesOf 52 = .ok (.ireturn, 1) := by decide +kernel
set_option maxRecDepth 20000 in
theorem ggX7_values_X7_patternNumbered : GoodIn wsX7_values wsX7_patternNumbered := goodIn_ca (goodIn_r _ [7, 8, 9, 10, 11, 12, 13, 14, 15, 16, 17, 18, 19, 20, 21, 22, 23, 24, 25, 26, 27, 28, 29, 30, 31, 32, 33, 34, 57, 58, 59, 60, 61, 62, 63, 72, 73, 74, 75, 76, 77, 78] (by decide +kernel) (by decide +kernel)) (goodIn_sub (fun _ h => List.mem_cons_of_mem _ (List.mem_append_left _ (List.mem_append_right _ h))) (by decide +kernel))
set_option maxRecDepth 20000 in
theorem gX7_values_X7_patternNumbered : GoodIn wsX7_values (wsV RX7 131 RX7 yX7_patternNumbered wsX7_patternNumbered) := goodIn_app (goodIn_of _ (by decide +kernel)) ggX7_values_X7_patternNumbered
set_option maxRecDepth 20000 in
theorem ggX7_values_X7_checkPlace : GoodIn wsX7_values wsX7_checkPlace := goodIn_ca (goodIn_r _ [37, 38, 39, 40, 41, 6, 42] (by decide +kernel) (by decide +kernel)) (goodIn_sub (fun _ h => List.mem_cons_of_mem _ (List.mem_append_right _ h)) (by decide +kernel))
set_option maxRecDepth 20000 in
theorem gX7_values_X7_checkPlace : GoodIn wsX7_values (va_wsS RX7 135 yX7_checkPlace wsX7_checkPlace) := goodIn_app (goodIn_of _ (by decide +kernel)) ggX7_values_X7_checkPlace
set_option maxRecDepth 20000 in
theorem ggX7_values_Jx4a65c_size_8abf5 : GoodIn wsX7_values wsJx4a65c_size_8abf5 := goodIn_r _ [16, 17, 76, 77, 78] (by decide +kernel) (by decide +kernel)
set_option maxRecDepth 20000 in
theorem gX7_values_Jx4a65c_size_8abf5 : GoodIn wsX7_values (wsV RX7 53 RJx4a65c yJx4a65c_size_8abf5 wsJx4a65c_size_8abf5) := goodIn_app (goodIn_of _ (by decide +kernel)) ggX7_values_Jx4a65c_size_8abf5
set_option maxRecDepth 20000 in
theorem ggX7_values_Jx4a65c_get_915e3 : GoodIn wsX7_values wsJx4a65c_get_915e3 := goodIn_r _ [21, 17, 22, 23, 24, 25, 26, 27, 28, 29, 30, 31, 32, 15, 33, 34, 76, 77, 78] (by decide +kernel) (by decide +kernel)
set_option maxRecDepth 20000 in
theorem gX7_values_Jx4a65c_get_915e3 : GoodIn wsX7_values (wsV RX7 120 RJx4a65c yJx4a65c_get_915e3 wsJx4a65c_get_915e3) := goodIn_app (goodIn_of _ (by decide +kernel)) ggX7_values_Jx4a65c_get_915e3
set_option maxRecDepth 20000 in
theorem ggX7_values_X6_at : GoodIn wsX7_values wsX6_at := goodIn_r _ [46, 47, 48, 49, 79, 80, 81] (by decide +kernel) (by decide +kernel)
set_option maxRecDepth 20000 in
theorem gX7_values_X6_at_n142 : GoodIn wsX7_values (wsX6_at) := ggX7_values_X6_at
set_option maxRecDepth 20000 in
theorem ggX7_values_J13_bitCount_95d88 : GoodIn wsX7_values wsJ13_bitCount_95d88 := goodIn_r _ [53, 54, 55, 56] (by decide +kernel) (by decide +kernel)
set_option maxRecDepth 20000 in
theorem gX7_values_J13_bitCount_95d88 : GoodIn wsX7_values (va_wsS RX7 146 yJ13_bitCount_95d88 wsJ13_bitCount_95d88) := goodIn_app (goodIn_of _ (by decide +kernel)) ggX7_values_J13_bitCount_95d88
theorem dX7_values_0 : decode cX7_values 0 = .ok (.aload_n 0, 1) := by decide +kernel
theorem dX7_values_1 : decode cX7_values 1 = .ok (.iload_n 1, 1) := by decide +kernel
theorem dX7_values_2 : decode cX7_values 2 = .ok (.invokevirtual 131, 3) := by decide +kernel
theorem dX7_values_5 : decode cX7_values 5 = .ok (.astore_n 3, 1) := by decide +kernel
theorem dX7_values_6 : decode cX7_values 6 = .ok (.iload_n 2, 1) := by decide +kernel
theorem dX7_values_7 : decode cX7_values 7 = .ok (.invokestatic 135, 3) := by decide +kernel
theorem dX7_values_10 : decode cX7_values 10 = .ok (.lconst 0, 1) := by decide +kernel
theorem dX7_values_11 : decode cX7_values 11 = .ok (.lstore 4, 2) := by decide +kernel
theorem dX7_values_13 : decode cX7_values 13 = .ok (.lconst 0, 1) := by decide +kernel
theorem dX7_values_14 : decode cX7_values 14 = .ok (.lstore 6, 2) := by decide +kernel
theorem dX7_values_16 : decode cX7_values 16 = .ok (.iconst 0, 1) := by decide +kernel
theorem dX7_values_17 : decode cX7_values 17 = .ok (.istore 8, 2) := by decide +kernel
theorem dX7_values_19 : decode cX7_values 19 = .ok (.iload 8, 2) := by decide +kernel
theorem dX7_values_21 : decode cX7_values 21 = .ok (.aload_n 0, 1) := by decide +kernel
theorem dX7_values_22 : decode cX7_values 22 = .ok (.getfield 10, 3) := by decide +kernel
theorem dX7_values_25 : decode cX7_values 25 = .ok (.invokevirtual 53, 3) := by decide +kernel
theorem dX7_values_28 : decode cX7_values 28 = .ok (.if_icmp .ge 74, 3) := by decide +kernel
theorem dX7_values_31 : decode cX7_values 31 = .ok (.aload_n 0, 1) := by decide +kernel
theorem dX7_values_32 : decode cX7_values 32 = .ok (.getfield 10, 3) := by decide +kernel
theorem dX7_values_35 : decode cX7_values 35 = .ok (.iload 8, 2) := by decide +kernel
theorem dX7_values_37 : decode cX7_values 37 = .ok (.invokevirtual 120, 3) := by decide +kernel
theorem dX7_values_40 : decode cX7_values 40 = .ok (.checkcast 74, 3) := by decide +kernel
theorem dX7_values_43 : decode cX7_values 43 = .ok (.astore 9, 2) := by decide +kernel
theorem dX7_values_45 : decode cX7_values 45 = .ok (.aload 9, 2) := by decide +kernel
theorem dX7_values_47 : decode cX7_values 47 = .ok (.getfield 107, 3) := by decide +kernel
theorem dX7_values_50 : decode cX7_values 50 = .ok (.aload_n 3, 1) := by decide +kernel
theorem dX7_values_51 : decode cX7_values 51 = .ok (.if_acmp .ne 45, 3) := by decide +kernel
theorem dX7_values_54 : decode cX7_values 54 = .ok (.aload 9, 2) := by decide +kernel
theorem dX7_values_56 : decode cX7_values 56 = .ok (.getfield 145, 3) := by decide +kernel
theorem dX7_values_59 : decode cX7_values 59 = .ok (.iload_n 2, 1) := by decide +kernel
theorem dX7_values_60 : decode cX7_values 60 = .ok (.invokevirtual 142, 3) := by decide +kernel
theorem dX7_values_63 : decode cX7_values 63 = .ok (.istore 10, 2) := by decide +kernel
theorem dX7_values_65 : decode cX7_values 65 = .ok (.iload 10, 2) := by decide +kernel
theorem dX7_values_67 : decode cX7_values 67 = .ok (.bipush 64, 2) := by decide +kernel
theorem dX7_values_69 : decode cX7_values 69 = .ok (.if_icmp .ge 15, 3) := by decide +kernel
theorem dX7_values_72 : decode cX7_values 72 = .ok (.lload 4, 2) := by decide +kernel
theorem dX7_values_74 : decode cX7_values 74 = .ok (.lconst 1, 1) := by decide +kernel
theorem dX7_values_75 : decode cX7_values 75 = .ok (.iload 10, 2) := by decide +kernel
theorem dX7_values_77 : decode cX7_values 77 = .ok (.lshl, 1) := by decide +kernel
theorem dX7_values_78 : decode cX7_values 78 = .ok (.lor, 1) := by decide +kernel
theorem dX7_values_79 : decode cX7_values 79 = .ok (.lstore 4, 2) := by decide +kernel
theorem dX7_values_81 : decode cX7_values 81 = .ok (.goto 15, 3) := by decide +kernel
theorem dX7_values_84 : decode cX7_values 84 = .ok (.lload 6, 2) := by decide +kernel
theorem dX7_values_86 : decode cX7_values 86 = .ok (.lconst 1, 1) := by decide +kernel
theorem dX7_values_87 : decode cX7_values 87 = .ok (.iload 10, 2) := by decide +kernel
theorem dX7_values_89 : decode cX7_values 89 = .ok (.bipush 64, 2) := by decide +kernel
theorem dX7_values_91 : decode cX7_values 91 = .ok (.isub, 1) := by decide +kernel
theorem dX7_values_92 : decode cX7_values 92 = .ok (.lshl, 1) := by decide +kernel
theorem dX7_values_93 : decode cX7_values 93 = .ok (.lor, 1) := by decide +kernel
theorem dX7_values_94 : decode cX7_values 94 = .ok (.lstore 6, 2) := by decide +kernel
theorem dX7_values_96 : decode cX7_values 96 = .ok (.iinc 8 1, 3) := by decide +kernel
theorem dX7_values_99 : decode cX7_values 99 = .ok (.goto (-80), 3) := by decide +kernel
theorem dX7_values_102 : decode cX7_values 102 = .ok (.lload 4, 2) := by decide +kernel
theorem dX7_values_104 : decode cX7_values 104 = .ok (.invokestatic 146, 3) := by decide +kernel
theorem dX7_values_107 : decode cX7_values 107 = .ok (.lload 6, 2) := by decide +kernel
theorem dX7_values_109 : decode cX7_values 109 = .ok (.invokestatic 146, 3) := by decide +kernel
theorem dX7_values_112 : decode cX7_values 112 = .ok (.iadd, 1) := by decide +kernel
theorem dX7_values_113 : decode cX7_values 113 = .ok (.ireturn, 1) := by decide +kernel
set_option maxRecDepth 20000 in
theorem ggX7_setBudget_X7_checkSource : GoodIn wsX7_setBudget wsX7_checkSource := goodIn_ca (goodIn_r _ [7, 1, 2, 8, 9, 6, 10, 11, 12, 13] (by decide +kernel) (by decide +kernel)) (goodIn_sub (fun _ h => List.mem_cons_of_mem _ (List.mem_append_left _ (List.mem_append_right _ h))) (by decide +kernel))
set_option maxRecDepth 20000 in
theorem gX7_setBudget_X7_checkSource : GoodIn wsX7_setBudget (va_wsS RX7 116 yX7_checkSource wsX7_checkSource) := goodIn_app (goodIn_of _ (by decide +kernel)) ggX7_setBudget_X7_checkSource
set_option maxRecDepth 20000 in
theorem ggX7_setBudget_X7_isWithin : GoodIn wsX7_setBudget wsX7_isWithin := goodIn_r _ [13] (by decide +kernel) (by decide +kernel)
set_option maxRecDepth 20000 in
theorem gX7_setBudget_X7_isWithin : GoodIn wsX7_setBudget (va_wsS RX7 42 yX7_isWithin wsX7_isWithin) := goodIn_app (goodIn_of _ (by decide +kernel)) ggX7_setBudget_X7_isWithin
set_option maxRecDepth 20000 in
theorem ggX7_setBudget_X7_lookAtSource : GoodIn wsX7_setBudget wsX7_lookAtSource := goodIn_ca (goodIn_r _ [17, 3, 18, 19, 20, 6, 21, 22, 23, 24, 25, 26, 27, 28, 29, 30, 31, 32, 33, 34, 35, 36, 37, 38, 39, 40, 41, 42, 43, 44, 45, 46, 47, 48, 49, 50, 51, 52, 53, 54, 55, 56, 57, 58, 59, 60, 61, 62, 63, 64, 65, 66, 67, 68] (by decide +kernel) (by decide +kernel)) (goodIn_sub (fun _ h => List.mem_cons_of_mem _ (List.mem_append_right _ h)) (by decide +kernel))
set_option maxRecDepth 20000 in
theorem gX7_setBudget_X7_lookAtSource : GoodIn wsX7_setBudget (wsV RX7 95 RX7 yX7_lookAtSource wsX7_lookAtSource) := goodIn_app (goodIn_of _ (by decide +kernel)) ggX7_setBudget_X7_lookAtSource
theorem dX7_setBudget_0 : decode cX7_setBudget 0 = .ok (.iload_n 1, 1) := by decide +kernel
theorem dX7_setBudget_1 : decode cX7_setBudget 1 = .ok (.invokestatic 116, 3) := by decide +kernel
theorem dX7_setBudget_4 : decode cX7_setBudget 4 = .ok (.iload_n 2, 1) := by decide +kernel
theorem dX7_setBudget_5 : decode cX7_setBudget 5 = .ok (.iconst 0, 1) := by decide +kernel
theorem dX7_setBudget_6 : decode cX7_setBudget 6 = .ok (.sipush 9999, 3) := by decide +kernel
theorem dX7_setBudget_9 : decode cX7_setBudget 9 = .ok (.invokestatic 42, 3) := by decide +kernel
theorem dX7_setBudget_12 : decode cX7_setBudget 12 = .ok (.ifCond .ne 13, 3) := by decide +kernel
theorem dX7_setBudget_15 : decode cX7_setBudget 15 = .ok (.new 46, 3) := by decide +kernel
theorem dX7_setBudget_18 : decode cX7_setBudget 18 = .ok (.dup, 1) := by decide +kernel
theorem dX7_setBudget_19 : decode cX7_setBudget 19 = .ok (.ldc 152, 2) := by decide +kernel
theorem dX7_setBudget_21 : decode cX7_setBudget 21 = .ok (.invokespecial 50, 3) := by decide +kernel
theorem dX7_setBudget_24 : decode cX7_setBudget 24 = .ok (.athrow, 1) := by decide +kernel
theorem dX7_setBudget_25 : decode cX7_setBudget 25 = .ok (.aload_n 0, 1) := by decide +kernel
theorem dX7_setBudget_26 : decode cX7_setBudget 26 = .ok (.getfield 28, 3) := by decide +kernel
theorem dX7_setBudget_29 : decode cX7_setBudget 29 = .ok (.iload_n 1, 1) := by decide +kernel
theorem dX7_setBudget_30 : decode cX7_setBudget 30 = .ok (.iload_n 2, 1) := by decide +kernel
theorem dX7_setBudget_31 : decode cX7_setBudget 31 = .ok (.iastore, 1) := by decide +kernel
theorem dX7_setBudget_32 : decode cX7_setBudget 32 = .ok (.aload_n 0, 1) := by decide +kernel
theorem dX7_setBudget_33 : decode cX7_setBudget 33 = .ok (.iload_n 1, 1) := by decide +kernel
theorem dX7_setBudget_34 : decode cX7_setBudget 34 = .ok (.invokevirtual 95, 3) := by decide +kernel
theorem dX7_setBudget_37 : decode cX7_setBudget 37 = .ok (.ireturn, 1) := by decide +kernel
set_option maxRecDepth 20000 in
theorem ggX7_kept_X7_checkSource : GoodIn wsX7_kept wsX7_checkSource := goodIn_ca (goodIn_r _ [4, 5, 6, 7, 8, 3, 9, 10, 11, 12] (by decide +kernel) (by decide +kernel)) (goodIn_sub (fun _ h => List.mem_cons_of_mem _ (List.mem_append_right _ h)) (by decide +kernel))
set_option maxRecDepth 20000 in
theorem gX7_kept_X7_checkSource : GoodIn wsX7_kept (va_wsS RX7 116 yX7_checkSource wsX7_checkSource) := goodIn_app (goodIn_of _ (by decide +kernel)) ggX7_kept_X7_checkSource
set_option maxRecDepth 20000 in
theorem ggX7_kept_X7_keptBytes : GoodIn wsX7_kept wsX7_keptBytes := goodIn_r _ [16, 17, 18, 19, 20, 21, 22, 23, 24, 25, 26, 27, 28, 29, 30, 31, 32, 33, 34, 35, 36, 37, 38, 39, 40, 41, 42, 43, 44, 45, 46, 47, 48, 49, 50, 51, 52, 53, 54, 55, 56, 57, 58, 59] (by decide +kernel) (by decide +kernel)
set_option maxRecDepth 20000 in
theorem gX7_kept_X7_keptBytes : GoodIn wsX7_kept (wsV RX7 154 RX7 yX7_keptBytes wsX7_keptBytes) := goodIn_app (goodIn_of _ (by decide +kernel)) ggX7_kept_X7_keptBytes
theorem dX7_kept_0 : decode cX7_kept 0 = .ok (.iload_n 1, 1) := by decide +kernel
theorem dX7_kept_1 : decode cX7_kept 1 = .ok (.invokestatic 116, 3) := by decide +kernel
theorem dX7_kept_4 : decode cX7_kept 4 = .ok (.aload_n 0, 1) := by decide +kernel
theorem dX7_kept_5 : decode cX7_kept 5 = .ok (.iload_n 1, 1) := by decide +kernel
theorem dX7_kept_6 : decode cX7_kept 6 = .ok (.invokevirtual 154, 3) := by decide +kernel
theorem dX7_kept_9 : decode cX7_kept 9 = .ok (.ireturn, 1) := by decide +kernel
set_option maxRecDepth 20000 in
theorem ggX7_dropped_X7_checkSource : GoodIn wsX7_dropped wsX7_checkSource := goodIn_ca (goodIn_r _ [6, 7, 8, 9, 10, 5, 11, 12, 13, 14] (by decide +kernel) (by decide +kernel)) (goodIn_sub (fun _ h => List.mem_cons_of_mem _ (List.mem_append_right _ h)) (by decide +kernel))
set_option maxRecDepth 20000 in
theorem gX7_dropped_X7_checkSource : GoodIn wsX7_dropped (va_wsS RX7 116 yX7_checkSource wsX7_checkSource) := goodIn_app (goodIn_of _ (by decide +kernel)) ggX7_dropped_X7_checkSource
set_option maxRecDepth 20000 in
theorem ggX7_dropped_Jx4a65c_size_8abf5 : GoodIn wsX7_dropped wsJx4a65c_size_8abf5 := goodIn_r _ [19, 20, 53, 54, 55] (by decide +kernel) (by decide +kernel)
set_option maxRecDepth 20000 in
theorem gX7_dropped_Jx4a65c_size_8abf5 : GoodIn wsX7_dropped (wsV RX7 53 RJx4a65c yJx4a65c_size_8abf5 wsJx4a65c_size_8abf5) := goodIn_app (goodIn_of _ (by decide +kernel)) ggX7_dropped_Jx4a65c_size_8abf5
set_option maxRecDepth 20000 in
theorem ggX7_dropped_Jx4a65c_get_915e3 : GoodIn wsX7_dropped wsJx4a65c_get_915e3 := goodIn_r _ [24, 20, 25, 26, 27, 28, 29, 30, 31, 32, 33, 34, 35, 18, 36, 37, 53, 54, 55] (by decide +kernel) (by decide +kernel)
set_option maxRecDepth 20000 in
theorem gX7_dropped_Jx4a65c_get_915e3 : GoodIn wsX7_dropped (wsV RX7 120 RJx4a65c yJx4a65c_get_915e3 wsJx4a65c_get_915e3) := goodIn_app (goodIn_of _ (by decide +kernel)) ggX7_dropped_Jx4a65c_get_915e3
theorem dX7_dropped_0 : decode cX7_dropped 0 = .ok (.iload_n 1, 1) := by decide +kernel
theorem dX7_dropped_1 : decode cX7_dropped 1 = .ok (.invokestatic 116, 3) := by decide +kernel
theorem dX7_dropped_4 : decode cX7_dropped 4 = .ok (.iconst 0, 1) := by decide +kernel
theorem dX7_dropped_5 : decode cX7_dropped 5 = .ok (.istore_n 2, 1) := by decide +kernel
theorem dX7_dropped_6 : decode cX7_dropped 6 = .ok (.iconst 0, 1) := by decide +kernel
theorem dX7_dropped_7 : decode cX7_dropped 7 = .ok (.istore_n 3, 1) := by decide +kernel
theorem dX7_dropped_8 : decode cX7_dropped 8 = .ok (.iload_n 3, 1) := by decide +kernel
theorem dX7_dropped_9 : decode cX7_dropped 9 = .ok (.aload_n 0, 1) := by decide +kernel
theorem dX7_dropped_10 : decode cX7_dropped 10 = .ok (.getfield 10, 3) := by decide +kernel
theorem dX7_dropped_13 : decode cX7_dropped 13 = .ok (.invokevirtual 53, 3) := by decide +kernel
theorem dX7_dropped_16 : decode cX7_dropped 16 = .ok (.if_icmp .ge 44, 3) := by decide +kernel
theorem dX7_dropped_19 : decode cX7_dropped 19 = .ok (.aload_n 0, 1) := by decide +kernel
theorem dX7_dropped_20 : decode cX7_dropped 20 = .ok (.getfield 10, 3) := by decide +kernel
theorem dX7_dropped_23 : decode cX7_dropped 23 = .ok (.iload_n 3, 1) := by decide +kernel
theorem dX7_dropped_24 : decode cX7_dropped 24 = .ok (.invokevirtual 120, 3) := by decide +kernel
theorem dX7_dropped_27 : decode cX7_dropped 27 = .ok (.checkcast 74, 3) := by decide +kernel
theorem dX7_dropped_30 : decode cX7_dropped 30 = .ok (.astore 4, 2) := by decide +kernel
theorem dX7_dropped_32 : decode cX7_dropped 32 = .ok (.aload 4, 2) := by decide +kernel
theorem dX7_dropped_34 : decode cX7_dropped 34 = .ok (.getfield 157, 3) := by decide +kernel
theorem dX7_dropped_37 : decode cX7_dropped 37 = .ok (.iload_n 1, 1) := by decide +kernel
theorem dX7_dropped_38 : decode cX7_dropped 38 = .ok (.if_icmp .ne 16, 3) := by decide +kernel
theorem dX7_dropped_41 : decode cX7_dropped 41 = .ok (.aload 4, 2) := by decide +kernel
theorem dX7_dropped_43 : decode cX7_dropped 43 = .ok (.getfield 103, 3) := by decide +kernel
theorem dX7_dropped_46 : decode cX7_dropped 46 = .ok (.bipush 100, 2) := by decide +kernel
theorem dX7_dropped_48 : decode cX7_dropped 48 = .ok (.if_icmp .ne 6, 3) := by decide +kernel
theorem dX7_dropped_51 : decode cX7_dropped 51 = .ok (.iinc 2 1, 3) := by decide +kernel
theorem dX7_dropped_54 : decode cX7_dropped 54 = .ok (.iinc 3 1, 3) := by decide +kernel
theorem dX7_dropped_57 : decode cX7_dropped 57 = .ok (.goto (-49), 3) := by decide +kernel
theorem dX7_dropped_60 : decode cX7_dropped 60 = .ok (.iload_n 2, 1) := by decide +kernel
theorem dX7_dropped_61 : decode cX7_dropped 61 = .ok (.ireturn, 1) := by decide +kernel
set_option maxRecDepth 20000 in
theorem ggX7_archive_X7_lineNumbered : GoodIn wsX7_archive wsX7_lineNumbered := goodIn_ca (goodIn_r _ [7, 8, 9, 10, 11, 12, 13, 14, 15, 16, 17, 18, 19, 20, 21, 22, 23, 24, 25, 26, 27, 28, 29, 30, 31, 32, 33, 34, 47, 48, 49, 50, 51, 52, 53, 54, 55, 56] (by decide +kernel) (by decide +kernel)) (goodIn_sub (fun _ h => List.mem_cons_of_mem _ (List.mem_append_right _ h)) (by decide +kernel))
set_option maxRecDepth 20000 in
theorem gX7_archive_X7_lineNumbered : GoodIn wsX7_archive (wsV RX7 99 RX7 yX7_lineNumbered wsX7_lineNumbered) := goodIn_app (goodIn_of _ (by decide +kernel)) ggX7_archive_X7_lineNumbered
set_option maxRecDepth 20000 in
theorem ggX7_archive_X7_keptBytes : GoodIn wsX7_archive wsX7_keptBytes := goodIn_r _ [38, 10, 11, 12, 13, 14, 15, 16, 17, 18, 19, 20, 21, 22, 23, 24, 25, 26, 27, 28, 29, 30, 31, 32, 33, 34, 47, 48, 49, 50, 51, 52, 53, 39, 40, 41, 42, 43, 44, 45, 46, 54, 55, 56] (by decide +kernel) (by decide +kernel)
set_option maxRecDepth 20000 in
theorem gX7_archive_X7_keptBytes : GoodIn wsX7_archive (wsV RX7 154 RX7 yX7_keptBytes wsX7_keptBytes) := goodIn_app (goodIn_of _ (by decide +kernel)) ggX7_archive_X7_keptBytes
theorem dX7_archive_0 : decode cX7_archive 0 = .ok (.aload_n 0, 1) := by decide +kernel
theorem dX7_archive_1 : decode cX7_archive 1 = .ok (.iload_n 1, 1) := by decide +kernel
theorem dX7_archive_2 : decode cX7_archive 2 = .ok (.invokevirtual 99, 3) := by decide +kernel
theorem dX7_archive_5 : decode cX7_archive 5 = .ok (.astore_n 2, 1) := by decide +kernel
theorem dX7_archive_6 : decode cX7_archive 6 = .ok (.aload_n 2, 1) := by decide +kernel
theorem dX7_archive_7 : decode cX7_archive 7 = .ok (.getfield 103, 3) := by decide +kernel
theorem dX7_archive_10 : decode cX7_archive 10 = .ok (.bipush 107, 2) := by decide +kernel
theorem dX7_archive_12 : decode cX7_archive 12 = .ok (.if_icmp .eq 13, 3) := by decide +kernel
theorem dX7_archive_15 : decode cX7_archive 15 = .ok (.new 57, 3) := by decide +kernel
theorem dX7_archive_18 : decode cX7_archive 18 = .ok (.dup, 1) := by decide +kernel
theorem dX7_archive_19 : decode cX7_archive 19 = .ok (.ldc 158, 2) := by decide +kernel
theorem dX7_archive_21 : decode cX7_archive 21 = .ok (.invokespecial 61, 3) := by decide +kernel
theorem dX7_archive_24 : decode cX7_archive 24 = .ok (.athrow, 1) := by decide +kernel
theorem dX7_archive_25 : decode cX7_archive 25 = .ok (.aload_n 2, 1) := by decide +kernel
theorem dX7_archive_26 : decode cX7_archive 26 = .ok (.bipush 97, 2) := by decide +kernel
theorem dX7_archive_28 : decode cX7_archive 28 = .ok (.putfield 103, 3) := by decide +kernel
theorem dX7_archive_31 : decode cX7_archive 31 = .ok (.aload_n 0, 1) := by decide +kernel
theorem dX7_archive_32 : decode cX7_archive 32 = .ok (.aload_n 2, 1) := by decide +kernel
theorem dX7_archive_33 : decode cX7_archive 33 = .ok (.getfield 157, 3) := by decide +kernel
theorem dX7_archive_36 : decode cX7_archive 36 = .ok (.invokevirtual 154, 3) := by decide +kernel
theorem dX7_archive_39 : decode cX7_archive 39 = .ok (.ireturn, 1) := by decide +kernel
set_option maxRecDepth 20000 in
theorem ggX7_request_X7_isSource : GoodIn wsX7_request wsX7_isSource := goodIn_r _ [16, 17, 18, 15, 19] (by decide +kernel) (by decide +kernel)
set_option maxRecDepth 20000 in
theorem gX7_request_X7_isSource : GoodIn wsX7_request (va_wsS RX7 32 yX7_isSource wsX7_isSource) := goodIn_app (goodIn_of _ (by decide +kernel)) ggX7_request_X7_isSource
set_option maxRecDepth 20000 in
theorem ggX7_request_X7_isRank : GoodIn wsX7_request wsX7_isRank := goodIn_r _ [22, 17, 18, 15, 19] (by decide +kernel) (by decide +kernel)
set_option maxRecDepth 20000 in
theorem gX7_request_X7_isRank : GoodIn wsX7_request (va_wsS RX7 36 yX7_isRank wsX7_isRank) := goodIn_app (goodIn_of _ (by decide +kernel)) ggX7_request_X7_isRank
set_option maxRecDepth 20000 in
theorem ggX7_request_Jx4a65c_size_8abf5 : GoodIn wsX7_request wsJx4a65c_size_8abf5 := goodIn_r _ [27, 28, 144, 145, 146] (by decide +kernel) (by decide +kernel)
set_option maxRecDepth 20000 in
theorem gX7_request_Jx4a65c_size_8abf5 : GoodIn wsX7_request (wsV RX7 53 RJx4a65c yJx4a65c_size_8abf5 wsJx4a65c_size_8abf5) := goodIn_app (goodIn_of _ (by decide +kernel)) ggX7_request_Jx4a65c_size_8abf5
set_option maxRecDepth 20000 in
theorem ggX7_request_X1_init : GoodIn wsX7_request wsX1_init := goodIn_r _ [30, 31, 32, 33, 34, 35, 36, 37, 136, 137, 138, 139] (by decide +kernel) (by decide +kernel)
set_option maxRecDepth 20000 in
theorem gX7_request_X1_init_n166 : GoodIn wsX7_request (wsX1_init) := ggX7_request_X1_init
set_option maxRecDepth 20000 in
theorem ggX7_request_X7_archivedLines : GoodIn wsX7_request wsX7_archivedLines := goodIn_r _ [41, 42, 43, 23, 24, 25, 26, 27, 28, 44, 45, 46, 47, 48, 49, 50, 51, 52, 53, 54, 55, 56, 57, 58, 59, 60, 61, 8, 62, 63, 34, 35, 36, 37, 64, 65, 66, 67, 68, 69, 70, 129, 130, 131, 132, 133, 134, 135, 147, 148, 149, 150, 151, 152, 153, 154, 144, 145, 146, 136, 137, 138, 139, 155, 156, 157] (by decide +kernel) (by decide +kernel)
set_option maxRecDepth 20000 in
theorem gX7_request_X7_archivedLines : GoodIn wsX7_request (wsV RX7 169 RX7 yX7_archivedLines wsX7_archivedLines) := goodIn_app (goodIn_of _ (by decide +kernel)) ggX7_request_X7_archivedLines
set_option maxRecDepth 20000 in
theorem ggX7_request_X5_init : GoodIn wsX7_request wsX5_init := goodIn_r _ [72, 73, 32, 33, 74, 75, 140, 141, 142, 143] (by decide +kernel) (by decide +kernel)
set_option maxRecDepth 20000 in
theorem gX7_request_X5_init_n175 : GoodIn wsX7_request (wsX5_init) := ggX7_request_X5_init
set_option maxRecDepth 20000 in
theorem ggX7_request_Jx4a65c_add_9ea2d : GoodIn wsX7_request wsJx4a65c_add_9ea2d := goodIn_r _ [79, 80, 81, 60, 28, 82, 83, 84, 26, 85, 86, 87, 88, 89, 90, 91, 92, 93, 94, 95, 96, 97, 98, 99, 100, 101, 102, 103, 104, 105, 106, 107, 108, 109, 110, 111, 112, 113, 114, 115, 116, 117, 118, 119, 120, 121, 122, 123, 124, 125, 126, 127, 128, 144, 145, 146] (by decide +kernel) (by decide +kernel)
set_option maxRecDepth 20000 in
theorem gX7_request_Jx4a65c_add_9ea2d : GoodIn wsX7_request (wsV RX7 83 RJx4a65c yJx4a65c_add_9ea2d wsJx4a65c_add_9ea2d) := goodIn_app (goodIn_of _ (by decide +kernel)) ggX7_request_Jx4a65c_add_9ea2d
theorem dX7_request_0 : decode cX7_request 0 = .ok (.iload_n 1, 1) := by decide +kernel
theorem dX7_request_1 : decode cX7_request 1 = .ok (.invokestatic 32, 3) := by decide +kernel
theorem dX7_request_4 : decode cX7_request 4 = .ok (.ifCond .eq 10, 3) := by decide +kernel
theorem dX7_request_7 : decode cX7_request 7 = .ok (.iload_n 2, 1) := by decide +kernel
theorem dX7_request_8 : decode cX7_request 8 = .ok (.invokestatic 36, 3) := by decide +kernel
theorem dX7_request_11 : decode cX7_request 11 = .ok (.ifCond .ne 13, 3) := by decide +kernel
theorem dX7_request_14 : decode cX7_request 14 = .ok (.new 46, 3) := by decide +kernel
theorem dX7_request_17 : decode cX7_request 17 = .ok (.dup, 1) := by decide +kernel
theorem dX7_request_18 : decode cX7_request 18 = .ok (.ldc 160, 2) := by decide +kernel
theorem dX7_request_20 : decode cX7_request 20 = .ok (.invokespecial 50, 3) := by decide +kernel
theorem dX7_request_23 : decode cX7_request 23 = .ok (.athrow, 1) := by decide +kernel
theorem dX7_request_24 : decode cX7_request 24 = .ok (.aload_n 0, 1) := by decide +kernel
theorem dX7_request_25 : decode cX7_request 25 = .ok (.getfield 25, 3) := by decide +kernel
theorem dX7_request_28 : decode cX7_request 28 = .ok (.invokevirtual 53, 3) := by decide +kernel
theorem dX7_request_31 : decode cX7_request 31 = .ok (.bipush 20, 2) := by decide +kernel
theorem dX7_request_33 : decode cX7_request 33 = .ok (.if_icmp .lt 13, 3) := by decide +kernel
theorem dX7_request_36 : decode cX7_request 36 = .ok (.new 57, 3) := by decide +kernel
theorem dX7_request_39 : decode cX7_request 39 = .ok (.dup, 1) := by decide +kernel
theorem dX7_request_40 : decode cX7_request 40 = .ok (.ldc 162, 2) := by decide +kernel
theorem dX7_request_42 : decode cX7_request 42 = .ok (.invokespecial 61, 3) := by decide +kernel
theorem dX7_request_45 : decode cX7_request 45 = .ok (.athrow, 1) := by decide +kernel
theorem dX7_request_46 : decode cX7_request 46 = .ok (.aload_n 0, 1) := by decide +kernel
theorem dX7_request_47 : decode cX7_request 47 = .ok (.new 164, 3) := by decide +kernel
theorem dX7_request_50 : decode cX7_request 50 = .ok (.dup, 1) := by decide +kernel
theorem dX7_request_51 : decode cX7_request 51 = .ok (.iload_n 1, 1) := by decide +kernel
theorem dX7_request_52 : decode cX7_request 52 = .ok (.iconst 0, 1) := by decide +kernel
theorem dX7_request_53 : decode cX7_request 53 = .ok (.iconst (-1), 1) := by decide +kernel
theorem dX7_request_54 : decode cX7_request 54 = .ok (.iconst 0, 1) := by decide +kernel
theorem dX7_request_55 : decode cX7_request 55 = .ok (.invokespecial 166, 3) := by decide +kernel
theorem dX7_request_58 : decode cX7_request 58 = .ok (.invokevirtual 169, 3) := by decide +kernel
theorem dX7_request_61 : decode cX7_request 61 = .ok (.istore_n 3, 1) := by decide +kernel
theorem dX7_request_62 : decode cX7_request 62 = .ok (.aload_n 0, 1) := by decide +kernel
theorem dX7_request_63 : decode cX7_request 63 = .ok (.getfield 76, 3) := by decide +kernel
theorem dX7_request_66 : decode cX7_request 66 = .ok (.iconst 2, 1) := by decide +kernel
theorem dX7_request_67 : decode cX7_request 67 = .ok (.iadd, 1) := by decide +kernel
theorem dX7_request_68 : decode cX7_request 68 = .ok (.iload_n 3, 1) := by decide +kernel
theorem dX7_request_69 : decode cX7_request 69 = .ok (.iconst 3, 1) := by decide +kernel
theorem dX7_request_70 : decode cX7_request 70 = .ok (.idiv, 1) := by decide +kernel
theorem dX7_request_71 : decode cX7_request 71 = .ok (.iadd, 1) := by decide +kernel
theorem dX7_request_72 : decode cX7_request 72 = .ok (.istore 4, 2) := by decide +kernel
theorem dX7_request_74 : decode cX7_request 74 = .ok (.aload_n 0, 1) := by decide +kernel
theorem dX7_request_75 : decode cX7_request 75 = .ok (.getfield 25, 3) := by decide +kernel
theorem dX7_request_78 : decode cX7_request 78 = .ok (.new 173, 3) := by decide +kernel
theorem dX7_request_81 : decode cX7_request 81 = .ok (.dup, 1) := by decide +kernel
theorem dX7_request_82 : decode cX7_request 82 = .ok (.new 164, 3) := by decide +kernel
theorem dX7_request_85 : decode cX7_request 85 = .ok (.dup, 1) := by decide +kernel
theorem dX7_request_86 : decode cX7_request 86 = .ok (.iload_n 1, 1) := by decide +kernel
theorem dX7_request_87 : decode cX7_request 87 = .ok (.iload_n 2, 1) := by decide +kernel
theorem dX7_request_88 : decode cX7_request 88 = .ok (.iconst (-1), 1) := by decide +kernel
theorem dX7_request_89 : decode cX7_request 89 = .ok (.iconst 0, 1) := by decide +kernel
theorem dX7_request_90 : decode cX7_request 90 = .ok (.invokespecial 166, 3) := by decide +kernel
theorem dX7_request_93 : decode cX7_request 93 = .ok (.iload 4, 2) := by decide +kernel
theorem dX7_request_95 : decode cX7_request 95 = .ok (.invokespecial 175, 3) := by decide +kernel
theorem dX7_request_98 : decode cX7_request 98 = .ok (.invokevirtual 83, 3) := by decide +kernel
theorem dX7_request_101 : decode cX7_request 101 = .ok (.pop, 1) := by decide +kernel
theorem dX7_request_102 : decode cX7_request 102 = .ok (.aload_n 0, 1) := by decide +kernel
theorem dX7_request_103 : decode cX7_request 103 = .ok (.getfield 25, 3) := by decide +kernel
theorem dX7_request_106 : decode cX7_request 106 = .ok (.invokevirtual 53, 3) := by decide +kernel
theorem dX7_request_109 : decode cX7_request 109 = .ok (.iconst 1, 1) := by decide +kernel
theorem dX7_request_110 : decode cX7_request 110 = .ok (.isub, 1) := by decide +kernel
theorem dX7_request_111 : decode cX7_request 111 = .ok (.ireturn, 1) := by decide +kernel
set_option maxRecDepth 20000 in
theorem ggX7_answer_Jx4a65c_size_8abf5 : GoodIn wsX7_answer wsJx4a65c_size_8abf5 := goodIn_r _ [11, 12, 41, 42, 43] (by decide +kernel) (by decide +kernel)
set_option maxRecDepth 20000 in
theorem gX7_answer_Jx4a65c_size_8abf5 : GoodIn wsX7_answer (wsV RX7 53 RJx4a65c yJx4a65c_size_8abf5 wsJx4a65c_size_8abf5) := goodIn_app (goodIn_of _ (by decide +kernel)) ggX7_answer_Jx4a65c_size_8abf5
set_option maxRecDepth 20000 in
theorem ggX7_answer_Jx4a65c_get_915e3 : GoodIn wsX7_answer wsJx4a65c_get_915e3 := goodIn_r _ [16, 12, 17, 18, 19, 20, 21, 22, 23, 24, 25, 26, 27, 10, 28, 29, 41, 42, 43] (by decide +kernel) (by decide +kernel)
set_option maxRecDepth 20000 in
theorem gX7_answer_Jx4a65c_get_915e3 : GoodIn wsX7_answer (wsV RX7 120 RJx4a65c yJx4a65c_get_915e3 wsJx4a65c_get_915e3) := goodIn_app (goodIn_of _ (by decide +kernel)) ggX7_answer_Jx4a65c_get_915e3
theorem dX7_answer_0 : decode cX7_answer 0 = .ok (.iload_n 1, 1) := by decide +kernel
theorem dX7_answer_1 : decode cX7_answer 1 = .ok (.ifCond .lt 14, 3) := by decide +kernel
theorem dX7_answer_4 : decode cX7_answer 4 = .ok (.iload_n 1, 1) := by decide +kernel
theorem dX7_answer_5 : decode cX7_answer 5 = .ok (.aload_n 0, 1) := by decide +kernel
theorem dX7_answer_6 : decode cX7_answer 6 = .ok (.getfield 25, 3) := by decide +kernel
theorem dX7_answer_9 : decode cX7_answer 9 = .ok (.invokevirtual 53, 3) := by decide +kernel
theorem dX7_answer_12 : decode cX7_answer 12 = .ok (.if_icmp .lt 13, 3) := by decide +kernel
theorem dX7_answer_15 : decode cX7_answer 15 = .ok (.new 178, 3) := by decide +kernel
theorem dX7_answer_18 : decode cX7_answer 18 = .ok (.dup, 1) := by decide +kernel
theorem dX7_answer_19 : decode cX7_answer 19 = .ok (.ldc 180, 2) := by decide +kernel
theorem dX7_answer_21 : decode cX7_answer 21 = .ok (.invokespecial 182, 3) := by decide +kernel
theorem dX7_answer_24 : decode cX7_answer 24 = .ok (.athrow, 1) := by decide +kernel
theorem dX7_answer_25 : decode cX7_answer 25 = .ok (.aload_n 0, 1) := by decide +kernel
theorem dX7_answer_26 : decode cX7_answer 26 = .ok (.getfield 25, 3) := by decide +kernel
theorem dX7_answer_29 : decode cX7_answer 29 = .ok (.iload_n 1, 1) := by decide +kernel
theorem dX7_answer_30 : decode cX7_answer 30 = .ok (.invokevirtual 120, 3) := by decide +kernel
theorem dX7_answer_33 : decode cX7_answer 33 = .ok (.checkcast 173, 3) := by decide +kernel
theorem dX7_answer_36 : decode cX7_answer 36 = .ok (.astore_n 2, 1) := by decide +kernel
theorem dX7_answer_37 : decode cX7_answer 37 = .ok (.aload_n 2, 1) := by decide +kernel
theorem dX7_answer_38 : decode cX7_answer 38 = .ok (.getfield 183, 3) := by decide +kernel
theorem dX7_answer_41 : decode cX7_answer 41 = .ok (.ifCond .ne 13, 3) := by decide +kernel
theorem dX7_answer_44 : decode cX7_answer 44 = .ok (.new 57, 3) := by decide +kernel
theorem dX7_answer_47 : decode cX7_answer 47 = .ok (.dup, 1) := by decide +kernel
theorem dX7_answer_48 : decode cX7_answer 48 = .ok (.ldc 186, 2) := by decide +kernel
theorem dX7_answer_50 : decode cX7_answer 50 = .ok (.invokespecial 61, 3) := by decide +kernel
theorem dX7_answer_53 : decode cX7_answer 53 = .ok (.athrow, 1) := by decide +kernel
theorem dX7_answer_54 : decode cX7_answer 54 = .ok (.aload_n 2, 1) := by decide +kernel
theorem dX7_answer_55 : decode cX7_answer 55 = .ok (.getfield 188, 3) := by decide +kernel
theorem dX7_answer_58 : decode cX7_answer 58 = .ok (.ireturn, 1) := by decide +kernel
set_option maxRecDepth 20000 in
theorem ggX7_addAlert_X7_isSource : GoodIn wsX7_addAlert wsX7_isSource := goodIn_r _ [17, 18, 19, 16, 20] (by decide +kernel) (by decide +kernel)
set_option maxRecDepth 20000 in
theorem gX7_addAlert_X7_isSource : GoodIn wsX7_addAlert (va_wsS RX7 32 yX7_isSource wsX7_isSource) := goodIn_app (goodIn_of _ (by decide +kernel)) ggX7_addAlert_X7_isSource
set_option maxRecDepth 20000 in
theorem ggX7_addAlert_X7_isRank : GoodIn wsX7_addAlert wsX7_isRank := goodIn_r _ [23, 18, 19, 16, 20] (by decide +kernel) (by decide +kernel)
set_option maxRecDepth 20000 in
theorem gX7_addAlert_X7_isRank : GoodIn wsX7_addAlert (va_wsS RX7 36 yX7_isRank wsX7_isRank) := goodIn_app (goodIn_of _ (by decide +kernel)) ggX7_addAlert_X7_isRank
set_option maxRecDepth 20000 in
theorem ggX7_addAlert_X7_isWithin : GoodIn wsX7_addAlert wsX7_isWithin := goodIn_r _ [20] (by decide +kernel) (by decide +kernel)
set_option maxRecDepth 20000 in
theorem gX7_addAlert_X7_isWithin : GoodIn wsX7_addAlert (va_wsS RX7 42 yX7_isWithin wsX7_isWithin) := goodIn_app (goodIn_of _ (by decide +kernel)) ggX7_addAlert_X7_isWithin
set_option maxRecDepth 20000 in
theorem ggX7_addAlert_X7_isWord : GoodIn wsX7_addAlert wsX7_isWord := goodIn_r _ [26, 18, 19, 16, 20] (by decide +kernel) (by decide +kernel)
set_option maxRecDepth 20000 in
theorem gX7_addAlert_X7_isWord : GoodIn wsX7_addAlert (va_wsS RX7 39 yX7_isWord wsX7_isWord) := goodIn_app (goodIn_of _ (by decide +kernel)) ggX7_addAlert_X7_isWord
set_option maxRecDepth 20000 in
theorem ggX7_addAlert_Jx4a65c_size_8abf5 : GoodIn wsX7_addAlert wsJx4a65c_size_8abf5 := goodIn_r _ [31, 32, 191, 192, 193] (by decide +kernel) (by decide +kernel)
set_option maxRecDepth 20000 in
theorem gX7_addAlert_Jx4a65c_size_8abf5 : GoodIn wsX7_addAlert (wsV RX7 53 RJx4a65c yJx4a65c_size_8abf5 wsJx4a65c_size_8abf5) := goodIn_app (goodIn_of _ (by decide +kernel)) ggX7_addAlert_Jx4a65c_size_8abf5
set_option maxRecDepth 20000 in
theorem ggX7_addAlert_X1_init : GoodIn wsX7_addAlert wsX1_init := goodIn_r _ [34, 35, 36, 37, 38, 39, 40, 41, 187, 188, 189, 190] (by decide +kernel) (by decide +kernel)
set_option maxRecDepth 20000 in
theorem gX7_addAlert_X1_init_n166 : GoodIn wsX7_addAlert (wsX1_init) := ggX7_addAlert_X1_init
set_option maxRecDepth 20000 in
theorem ggX7_addAlert_X0_init : GoodIn wsX7_addAlert wsX0_init := goodIn_r _ [43, 44, 36, 37, 45, 46, 47, 48, 49, 50, 178, 179, 180, 181, 182, 183, 184, 185, 186] (by decide +kernel) (by decide +kernel)
set_option maxRecDepth 20000 in
theorem gX7_addAlert_X0_init_n197 : GoodIn wsX7_addAlert (wsX0_init) := ggX7_addAlert_X0_init
set_option maxRecDepth 20000 in
theorem ggX7_addAlert_Jx4a65c_add_9ea2d : GoodIn wsX7_addAlert wsJx4a65c_add_9ea2d := goodIn_r _ [54, 55, 56, 57, 32, 58, 59, 60, 30, 61, 62, 63, 64, 65, 66, 67, 68, 69, 70, 71, 72, 73, 74, 75, 76, 77, 78, 79, 80, 81, 82, 83, 84, 85, 86, 87, 88, 89, 90, 91, 92, 93, 94, 95, 96, 97, 98, 99, 100, 101, 102, 103, 104, 191, 192, 193] (by decide +kernel) (by decide +kernel)
set_option maxRecDepth 20000 in
theorem gX7_addAlert_Jx4a65c_add_9ea2d : GoodIn wsX7_addAlert (wsV RX7 83 RJx4a65c yJx4a65c_add_9ea2d wsJx4a65c_add_9ea2d) := goodIn_app (goodIn_of _ (by decide +kernel)) ggX7_addAlert_Jx4a65c_add_9ea2d
set_option maxRecDepth 20000 in
theorem ggX7_addAlert_Jx4a65c_get_915e3 : GoodIn wsX7_addAlert wsJx4a65c_get_915e3 := goodIn_r _ [108, 32, 109, 110, 111, 112, 113, 114, 115, 116, 117, 118, 119, 30, 120, 57, 191, 192, 193] (by decide +kernel) (by decide +kernel)
set_option maxRecDepth 20000 in
theorem gX7_addAlert_Jx4a65c_get_915e3 : GoodIn wsX7_addAlert (wsV RX7 120 RJx4a65c yJx4a65c_get_915e3 wsJx4a65c_get_915e3) := goodIn_app (goodIn_of _ (by decide +kernel)) ggX7_addAlert_Jx4a65c_get_915e3
set_option maxRecDepth 20000 in
theorem ggX7_addAlert_X7_countIfDue : GoodIn wsX7_addAlert wsX7_countIfDue := goodIn_r _ [124, 125, 126, 8, 127, 128, 49, 47, 129, 130, 131, 132, 133, 134, 11, 135, 136, 38, 39, 40, 41, 137, 138, 139, 140, 141, 142, 143, 171, 172, 173, 174, 175, 176, 177, 178, 179, 180, 181, 182, 183, 184, 185, 186, 194, 195, 196, 197, 198, 199, 200, 201, 187, 188, 189, 190, 202, 203, 204] (by decide +kernel) (by decide +kernel)
set_option maxRecDepth 20000 in
theorem gX7_addAlert_X7_countIfDue : GoodIn wsX7_addAlert (wsV RX7 200 RX7 yX7_countIfDue wsX7_countIfDue) := goodIn_app (goodIn_of _ (by decide +kernel)) ggX7_addAlert_X7_countIfDue
set_option maxRecDepth 20000 in
theorem ggX7_addAlert_X7_lookAtAlert : GoodIn wsX7_addAlert wsX7_lookAtAlert := goodIn_ca (goodIn_r _ [147, 148, 149, 150, 125, 151, 152, 153, 154, 36, 37, 155, 156, 157, 158, 51, 52, 53, 30, 54, 55, 56, 57, 32, 58, 59, 60, 61, 62, 63, 64, 65, 66, 67, 68, 69, 70, 71, 72, 73, 74, 75, 76, 77, 78, 79, 80, 81, 82, 83, 84, 85, 86, 87, 88, 89, 90, 91, 92, 93, 94, 95, 96, 97, 98, 99, 100, 101, 102, 103, 104, 159, 160, 161, 16, 162, 12, 13, 27, 28, 29, 31, 105, 106, 107, 108, 109, 110, 111, 112, 113, 114, 115, 116, 117, 118, 119, 120, 129, 130, 131, 132, 133, 126, 8, 127, 128, 49, 47, 134, 11, 135, 136, 38, 39, 40, 41, 137, 138, 139, 140, 141, 142, 143, 163, 164, 165, 166, 167, 168, 169, 170, 178, 179, 180, 181, 182, 183, 184, 185, 186, 205, 206, 207, 208, 209, 171, 172, 173, 174, 175, 176, 177, 191, 192, 193, 194, 195, 196, 197, 198, 199, 200, 201, 187, 188, 189, 190, 202, 203, 204] (by decide +kernel) (by decide +kernel)) (goodIn_sub (fun _ h => List.mem_cons_of_mem _ (List.mem_append_right _ h)) (by decide +kernel))
set_option maxRecDepth 20000 in
theorem gX7_addAlert_X7_lookAtAlert : GoodIn wsX7_addAlert (wsV RX7 204 RX7 yX7_lookAtAlert wsX7_lookAtAlert) := goodIn_app (goodIn_of _ (by decide +kernel)) ggX7_addAlert_X7_lookAtAlert
theorem dX7_addAlert_0 : decode cX7_addAlert 0 = .ok (.iload_n 1, 1) := by decide +kernel
theorem dX7_addAlert_1 : decode cX7_addAlert 1 = .ok (.invokestatic 32, 3) := by decide +kernel
theorem dX7_addAlert_4 : decode cX7_addAlert 4 = .ok (.ifCond .eq 60, 3) := by decide +kernel
theorem dX7_addAlert_7 : decode cX7_addAlert 7 = .ok (.iload_n 2, 1) := by decide +kernel
theorem dX7_addAlert_8 : decode cX7_addAlert 8 = .ok (.invokestatic 36, 3) := by decide +kernel
theorem dX7_addAlert_11 : decode cX7_addAlert 11 = .ok (.ifCond .eq 53, 3) := by decide +kernel
theorem dX7_addAlert_14 : decode cX7_addAlert 14 = .ok (.iload_n 3, 1) := by decide +kernel
theorem dX7_addAlert_15 : decode cX7_addAlert 15 = .ok (.iconst (-1), 1) := by decide +kernel
theorem dX7_addAlert_16 : decode cX7_addAlert 16 = .ok (.iconst 2, 1) := by decide +kernel
theorem dX7_addAlert_17 : decode cX7_addAlert 17 = .ok (.invokestatic 42, 3) := by decide +kernel
theorem dX7_addAlert_20 : decode cX7_addAlert 20 = .ok (.ifCond .eq 44, 3) := by decide +kernel
theorem dX7_addAlert_23 : decode cX7_addAlert 23 = .ok (.iload 4, 2) := by decide +kernel
theorem dX7_addAlert_25 : decode cX7_addAlert 25 = .ok (.invokestatic 39, 3) := by decide +kernel
theorem dX7_addAlert_28 : decode cX7_addAlert 28 = .ok (.ifCond .eq 36, 3) := by decide +kernel
theorem dX7_addAlert_31 : decode cX7_addAlert 31 = .ok (.iload 5, 2) := by decide +kernel
theorem dX7_addAlert_33 : decode cX7_addAlert 33 = .ok (.iconst 1, 1) := by decide +kernel
theorem dX7_addAlert_34 : decode cX7_addAlert 34 = .ok (.bipush 9, 2) := by decide +kernel
theorem dX7_addAlert_36 : decode cX7_addAlert 36 = .ok (.invokestatic 42, 3) := by decide +kernel
theorem dX7_addAlert_39 : decode cX7_addAlert 39 = .ok (.ifCond .eq 25, 3) := by decide +kernel
theorem dX7_addAlert_42 : decode cX7_addAlert 42 = .ok (.iload 6, 2) := by decide +kernel
theorem dX7_addAlert_44 : decode cX7_addAlert 44 = .ok (.iconst 1, 1) := by decide +kernel
theorem dX7_addAlert_45 : decode cX7_addAlert 45 = .ok (.bipush 50, 2) := by decide +kernel
theorem dX7_addAlert_47 : decode cX7_addAlert 47 = .ok (.invokestatic 42, 3) := by decide +kernel
theorem dX7_addAlert_50 : decode cX7_addAlert 50 = .ok (.ifCond .eq 14, 3) := by decide +kernel
theorem dX7_addAlert_53 : decode cX7_addAlert 53 = .ok (.iload 7, 2) := by decide +kernel
theorem dX7_addAlert_55 : decode cX7_addAlert 55 = .ok (.iconst 0, 1) := by decide +kernel
theorem dX7_addAlert_56 : decode cX7_addAlert 56 = .ok (.bipush 20, 2) := by decide +kernel
theorem dX7_addAlert_58 : decode cX7_addAlert 58 = .ok (.invokestatic 42, 3) := by decide +kernel
theorem dX7_addAlert_61 : decode cX7_addAlert 61 = .ok (.ifCond .ne 13, 3) := by decide +kernel
theorem dX7_addAlert_64 : decode cX7_addAlert 64 = .ok (.new 46, 3) := by decide +kernel
theorem dX7_addAlert_67 : decode cX7_addAlert 67 = .ok (.dup, 1) := by decide +kernel
theorem dX7_addAlert_68 : decode cX7_addAlert 68 = .ok (.ldc 191, 2) := by decide +kernel
theorem dX7_addAlert_70 : decode cX7_addAlert 70 = .ok (.invokespecial 50, 3) := by decide +kernel
theorem dX7_addAlert_73 : decode cX7_addAlert 73 = .ok (.athrow, 1) := by decide +kernel
theorem dX7_addAlert_74 : decode cX7_addAlert 74 = .ok (.aload_n 0, 1) := by decide +kernel
theorem dX7_addAlert_75 : decode cX7_addAlert 75 = .ok (.getfield 19, 3) := by decide +kernel
theorem dX7_addAlert_78 : decode cX7_addAlert 78 = .ok (.invokevirtual 53, 3) := by decide +kernel
theorem dX7_addAlert_81 : decode cX7_addAlert 81 = .ok (.bipush 6, 2) := by decide +kernel
theorem dX7_addAlert_83 : decode cX7_addAlert 83 = .ok (.if_icmp .lt 13, 3) := by decide +kernel
theorem dX7_addAlert_86 : decode cX7_addAlert 86 = .ok (.new 57, 3) := by decide +kernel
theorem dX7_addAlert_89 : decode cX7_addAlert 89 = .ok (.dup, 1) := by decide +kernel
theorem dX7_addAlert_90 : decode cX7_addAlert 90 = .ok (.ldc 193, 2) := by decide +kernel
theorem dX7_addAlert_92 : decode cX7_addAlert 92 = .ok (.invokespecial 61, 3) := by decide +kernel
theorem dX7_addAlert_95 : decode cX7_addAlert 95 = .ok (.athrow, 1) := by decide +kernel
theorem dX7_addAlert_96 : decode cX7_addAlert 96 = .ok (.aload_n 0, 1) := by decide +kernel
theorem dX7_addAlert_97 : decode cX7_addAlert 97 = .ok (.getfield 19, 3) := by decide +kernel
theorem dX7_addAlert_100 : decode cX7_addAlert 100 = .ok (.invokevirtual 53, 3) := by decide +kernel
theorem dX7_addAlert_103 : decode cX7_addAlert 103 = .ok (.istore 8, 2) := by decide +kernel
theorem dX7_addAlert_105 : decode cX7_addAlert 105 = .ok (.new 195, 3) := by decide +kernel
theorem dX7_addAlert_108 : decode cX7_addAlert 108 = .ok (.dup, 1) := by decide +kernel
theorem dX7_addAlert_109 : decode cX7_addAlert 109 = .ok (.iload 8, 2) := by decide +kernel
theorem dX7_addAlert_111 : decode cX7_addAlert 111 = .ok (.new 164, 3) := by decide +kernel
theorem dX7_addAlert_114 : decode cX7_addAlert 114 = .ok (.dup, 1) := by decide +kernel
theorem dX7_addAlert_115 : decode cX7_addAlert 115 = .ok (.iload_n 1, 1) := by decide +kernel
theorem dX7_addAlert_116 : decode cX7_addAlert 116 = .ok (.iload_n 2, 1) := by decide +kernel
theorem dX7_addAlert_117 : decode cX7_addAlert 117 = .ok (.iload_n 3, 1) := by decide +kernel
theorem dX7_addAlert_118 : decode cX7_addAlert 118 = .ok (.iload 4, 2) := by decide +kernel
theorem dX7_addAlert_120 : decode cX7_addAlert 120 = .ok (.invokespecial 166, 3) := by decide +kernel
theorem dX7_addAlert_123 : decode cX7_addAlert 123 = .ok (.iload 5, 2) := by decide +kernel
theorem dX7_addAlert_125 : decode cX7_addAlert 125 = .ok (.iload 6, 2) := by decide +kernel
theorem dX7_addAlert_127 : decode cX7_addAlert 127 = .ok (.iload 7, 2) := by decide +kernel
theorem dX7_addAlert_129 : decode cX7_addAlert 129 = .ok (.invokespecial 197, 3) := by decide +kernel
theorem dX7_addAlert_132 : decode cX7_addAlert 132 = .ok (.astore 9, 2) := by decide +kernel
theorem dX7_addAlert_134 : decode cX7_addAlert 134 = .ok (.aload_n 0, 1) := by decide +kernel
theorem dX7_addAlert_135 : decode cX7_addAlert 135 = .ok (.getfield 19, 3) := by decide +kernel
theorem dX7_addAlert_138 : decode cX7_addAlert 138 = .ok (.aload 9, 2) := by decide +kernel
theorem dX7_addAlert_140 : decode cX7_addAlert 140 = .ok (.invokevirtual 83, 3) := by decide +kernel
theorem dX7_addAlert_143 : decode cX7_addAlert 143 = .ok (.pop, 1) := by decide +kernel
theorem dX7_addAlert_144 : decode cX7_addAlert 144 = .ok (.iconst 0, 1) := by decide +kernel
theorem dX7_addAlert_145 : decode cX7_addAlert 145 = .ok (.istore 10, 2) := by decide +kernel
theorem dX7_addAlert_147 : decode cX7_addAlert 147 = .ok (.iload 10, 2) := by decide +kernel
theorem dX7_addAlert_149 : decode cX7_addAlert 149 = .ok (.aload_n 0, 1) := by decide +kernel
theorem dX7_addAlert_150 : decode cX7_addAlert 150 = .ok (.getfield 10, 3) := by decide +kernel
theorem dX7_addAlert_153 : decode cX7_addAlert 153 = .ok (.invokevirtual 53, 3) := by decide +kernel
theorem dX7_addAlert_156 : decode cX7_addAlert 156 = .ok (.if_icmp .ge 27, 3) := by decide +kernel
theorem dX7_addAlert_159 : decode cX7_addAlert 159 = .ok (.aload_n 0, 1) := by decide +kernel
theorem dX7_addAlert_160 : decode cX7_addAlert 160 = .ok (.aload 9, 2) := by decide +kernel
theorem dX7_addAlert_162 : decode cX7_addAlert 162 = .ok (.aload_n 0, 1) := by decide +kernel
theorem dX7_addAlert_163 : decode cX7_addAlert 163 = .ok (.getfield 10, 3) := by decide +kernel
theorem dX7_addAlert_166 : decode cX7_addAlert 166 = .ok (.iload 10, 2) := by decide +kernel
theorem dX7_addAlert_168 : decode cX7_addAlert 168 = .ok (.invokevirtual 120, 3) := by decide +kernel
theorem dX7_addAlert_171 : decode cX7_addAlert 171 = .ok (.checkcast 74, 3) := by decide +kernel
theorem dX7_addAlert_174 : decode cX7_addAlert 174 = .ok (.invokevirtual 200, 3) := by decide +kernel
theorem dX7_addAlert_177 : decode cX7_addAlert 177 = .ok (.iinc 10 1, 3) := by decide +kernel
theorem dX7_addAlert_180 : decode cX7_addAlert 180 = .ok (.goto (-33), 3) := by decide +kernel
theorem dX7_addAlert_183 : decode cX7_addAlert 183 = .ok (.aload_n 0, 1) := by decide +kernel
theorem dX7_addAlert_184 : decode cX7_addAlert 184 = .ok (.aload 9, 2) := by decide +kernel
theorem dX7_addAlert_186 : decode cX7_addAlert 186 = .ok (.invokevirtual 204, 3) := by decide +kernel
theorem dX7_addAlert_189 : decode cX7_addAlert 189 = .ok (.iload 8, 2) := by decide +kernel
theorem dX7_addAlert_191 : decode cX7_addAlert 191 = .ok (.ireturn, 1) := by decide +kernel
set_option maxRecDepth 20000 in
theorem ggX7_alertState_X7_alertNumbered : GoodIn wsX7_alertState wsX7_alertNumbered := goodIn_ca (goodIn_r _ [5, 6, 7, 8, 9, 10, 11, 12, 13, 14, 15, 16, 17, 18, 19, 20, 21, 22, 23, 24, 25, 26, 27, 28, 29, 30, 31, 32, 42, 43, 44, 45, 46, 47, 48, 49, 50, 51] (by decide +kernel) (by decide +kernel)) (goodIn_sub (fun _ h => List.mem_cons_of_mem _ (List.mem_append_right _ h)) (by decide +kernel))
set_option maxRecDepth 20000 in
theorem gX7_alertState_X7_alertNumbered : GoodIn wsX7_alertState (wsV RX7 208 RX7 yX7_alertNumbered wsX7_alertNumbered) := goodIn_app (goodIn_of _ (by decide +kernel)) ggX7_alertState_X7_alertNumbered
theorem dX7_alertState_0 : decode cX7_alertState 0 = .ok (.aload_n 0, 1) := by decide +kernel
theorem dX7_alertState_1 : decode cX7_alertState 1 = .ok (.iload_n 1, 1) := by decide +kernel
theorem dX7_alertState_2 : decode cX7_alertState 2 = .ok (.invokevirtual 208, 3) := by decide +kernel
theorem dX7_alertState_5 : decode cX7_alertState 5 = .ok (.getfield 212, 3) := by decide +kernel
theorem dX7_alertState_8 : decode cX7_alertState 8 = .ok (.ireturn, 1) := by decide +kernel
set_option maxRecDepth 20000 in
theorem ggX7_counted_X7_alertNumbered : GoodIn wsX7_counted wsX7_alertNumbered := goodIn_ca (goodIn_r _ [5, 6, 7, 8, 9, 10, 11, 12, 13, 14, 15, 16, 17, 18, 19, 20, 21, 22, 23, 24, 25, 26, 27, 28, 29, 30, 31, 32, 42, 43, 44, 45, 46, 47, 48, 49, 50, 51] (by decide +kernel) (by decide +kernel)) (goodIn_sub (fun _ h => List.mem_cons_of_mem _ (List.mem_append_right _ h)) (by decide +kernel))
set_option maxRecDepth 20000 in
theorem gX7_counted_X7_alertNumbered : GoodIn wsX7_counted (wsV RX7 208 RX7 yX7_alertNumbered wsX7_alertNumbered) := goodIn_app (goodIn_of _ (by decide +kernel)) ggX7_counted_X7_alertNumbered
theorem dX7_counted_0 : decode cX7_counted 0 = .ok (.aload_n 0, 1) := by decide +kernel
theorem dX7_counted_1 : decode cX7_counted 1 = .ok (.iload_n 1, 1) := by decide +kernel
theorem dX7_counted_2 : decode cX7_counted 2 = .ok (.invokevirtual 208, 3) := by decide +kernel
theorem dX7_counted_5 : decode cX7_counted 5 = .ok (.getfield 213, 3) := by decide +kernel
theorem dX7_counted_8 : decode cX7_counted 8 = .ok (.ireturn, 1) := by decide +kernel
set_option maxRecDepth 20000 in
theorem ggX7_countedAnew_X7_alertNumbered : GoodIn wsX7_countedAnew wsX7_alertNumbered := goodIn_ca (goodIn_r _ [5, 6, 7, 8, 9, 10, 11, 12, 13, 14, 15, 16, 17, 18, 19, 20, 21, 22, 23, 24, 25, 26, 27, 28, 29, 30, 31, 32, 66, 67, 68, 69, 70, 71, 72, 73, 74, 75] (by decide +kernel) (by decide +kernel)) (goodIn_sub (fun _ h => List.mem_cons_of_mem _ (List.mem_append_right _ h)) (by decide +kernel))
set_option maxRecDepth 20000 in
theorem gX7_countedAnew_X7_alertNumbered : GoodIn wsX7_countedAnew (wsV RX7 208 RX7 yX7_alertNumbered wsX7_alertNumbered) := goodIn_app (goodIn_of _ (by decide +kernel)) ggX7_countedAnew_X7_alertNumbered
set_option maxRecDepth 20000 in
theorem ggX7_countedAnew_X7_countFromAllLines : GoodIn wsX7_countedAnew wsX7_countFromAllLines := goodIn_r _ [36, 37, 38, 39, 10, 11, 12, 13, 14, 15, 16, 17, 18, 19, 20, 21, 22, 23, 24, 25, 26, 27, 28, 29, 30, 31, 32, 40, 41, 42, 43, 44, 45, 46, 47, 48, 49, 50, 51, 52, 53, 54, 55, 56, 57, 58, 59, 60, 61, 62, 63, 64, 65, 66, 67, 68, 69, 70, 71, 72, 73, 74, 75, 76, 77, 78, 79, 80, 81, 82, 83, 84, 85, 86, 87, 88, 89, 90, 91, 92, 93, 94, 95, 96, 97, 98, 99] (by decide +kernel) (by decide +kernel)
set_option maxRecDepth 20000 in
theorem gX7_countedAnew_X7_countFromAllLines : GoodIn wsX7_countedAnew (wsV RX7 216 RX7 yX7_countFromAllLines wsX7_countFromAllLines) := goodIn_app (goodIn_of _ (by decide +kernel)) ggX7_countedAnew_X7_countFromAllLines
theorem dX7_countedAnew_0 : decode cX7_countedAnew 0 = .ok (.aload_n 0, 1) := by decide +kernel
theorem dX7_countedAnew_1 : decode cX7_countedAnew 1 = .ok (.aload_n 0, 1) := by decide +kernel
theorem dX7_countedAnew_2 : decode cX7_countedAnew 2 = .ok (.iload_n 1, 1) := by decide +kernel
theorem dX7_countedAnew_3 : decode cX7_countedAnew 3 = .ok (.invokevirtual 208, 3) := by decide +kernel
theorem dX7_countedAnew_6 : decode cX7_countedAnew 6 = .ok (.invokevirtual 216, 3) := by decide +kernel
theorem dX7_countedAnew_9 : decode cX7_countedAnew 9 = .ok (.ireturn, 1) := by decide +kernel
set_option maxRecDepth 20000 in
theorem ggX7_heldFor_X7_alertNumbered : GoodIn wsX7_heldFor wsX7_alertNumbered := goodIn_ca (goodIn_r _ [5, 6, 7, 8, 9, 10, 11, 12, 13, 14, 15, 16, 17, 18, 19, 20, 21, 22, 23, 24, 25, 26, 27, 28, 29, 30, 31, 32, 42, 43, 44, 45, 46, 47, 48, 49, 50, 51] (by decide +kernel) (by decide +kernel)) (goodIn_sub (fun _ h => List.mem_cons_of_mem _ (List.mem_append_right _ h)) (by decide +kernel))
set_option maxRecDepth 20000 in
theorem gX7_heldFor_X7_alertNumbered : GoodIn wsX7_heldFor (wsV RX7 208 RX7 yX7_alertNumbered wsX7_alertNumbered) := goodIn_app (goodIn_of _ (by decide +kernel)) ggX7_heldFor_X7_alertNumbered
theorem dX7_heldFor_0 : decode cX7_heldFor 0 = .ok (.aload_n 0, 1) := by decide +kernel
theorem dX7_heldFor_1 : decode cX7_heldFor 1 = .ok (.iload_n 1, 1) := by decide +kernel
theorem dX7_heldFor_2 : decode cX7_heldFor 2 = .ok (.invokevirtual 208, 3) := by decide +kernel
theorem dX7_heldFor_5 : decode cX7_heldFor 5 = .ok (.getfield 220, 3) := by decide +kernel
theorem dX7_heldFor_8 : decode cX7_heldFor 8 = .ok (.ireturn, 1) := by decide +kernel
set_option maxRecDepth 20000 in
theorem ggX7_firings_Jx4a65c_size_8abf5 : GoodIn wsX7_firings wsJx4a65c_size_8abf5 := goodIn_r _ [6, 7, 15, 16, 17] (by decide +kernel) (by decide +kernel)
set_option maxRecDepth 20000 in
theorem gX7_firings_Jx4a65c_size_8abf5 : GoodIn wsX7_firings (wsV RX7 53 RJx4a65c yJx4a65c_size_8abf5 wsJx4a65c_size_8abf5) := goodIn_app (goodIn_of _ (by decide +kernel)) ggX7_firings_Jx4a65c_size_8abf5
theorem dX7_firings_0 : decode cX7_firings 0 = .ok (.aload_n 0, 1) := by decide +kernel
theorem dX7_firings_1 : decode cX7_firings 1 = .ok (.getfield 22, 3) := by decide +kernel
theorem dX7_firings_4 : decode cX7_firings 4 = .ok (.invokevirtual 53, 3) := by decide +kernel
theorem dX7_firings_7 : decode cX7_firings 7 = .ok (.ireturn, 1) := by decide +kernel
set_option maxRecDepth 20000 in
theorem ggX7_alertOf_X7_firingNumbered : GoodIn wsX7_alertOf wsX7_firingNumbered := goodIn_ca (goodIn_r _ [5, 6, 7, 8, 9, 10, 11, 12, 13, 14, 15, 16, 17, 18, 19, 20, 21, 22, 23, 24, 25, 26, 27, 28, 29, 30, 31, 32, 47, 48, 49, 50, 51, 52, 53, 54, 55, 56] (by decide +kernel) (by decide +kernel)) (goodIn_sub (fun _ h => List.mem_cons_of_mem _ (List.mem_append_right _ h)) (by decide +kernel))
set_option maxRecDepth 20000 in
theorem gX7_alertOf_X7_firingNumbered : GoodIn wsX7_alertOf (wsV RX7 223 RX7 yX7_firingNumbered wsX7_firingNumbered) := goodIn_app (goodIn_of _ (by decide +kernel)) ggX7_alertOf_X7_firingNumbered
theorem dX7_alertOf_0 : decode cX7_alertOf 0 = .ok (.aload_n 0, 1) := by decide +kernel
theorem dX7_alertOf_1 : decode cX7_alertOf 1 = .ok (.iload_n 1, 1) := by decide +kernel
theorem dX7_alertOf_2 : decode cX7_alertOf 2 = .ok (.invokevirtual 223, 3) := by decide +kernel
theorem dX7_alertOf_5 : decode cX7_alertOf 5 = .ok (.getfield 227, 3) := by decide +kernel
theorem dX7_alertOf_8 : decode cX7_alertOf 8 = .ok (.getfield 233, 3) := by decide +kernel
theorem dX7_alertOf_11 : decode cX7_alertOf 11 = .ok (.ireturn, 1) := by decide +kernel
set_option maxRecDepth 20000 in
theorem ggX7_firedAt_X7_firingNumbered : GoodIn wsX7_firedAt wsX7_firingNumbered := goodIn_ca (goodIn_r _ [5, 6, 7, 8, 9, 10, 11, 12, 13, 14, 15, 16, 17, 18, 19, 20, 21, 22, 23, 24, 25, 26, 27, 28, 29, 30, 31, 32, 38, 39, 40, 41, 42, 43, 44, 45, 46, 47] (by decide +kernel) (by decide +kernel)) (goodIn_sub (fun _ h => List.mem_cons_of_mem _ (List.mem_append_right _ h)) (by decide +kernel))
set_option maxRecDepth 20000 in
theorem gX7_firedAt_X7_firingNumbered : GoodIn wsX7_firedAt (wsV RX7 223 RX7 yX7_firingNumbered wsX7_firingNumbered) := goodIn_app (goodIn_of _ (by decide +kernel)) ggX7_firedAt_X7_firingNumbered
theorem dX7_firedAt_0 : decode cX7_firedAt 0 = .ok (.aload_n 0, 1) := by decide +kernel
theorem dX7_firedAt_1 : decode cX7_firedAt 1 = .ok (.iload_n 1, 1) := by decide +kernel
theorem dX7_firedAt_2 : decode cX7_firedAt 2 = .ok (.invokevirtual 223, 3) := by decide +kernel
theorem dX7_firedAt_5 : decode cX7_firedAt 5 = .ok (.getfield 234, 3) := by decide +kernel
theorem dX7_firedAt_8 : decode cX7_firedAt 8 = .ok (.ireturn, 1) := by decide +kernel
set_option maxRecDepth 20000 in
theorem ggX7_ground_X7_firingNumbered : GoodIn wsX7_ground wsX7_firingNumbered := goodIn_ca (goodIn_r _ [5, 6, 7, 8, 9, 10, 11, 12, 13, 14, 15, 16, 17, 18, 19, 20, 21, 22, 23, 24, 25, 26, 27, 28, 29, 30, 31, 32, 38, 39, 40, 41, 42, 43, 44, 45, 46, 47] (by decide +kernel) (by decide +kernel)) (goodIn_sub (fun _ h => List.mem_cons_of_mem _ (List.mem_append_right _ h)) (by decide +kernel))
set_option maxRecDepth 20000 in
theorem gX7_ground_X7_firingNumbered : GoodIn wsX7_ground (wsV RX7 223 RX7 yX7_firingNumbered wsX7_firingNumbered) := goodIn_app (goodIn_of _ (by decide +kernel)) ggX7_ground_X7_firingNumbered
theorem dX7_ground_0 : decode cX7_ground 0 = .ok (.aload_n 0, 1) := by decide +kernel
theorem dX7_ground_1 : decode cX7_ground 1 = .ok (.iload_n 1, 1) := by decide +kernel
theorem dX7_ground_2 : decode cX7_ground 2 = .ok (.invokevirtual 223, 3) := by decide +kernel
theorem dX7_ground_5 : decode cX7_ground 5 = .ok (.getfield 237, 3) := by decide +kernel
theorem dX7_ground_8 : decode cX7_ground 8 = .ok (.ireturn, 1) := by decide +kernel
set_option maxRecDepth 20000 in
theorem ggX7_standsOn_X7_firingNumbered : GoodIn wsX7_standsOn wsX7_firingNumbered := goodIn_ca (goodIn_r _ [5, 6, 7, 8, 9, 10, 11, 12, 13, 14, 15, 16, 17, 18, 19, 20, 21, 22, 23, 24, 25, 26, 27, 28, 29, 30, 31, 32, 44, 45, 46, 47, 48, 49, 50, 51, 52, 53] (by decide +kernel) (by decide +kernel)) (goodIn_sub (fun _ h => List.mem_cons_of_mem _ (List.mem_append_left _ (List.mem_append_right _ h))) (by decide +kernel))
set_option maxRecDepth 20000 in
theorem gX7_standsOn_X7_firingNumbered : GoodIn wsX7_standsOn (wsV RX7 223 RX7 yX7_firingNumbered wsX7_firingNumbered) := goodIn_app (goodIn_of _ (by decide +kernel)) ggX7_standsOn_X7_firingNumbered
set_option maxRecDepth 20000 in
theorem ggX7_standsOn_X7_lineNumbered : GoodIn wsX7_standsOn wsX7_lineNumbered := goodIn_ca (goodIn_r _ [36, 6, 7, 37, 38, 10, 11, 12, 13, 14, 15, 16, 17, 18, 19, 20, 21, 22, 23, 24, 25, 26, 27, 28, 29, 30, 31, 32, 44, 45, 46, 47, 48, 49, 50, 51, 52, 53] (by decide +kernel) (by decide +kernel)) (goodIn_sub (fun _ h => List.mem_cons_of_mem _ (List.mem_append_left _ (List.mem_append_right _ h))) (by decide +kernel))
set_option maxRecDepth 20000 in
theorem gX7_standsOn_X7_lineNumbered : GoodIn wsX7_standsOn (wsV RX7 99 RX7 yX7_lineNumbered wsX7_lineNumbered) := goodIn_app (goodIn_of _ (by decide +kernel)) ggX7_standsOn_X7_lineNumbered
set_option maxRecDepth 20000 in
theorem ggX7_standsOn_X2_hasLine : GoodIn wsX7_standsOn wsX2_hasLine := goodIn_ca (goodIn_r _ [42, 43, 54, 55, 56, 57, 58] (by decide +kernel) (by decide +kernel)) (goodIn_sub (fun _ h => List.mem_cons_of_mem _ (List.mem_append_right _ h)) (by decide +kernel))
set_option maxRecDepth 20000 in
theorem gX7_standsOn_X2_hasLine_n239 : GoodIn wsX7_standsOn (wsX2_hasLine) := ggX7_standsOn_X2_hasLine
theorem dX7_standsOn_0 : decode cX7_standsOn 0 = .ok (.aload_n 0, 1) := by decide +kernel
theorem dX7_standsOn_1 : decode cX7_standsOn 1 = .ok (.iload_n 1, 1) := by decide +kernel
theorem dX7_standsOn_2 : decode cX7_standsOn 2 = .ok (.invokevirtual 223, 3) := by decide +kernel
theorem dX7_standsOn_5 : decode cX7_standsOn 5 = .ok (.astore_n 3, 1) := by decide +kernel
theorem dX7_standsOn_6 : decode cX7_standsOn 6 = .ok (.aload_n 0, 1) := by decide +kernel
theorem dX7_standsOn_7 : decode cX7_standsOn 7 = .ok (.iload_n 2, 1) := by decide +kernel
theorem dX7_standsOn_8 : decode cX7_standsOn 8 = .ok (.invokevirtual 99, 3) := by decide +kernel
theorem dX7_standsOn_11 : decode cX7_standsOn 11 = .ok (.pop, 1) := by decide +kernel
theorem dX7_standsOn_12 : decode cX7_standsOn 12 = .ok (.aload_n 3, 1) := by decide +kernel
theorem dX7_standsOn_13 : decode cX7_standsOn 13 = .ok (.iload_n 2, 1) := by decide +kernel
theorem dX7_standsOn_14 : decode cX7_standsOn 14 = .ok (.invokevirtual 239, 3) := by decide +kernel
theorem dX7_standsOn_17 : decode cX7_standsOn 17 = .ok (.ireturn, 1) := by decide +kernel
set_option maxRecDepth 20000 in
theorem ggX7_release_X7_firingNumbered : GoodIn wsX7_release wsX7_firingNumbered := goodIn_ca (goodIn_r _ [9, 10, 11, 12, 13, 14, 15, 16, 17, 18, 19, 20, 21, 22, 23, 24, 25, 26, 27, 28, 29, 30, 31, 32, 33, 34, 35, 36, 83, 84, 85, 86, 87, 88, 89, 90, 91, 92] (by decide +kernel) (by decide +kernel)) (goodIn_sub (fun _ h => List.mem_cons_of_mem _ (List.mem_append_left _ (List.mem_append_right _ h))) (by decide +kernel))
set_option maxRecDepth 20000 in
theorem gX7_release_X7_firingNumbered : GoodIn wsX7_release (wsV RX7 223 RX7 yX7_firingNumbered wsX7_firingNumbered) := goodIn_app (goodIn_of _ (by decide +kernel)) ggX7_release_X7_firingNumbered
set_option maxRecDepth 20000 in
theorem ggX7_release_X7_giveUpLines : GoodIn wsX7_release wsX7_giveUpLines := goodIn_ca (goodIn_r _ [40, 41, 42, 14, 15, 16, 17, 18, 19, 43, 44, 45, 46, 47, 20, 21, 22, 23, 24, 25, 26, 27, 28, 29, 30, 31, 32, 33, 34, 35, 36, 48, 49, 50, 51, 83, 84, 85, 86, 87, 88, 89, 93, 94, 95, 96, 97, 98, 99, 100, 90, 91, 92, 69, 70, 71, 72, 73] (by decide +kernel) (by decide +kernel)) (goodIn_sub (fun _ h => List.mem_cons_of_mem _ (List.mem_append_right _ h)) (by decide +kernel))
set_option maxRecDepth 20000 in
theorem gX7_release_X7_giveUpLines : GoodIn wsX7_release (wsV RX7 256 RX7 yX7_giveUpLines wsX7_giveUpLines) := goodIn_app (goodIn_of _ (by decide +kernel)) ggX7_release_X7_giveUpLines
set_option maxRecDepth 20000 in
theorem ggX7_release_X7_lookAtAllSources : GoodIn wsX7_release wsX7_lookAtAllSources := goodIn_ca (goodIn_r _ [55, 56, 57, 58, 8, 59, 60, 61, 62, 63, 64, 41, 42, 14, 15, 16, 17, 18, 19, 20, 21, 22, 23, 24, 25, 26, 27, 28, 29, 30, 31, 32, 33, 34, 35, 36, 65, 66, 67, 68, 83, 84, 85, 86, 87, 88, 89, 93, 94, 95, 96, 97, 98, 99, 100, 90, 91, 92] (by decide +kernel) (by decide +kernel)) (goodIn_sub (fun _ h => List.mem_cons_of_mem _ (List.mem_append_right _ h)) (by decide +kernel))
set_option maxRecDepth 20000 in
theorem gX7_release_X7_lookAtAllSources : GoodIn wsX7_release (wsV RX7 260 RX7 yX7_lookAtAllSources wsX7_lookAtAllSources) := goodIn_app (goodIn_of _ (by decide +kernel)) ggX7_release_X7_lookAtAllSources
theorem dX7_release_0 : decode cX7_release 0 = .ok (.aload_n 0, 1) := by decide +kernel
theorem dX7_release_1 : decode cX7_release 1 = .ok (.iload_n 1, 1) := by decide +kernel
theorem dX7_release_2 : decode cX7_release 2 = .ok (.invokevirtual 223, 3) := by decide +kernel
theorem dX7_release_5 : decode cX7_release 5 = .ok (.astore_n 2, 1) := by decide +kernel
theorem dX7_release_6 : decode cX7_release 6 = .ok (.aload_n 2, 1) := by decide +kernel
theorem dX7_release_7 : decode cX7_release 7 = .ok (.getfield 242, 3) := by decide +kernel
theorem dX7_release_10 : decode cX7_release 10 = .ok (.ifCond .eq 13, 3) := by decide +kernel
theorem dX7_release_13 : decode cX7_release 13 = .ok (.new 57, 3) := by decide +kernel
theorem dX7_release_16 : decode cX7_release 16 = .ok (.dup, 1) := by decide +kernel
theorem dX7_release_17 : decode cX7_release 17 = .ok (.ldc 245, 2) := by decide +kernel
theorem dX7_release_19 : decode cX7_release 19 = .ok (.invokespecial 61, 3) := by decide +kernel
theorem dX7_release_22 : decode cX7_release 22 = .ok (.athrow, 1) := by decide +kernel
theorem dX7_release_23 : decode cX7_release 23 = .ok (.aload_n 2, 1) := by decide +kernel
theorem dX7_release_24 : decode cX7_release 24 = .ok (.getfield 227, 3) := by decide +kernel
theorem dX7_release_27 : decode cX7_release 27 = .ok (.getfield 212, 3) := by decide +kernel
theorem dX7_release_30 : decode cX7_release 30 = .ok (.bipush 113, 2) := by decide +kernel
theorem dX7_release_32 : decode cX7_release 32 = .ok (.if_icmp .eq 24, 3) := by decide +kernel
theorem dX7_release_35 : decode cX7_release 35 = .ok (.aload_n 2, 1) := by decide +kernel
theorem dX7_release_36 : decode cX7_release 36 = .ok (.getfield 227, 3) := by decide +kernel
theorem dX7_release_39 : decode cX7_release 39 = .ok (.getfield 247, 3) := by decide +kernel
theorem dX7_release_42 : decode cX7_release 42 = .ok (.aload_n 2, 1) := by decide +kernel
theorem dX7_release_43 : decode cX7_release 43 = .ok (.if_acmp .ne 13, 3) := by decide +kernel
theorem dX7_release_46 : decode cX7_release 46 = .ok (.new 251, 3) := by decide +kernel
theorem dX7_release_49 : decode cX7_release 49 = .ok (.dup, 1) := by decide +kernel
theorem dX7_release_50 : decode cX7_release 50 = .ok (.ldc 253, 2) := by decide +kernel
theorem dX7_release_52 : decode cX7_release 52 = .ok (.invokespecial 255, 3) := by decide +kernel
theorem dX7_release_55 : decode cX7_release 55 = .ok (.athrow, 1) := by decide +kernel
theorem dX7_release_56 : decode cX7_release 56 = .ok (.aload_n 2, 1) := by decide +kernel
theorem dX7_release_57 : decode cX7_release 57 = .ok (.iconst 1, 1) := by decide +kernel
theorem dX7_release_58 : decode cX7_release 58 = .ok (.putfield 242, 3) := by decide +kernel
theorem dX7_release_61 : decode cX7_release 61 = .ok (.aload_n 0, 1) := by decide +kernel
theorem dX7_release_62 : decode cX7_release 62 = .ok (.aload_n 2, 1) := by decide +kernel
theorem dX7_release_63 : decode cX7_release 63 = .ok (.invokevirtual 256, 3) := by decide +kernel
theorem dX7_release_66 : decode cX7_release 66 = .ok (.aload_n 0, 1) := by decide +kernel
theorem dX7_release_67 : decode cX7_release 67 = .ok (.invokevirtual 260, 3) := by decide +kernel
theorem dX7_release_70 : decode cX7_release 70 = .ok (.ireturn, 1) := by decide +kernel
set_option maxRecDepth 20000 in
theorem ggX7_isGuarded_X7_lineNumbered : GoodIn wsX7_isGuarded wsX7_lineNumbered := goodIn_ca (goodIn_r _ [5, 6, 7, 8, 9, 10, 11, 12, 13, 14, 15, 16, 17, 18, 19, 20, 21, 22, 23, 24, 25, 26, 27, 28, 29, 30, 31, 32, 41, 42, 43, 44, 45, 46, 47, 48, 49, 50] (by decide +kernel) (by decide +kernel)) (goodIn_sub (fun _ h => List.mem_cons_of_mem _ (List.mem_append_right _ h)) (by decide +kernel))
set_option maxRecDepth 20000 in
theorem gX7_isGuarded_X7_lineNumbered : GoodIn wsX7_isGuarded (wsV RX7 99 RX7 yX7_lineNumbered wsX7_lineNumbered) := goodIn_app (goodIn_of _ (by decide +kernel)) ggX7_isGuarded_X7_lineNumbered
theorem dX7_isGuarded_0 : decode cX7_isGuarded 0 = .ok (.aload_n 0, 1) := by decide +kernel
theorem dX7_isGuarded_1 : decode cX7_isGuarded 1 = .ok (.iload_n 1, 1) := by decide +kernel
theorem dX7_isGuarded_2 : decode cX7_isGuarded 2 = .ok (.invokevirtual 99, 3) := by decide +kernel
theorem dX7_isGuarded_5 : decode cX7_isGuarded 5 = .ok (.getfield 263, 3) := by decide +kernel
theorem dX7_isGuarded_8 : decode cX7_isGuarded 8 = .ok (.ifCond .le 7, 3) := by decide +kernel
theorem dX7_isGuarded_11 : decode cX7_isGuarded 11 = .ok (.iconst 1, 1) := by decide +kernel
theorem dX7_isGuarded_12 : decode cX7_isGuarded 12 = .ok (.goto 4, 3) := by decide +kernel
theorem dX7_isGuarded_15 : decode cX7_isGuarded 15 = .ok (.iconst 0, 1) := by decide +kernel
theorem dX7_isGuarded_16 : decode cX7_isGuarded 16 = .ok (.ireturn, 1) := by decide +kernel
set_option maxRecDepth 20000 in
theorem ggX7_pass_X7_isWithin : GoodIn wsX7_pass wsX7_isWithin := goodIn_r _ [9] (by decide +kernel) (by decide +kernel)
set_option maxRecDepth 20000 in
theorem gX7_pass_X7_isWithin : GoodIn wsX7_pass (va_wsS RX7 42 yX7_isWithin wsX7_isWithin) := goodIn_app (goodIn_of _ (by decide +kernel)) ggX7_pass_X7_isWithin
set_option maxRecDepth 20000 in
theorem ggX7_pass_X7_passOneTick : GoodIn wsX7_pass wsX7_passOneTick := goodIn_ca (goodIn_r _ [13, 5, 14, 15, 16, 17, 18, 19, 20, 21, 22, 23, 24, 25, 26, 27, 28, 29, 30, 31, 32, 33, 34, 35, 36, 37, 38, 39, 40, 41, 8, 42, 43, 44, 45, 46, 47, 48, 49, 50, 51, 52, 53, 54, 55, 56, 57, 58, 59, 60, 61, 62, 63, 64, 65, 66, 67, 68, 69, 70, 71, 72, 73, 74, 75, 76, 77, 78, 79, 80, 81, 82, 83, 84, 85, 86, 87, 88, 89, 90, 91, 92, 93, 94, 95, 96, 97, 98, 99, 100, 101, 102, 103, 104, 105, 106, 107, 108, 109, 110, 111, 112, 113, 114, 115, 116, 117, 118, 119, 120, 121, 122, 123, 124, 125, 126, 127, 128, 129, 130, 131, 132, 133, 134, 135, 136, 137, 138, 139, 140, 141, 142, 143, 144, 145, 146, 147, 148, 149, 150, 151, 152, 153, 154, 155, 156, 157, 158, 159, 160, 161, 162, 163, 164, 165, 166, 167, 168, 169, 170, 171, 172, 173, 174, 175, 176, 177, 178, 179, 180, 181, 182, 183, 184, 185, 186, 187, 188, 189, 190, 191, 192, 193, 194, 195, 196, 197, 198, 199, 200, 201, 202, 203, 204, 205, 206, 207, 208, 209, 210, 211, 212, 213, 214, 215, 216, 217, 218, 219, 220, 221, 222, 223, 224, 225, 226, 227] (by decide +kernel) (by decide +kernel)) (goodIn_sub (fun _ h => List.mem_cons_of_mem _ (List.mem_append_right _ h)) (by decide +kernel))
set_option maxRecDepth 20000 in
theorem gX7_pass_X7_passOneTick : GoodIn wsX7_pass (wsV RX7 270 RX7 yX7_passOneTick wsX7_passOneTick) := goodIn_app (goodIn_of _ (by decide +kernel)) ggX7_pass_X7_passOneTick
theorem dX7_pass_0 : decode cX7_pass 0 = .ok (.iload_n 1, 1) := by decide +kernel
theorem dX7_pass_1 : decode cX7_pass 1 = .ok (.iconst 1, 1) := by decide +kernel
theorem dX7_pass_2 : decode cX7_pass 2 = .ok (.bipush 50, 2) := by decide +kernel
theorem dX7_pass_4 : decode cX7_pass 4 = .ok (.invokestatic 42, 3) := by decide +kernel
theorem dX7_pass_7 : decode cX7_pass 7 = .ok (.ifCond .ne 14, 3) := by decide +kernel
theorem dX7_pass_10 : decode cX7_pass 10 = .ok (.new 46, 3) := by decide +kernel
theorem dX7_pass_13 : decode cX7_pass 13 = .ok (.dup, 1) := by decide +kernel
theorem dX7_pass_14 : decode cX7_pass 14 = .ok (.ldc_w 266, 3) := by decide +kernel
theorem dX7_pass_17 : decode cX7_pass 17 = .ok (.invokespecial 50, 3) := by decide +kernel
theorem dX7_pass_20 : decode cX7_pass 20 = .ok (.athrow, 1) := by decide +kernel
theorem dX7_pass_21 : decode cX7_pass 21 = .ok (.aload_n 0, 1) := by decide +kernel
theorem dX7_pass_22 : decode cX7_pass 22 = .ok (.getfield 76, 3) := by decide +kernel
theorem dX7_pass_25 : decode cX7_pass 25 = .ok (.iload_n 1, 1) := by decide +kernel
theorem dX7_pass_26 : decode cX7_pass 26 = .ok (.iadd, 1) := by decide +kernel
theorem dX7_pass_27 : decode cX7_pass 27 = .ok (.sipush 5000, 3) := by decide +kernel
theorem dX7_pass_30 : decode cX7_pass 30 = .ok (.if_icmp .le 14, 3) := by decide +kernel
theorem dX7_pass_33 : decode cX7_pass 33 = .ok (.new 57, 3) := by decide +kernel
theorem dX7_pass_36 : decode cX7_pass 36 = .ok (.dup, 1) := by decide +kernel
theorem dX7_pass_37 : decode cX7_pass 37 = .ok (.ldc_w 268, 3) := by decide +kernel
theorem dX7_pass_40 : decode cX7_pass 40 = .ok (.invokespecial 61, 3) := by decide +kernel
theorem dX7_pass_43 : decode cX7_pass 43 = .ok (.athrow, 1) := by decide +kernel
theorem dX7_pass_44 : decode cX7_pass 44 = .ok (.iconst 0, 1) := by decide +kernel
theorem dX7_pass_45 : decode cX7_pass 45 = .ok (.istore_n 2, 1) := by decide +kernel
theorem dX7_pass_46 : decode cX7_pass 46 = .ok (.iconst 0, 1) := by decide +kernel
theorem dX7_pass_47 : decode cX7_pass 47 = .ok (.istore_n 3, 1) := by decide +kernel
theorem dX7_pass_48 : decode cX7_pass 48 = .ok (.iload_n 3, 1) := by decide +kernel
theorem dX7_pass_49 : decode cX7_pass 49 = .ok (.iload_n 1, 1) := by decide +kernel
theorem dX7_pass_50 : decode cX7_pass 50 = .ok (.if_icmp .ge 16, 3) := by decide +kernel
theorem dX7_pass_53 : decode cX7_pass 53 = .ok (.iload_n 2, 1) := by decide +kernel
theorem dX7_pass_54 : decode cX7_pass 54 = .ok (.aload_n 0, 1) := by decide +kernel
theorem dX7_pass_55 : decode cX7_pass 55 = .ok (.invokevirtual 270, 3) := by decide +kernel
theorem dX7_pass_58 : decode cX7_pass 58 = .ok (.iadd, 1) := by decide +kernel
theorem dX7_pass_59 : decode cX7_pass 59 = .ok (.istore_n 2, 1) := by decide +kernel
theorem dX7_pass_60 : decode cX7_pass 60 = .ok (.iinc 3 1, 3) := by decide +kernel
theorem dX7_pass_63 : decode cX7_pass 63 = .ok (.goto (-15), 3) := by decide +kernel
theorem dX7_pass_66 : decode cX7_pass 66 = .ok (.iload_n 2, 1) := by decide +kernel
theorem dX7_pass_67 : decode cX7_pass 67 = .ok (.ireturn, 1) := by decide +kernel
theorem dX7_tick_0 : decode cX7_tick 0 = .ok (.aload_n 0, 1) := by decide +kernel
theorem dX7_tick_1 : decode cX7_tick 1 = .ok (.getfield 76, 3) := by decide +kernel
theorem dX7_tick_4 : decode cX7_tick 4 = .ok (.ireturn, 1) := by decide +kernel
set_option maxRecDepth 20000 in
theorem ggX7_bytes_Jx4a65c_size_8abf5 : GoodIn wsX7_bytes wsJx4a65c_size_8abf5 := goodIn_r _ [7, 8, 41, 42, 43] (by decide +kernel) (by decide +kernel)
set_option maxRecDepth 20000 in
theorem gX7_bytes_Jx4a65c_size_8abf5 : GoodIn wsX7_bytes (wsV RX7 53 RJx4a65c yJx4a65c_size_8abf5 wsJx4a65c_size_8abf5) := goodIn_app (goodIn_of _ (by decide +kernel)) ggX7_bytes_Jx4a65c_size_8abf5
set_option maxRecDepth 20000 in
theorem ggX7_bytes_Jx4a65c_get_915e3 : GoodIn wsX7_bytes wsJx4a65c_get_915e3 := goodIn_r _ [12, 8, 13, 14, 15, 16, 17, 18, 19, 20, 21, 22, 23, 6, 24, 25, 41, 42, 43] (by decide +kernel) (by decide +kernel)
set_option maxRecDepth 20000 in
theorem gX7_bytes_Jx4a65c_get_915e3 : GoodIn wsX7_bytes (wsV RX7 120 RJx4a65c yJx4a65c_get_915e3 wsJx4a65c_get_915e3) := goodIn_app (goodIn_of _ (by decide +kernel)) ggX7_bytes_Jx4a65c_get_915e3
theorem dX7_bytes_0 : decode cX7_bytes 0 = .ok (.lconst 0, 1) := by decide +kernel
theorem dX7_bytes_1 : decode cX7_bytes 1 = .ok (.lstore_n 1, 1) := by decide +kernel
theorem dX7_bytes_2 : decode cX7_bytes 2 = .ok (.iconst 0, 1) := by decide +kernel
theorem dX7_bytes_3 : decode cX7_bytes 3 = .ok (.istore_n 3, 1) := by decide +kernel
theorem dX7_bytes_4 : decode cX7_bytes 4 = .ok (.iload_n 3, 1) := by decide +kernel
theorem dX7_bytes_5 : decode cX7_bytes 5 = .ok (.aload_n 0, 1) := by decide +kernel
theorem dX7_bytes_6 : decode cX7_bytes 6 = .ok (.getfield 10, 3) := by decide +kernel
theorem dX7_bytes_9 : decode cX7_bytes 9 = .ok (.invokevirtual 53, 3) := by decide +kernel
theorem dX7_bytes_12 : decode cX7_bytes 12 = .ok (.if_icmp .ge 27, 3) := by decide +kernel
theorem dX7_bytes_15 : decode cX7_bytes 15 = .ok (.lload_n 1, 1) := by decide +kernel
theorem dX7_bytes_16 : decode cX7_bytes 16 = .ok (.aload_n 0, 1) := by decide +kernel
theorem dX7_bytes_17 : decode cX7_bytes 17 = .ok (.getfield 10, 3) := by decide +kernel
theorem dX7_bytes_20 : decode cX7_bytes 20 = .ok (.iload_n 3, 1) := by decide +kernel
theorem dX7_bytes_21 : decode cX7_bytes 21 = .ok (.invokevirtual 120, 3) := by decide +kernel
theorem dX7_bytes_24 : decode cX7_bytes 24 = .ok (.checkcast 74, 3) := by decide +kernel
theorem dX7_bytes_27 : decode cX7_bytes 27 = .ok (.getfield 273, 3) := by decide +kernel
theorem dX7_bytes_30 : decode cX7_bytes 30 = .ok (.i2l, 1) := by decide +kernel
theorem dX7_bytes_31 : decode cX7_bytes 31 = .ok (.ladd, 1) := by decide +kernel
theorem dX7_bytes_32 : decode cX7_bytes 32 = .ok (.lstore_n 1, 1) := by decide +kernel
theorem dX7_bytes_33 : decode cX7_bytes 33 = .ok (.iinc 3 1, 3) := by decide +kernel
theorem dX7_bytes_36 : decode cX7_bytes 36 = .ok (.goto (-32), 3) := by decide +kernel
theorem dX7_bytes_39 : decode cX7_bytes 39 = .ok (.lload_n 1, 1) := by decide +kernel
theorem dX7_bytes_40 : decode cX7_bytes 40 = .ok (.lreturn, 1) := by decide +kernel
set_option maxRecDepth 20000 in
theorem ggX7_droppedShare_Jx4a65c_size_8abf5 : GoodIn wsX7_droppedShare wsJx4a65c_size_8abf5 := goodIn_r _ [9, 10, 43, 44, 45] (by decide +kernel) (by decide +kernel)
set_option maxRecDepth 20000 in
theorem gX7_droppedShare_Jx4a65c_size_8abf5 : GoodIn wsX7_droppedShare (wsV RX7 53 RJx4a65c yJx4a65c_size_8abf5 wsJx4a65c_size_8abf5) := goodIn_app (goodIn_of _ (by decide +kernel)) ggX7_droppedShare_Jx4a65c_size_8abf5
set_option maxRecDepth 20000 in
theorem ggX7_droppedShare_Jx4a65c_get_915e3 : GoodIn wsX7_droppedShare wsJx4a65c_get_915e3 := goodIn_r _ [14, 10, 15, 16, 17, 18, 19, 20, 21, 22, 23, 24, 25, 8, 26, 27, 43, 44, 45] (by decide +kernel) (by decide +kernel)
set_option maxRecDepth 20000 in
theorem gX7_droppedShare_Jx4a65c_get_915e3 : GoodIn wsX7_droppedShare (wsV RX7 120 RJx4a65c yJx4a65c_get_915e3 wsJx4a65c_get_915e3) := goodIn_app (goodIn_of _ (by decide +kernel)) ggX7_droppedShare_Jx4a65c_get_915e3
theorem dX7_droppedShare_0 : decode cX7_droppedShare 0 = .ok (.aload_n 0, 1) := by decide +kernel
theorem dX7_droppedShare_1 : decode cX7_droppedShare 1 = .ok (.getfield 10, 3) := by decide +kernel
theorem dX7_droppedShare_4 : decode cX7_droppedShare 4 = .ok (.invokevirtual 53, 3) := by decide +kernel
theorem dX7_droppedShare_7 : decode cX7_droppedShare 7 = .ok (.istore_n 1, 1) := by decide +kernel
theorem dX7_droppedShare_8 : decode cX7_droppedShare 8 = .ok (.iload_n 1, 1) := by decide +kernel
theorem dX7_droppedShare_9 : decode cX7_droppedShare 9 = .ok (.ifCond .ne 14, 3) := by decide +kernel
theorem dX7_droppedShare_12 : decode cX7_droppedShare 12 = .ok (.new 276, 3) := by decide +kernel
theorem dX7_droppedShare_15 : decode cX7_droppedShare 15 = .ok (.dup, 1) := by decide +kernel
theorem dX7_droppedShare_16 : decode cX7_droppedShare 16 = .ok (.ldc_w 278, 3) := by decide +kernel
theorem dX7_droppedShare_19 : decode cX7_droppedShare 19 = .ok (.invokespecial 280, 3) := by decide +kernel
theorem dX7_droppedShare_22 : decode cX7_droppedShare 22 = .ok (.athrow, 1) := by decide +kernel
theorem dX7_droppedShare_23 : decode cX7_droppedShare 23 = .ok (.iconst 0, 1) := by decide +kernel
theorem dX7_droppedShare_24 : decode cX7_droppedShare 24 = .ok (.istore_n 2, 1) := by decide +kernel
theorem dX7_droppedShare_25 : decode cX7_droppedShare 25 = .ok (.iconst 0, 1) := by decide +kernel
theorem dX7_droppedShare_26 : decode cX7_droppedShare 26 = .ok (.istore_n 3, 1) := by decide +kernel
theorem dX7_droppedShare_27 : decode cX7_droppedShare 27 = .ok (.iload_n 3, 1) := by decide +kernel
theorem dX7_droppedShare_28 : decode cX7_droppedShare 28 = .ok (.iload_n 1, 1) := by decide +kernel
theorem dX7_droppedShare_29 : decode cX7_droppedShare 29 = .ok (.if_icmp .ge 31, 3) := by decide +kernel
theorem dX7_droppedShare_32 : decode cX7_droppedShare 32 = .ok (.aload_n 0, 1) := by decide +kernel
theorem dX7_droppedShare_33 : decode cX7_droppedShare 33 = .ok (.getfield 10, 3) := by decide +kernel
theorem dX7_droppedShare_36 : decode cX7_droppedShare 36 = .ok (.iload_n 3, 1) := by decide +kernel
theorem dX7_droppedShare_37 : decode cX7_droppedShare 37 = .ok (.invokevirtual 120, 3) := by decide +kernel
theorem dX7_droppedShare_40 : decode cX7_droppedShare 40 = .ok (.checkcast 74, 3) := by decide +kernel
theorem dX7_droppedShare_43 : decode cX7_droppedShare 43 = .ok (.getfield 103, 3) := by decide +kernel
theorem dX7_droppedShare_46 : decode cX7_droppedShare 46 = .ok (.bipush 100, 2) := by decide +kernel
theorem dX7_droppedShare_48 : decode cX7_droppedShare 48 = .ok (.if_icmp .ne 6, 3) := by decide +kernel
theorem dX7_droppedShare_51 : decode cX7_droppedShare 51 = .ok (.iinc 2 1, 3) := by decide +kernel
theorem dX7_droppedShare_54 : decode cX7_droppedShare 54 = .ok (.iinc 3 1, 3) := by decide +kernel
theorem dX7_droppedShare_57 : decode cX7_droppedShare 57 = .ok (.goto (-30), 3) := by decide +kernel
theorem dX7_droppedShare_60 : decode cX7_droppedShare 60 = .ok (.iload_n 2, 1) := by decide +kernel
theorem dX7_droppedShare_61 : decode cX7_droppedShare 61 = .ok (.i2f, 1) := by decide +kernel
theorem dX7_droppedShare_62 : decode cX7_droppedShare 62 = .ok (.iload_n 1, 1) := by decide +kernel
theorem dX7_droppedShare_63 : decode cX7_droppedShare 63 = .ok (.i2f, 1) := by decide +kernel
theorem dX7_droppedShare_64 : decode cX7_droppedShare 64 = .ok (.fdiv, 1) := by decide +kernel
theorem dX7_droppedShare_65 : decode cX7_droppedShare 65 = .ok (.freturn, 1) := by decide +kernel
set_option maxRecDepth 20000 in
theorem ggX7_meanRank_Jx4a65c_size_8abf5 : GoodIn wsX7_meanRank wsJx4a65c_size_8abf5 := goodIn_r _ [9, 10, 43, 44, 45] (by decide +kernel) (by decide +kernel)
set_option maxRecDepth 20000 in
theorem gX7_meanRank_Jx4a65c_size_8abf5 : GoodIn wsX7_meanRank (wsV RX7 53 RJx4a65c yJx4a65c_size_8abf5 wsJx4a65c_size_8abf5) := goodIn_app (goodIn_of _ (by decide +kernel)) ggX7_meanRank_Jx4a65c_size_8abf5
set_option maxRecDepth 20000 in
theorem ggX7_meanRank_Jx4a65c_get_915e3 : GoodIn wsX7_meanRank wsJx4a65c_get_915e3 := goodIn_r _ [14, 10, 15, 16, 17, 18, 19, 20, 21, 22, 23, 24, 25, 8, 26, 27, 43, 44, 45] (by decide +kernel) (by decide +kernel)
set_option maxRecDepth 20000 in
theorem gX7_meanRank_Jx4a65c_get_915e3 : GoodIn wsX7_meanRank (wsV RX7 120 RJx4a65c yJx4a65c_get_915e3 wsJx4a65c_get_915e3) := goodIn_app (goodIn_of _ (by decide +kernel)) ggX7_meanRank_Jx4a65c_get_915e3
theorem dX7_meanRank_0 : decode cX7_meanRank 0 = .ok (.iconst 0, 1) := by decide +kernel
theorem dX7_meanRank_1 : decode cX7_meanRank 1 = .ok (.istore_n 1, 1) := by decide +kernel
theorem dX7_meanRank_2 : decode cX7_meanRank 2 = .ok (.iconst 0, 1) := by decide +kernel
theorem dX7_meanRank_3 : decode cX7_meanRank 3 = .ok (.istore_n 2, 1) := by decide +kernel
theorem dX7_meanRank_4 : decode cX7_meanRank 4 = .ok (.iconst 0, 1) := by decide +kernel
theorem dX7_meanRank_5 : decode cX7_meanRank 5 = .ok (.istore_n 3, 1) := by decide +kernel
theorem dX7_meanRank_6 : decode cX7_meanRank 6 = .ok (.iload_n 3, 1) := by decide +kernel
theorem dX7_meanRank_7 : decode cX7_meanRank 7 = .ok (.aload_n 0, 1) := by decide +kernel
theorem dX7_meanRank_8 : decode cX7_meanRank 8 = .ok (.getfield 10, 3) := by decide +kernel
theorem dX7_meanRank_11 : decode cX7_meanRank 11 = .ok (.invokevirtual 53, 3) := by decide +kernel
theorem dX7_meanRank_14 : decode cX7_meanRank 14 = .ok (.if_icmp .ge 43, 3) := by decide +kernel
theorem dX7_meanRank_17 : decode cX7_meanRank 17 = .ok (.aload_n 0, 1) := by decide +kernel
theorem dX7_meanRank_18 : decode cX7_meanRank 18 = .ok (.getfield 10, 3) := by decide +kernel
theorem dX7_meanRank_21 : decode cX7_meanRank 21 = .ok (.iload_n 3, 1) := by decide +kernel
theorem dX7_meanRank_22 : decode cX7_meanRank 22 = .ok (.invokevirtual 120, 3) := by decide +kernel
theorem dX7_meanRank_25 : decode cX7_meanRank 25 = .ok (.checkcast 74, 3) := by decide +kernel
theorem dX7_meanRank_28 : decode cX7_meanRank 28 = .ok (.astore 4, 2) := by decide +kernel
theorem dX7_meanRank_30 : decode cX7_meanRank 30 = .ok (.aload 4, 2) := by decide +kernel
theorem dX7_meanRank_32 : decode cX7_meanRank 32 = .ok (.getfield 103, 3) := by decide +kernel
theorem dX7_meanRank_35 : decode cX7_meanRank 35 = .ok (.bipush 107, 2) := by decide +kernel
theorem dX7_meanRank_37 : decode cX7_meanRank 37 = .ok (.if_icmp .ne 14, 3) := by decide +kernel
theorem dX7_meanRank_40 : decode cX7_meanRank 40 = .ok (.iinc 1 1, 3) := by decide +kernel
theorem dX7_meanRank_43 : decode cX7_meanRank 43 = .ok (.iload_n 2, 1) := by decide +kernel
theorem dX7_meanRank_44 : decode cX7_meanRank 44 = .ok (.aload 4, 2) := by decide +kernel
theorem dX7_meanRank_46 : decode cX7_meanRank 46 = .ok (.getfield 281, 3) := by decide +kernel
theorem dX7_meanRank_49 : decode cX7_meanRank 49 = .ok (.iadd, 1) := by decide +kernel
theorem dX7_meanRank_50 : decode cX7_meanRank 50 = .ok (.istore_n 2, 1) := by decide +kernel
theorem dX7_meanRank_51 : decode cX7_meanRank 51 = .ok (.iinc 3 1, 3) := by decide +kernel
theorem dX7_meanRank_54 : decode cX7_meanRank 54 = .ok (.goto (-48), 3) := by decide +kernel
theorem dX7_meanRank_57 : decode cX7_meanRank 57 = .ok (.iload_n 1, 1) := by decide +kernel
theorem dX7_meanRank_58 : decode cX7_meanRank 58 = .ok (.ifCond .ne 14, 3) := by decide +kernel
theorem dX7_meanRank_61 : decode cX7_meanRank 61 = .ok (.new 276, 3) := by decide +kernel
theorem dX7_meanRank_64 : decode cX7_meanRank 64 = .ok (.dup, 1) := by decide +kernel
theorem dX7_meanRank_65 : decode cX7_meanRank 65 = .ok (.ldc_w 284, 3) := by decide +kernel
theorem dX7_meanRank_68 : decode cX7_meanRank 68 = .ok (.invokespecial 280, 3) := by decide +kernel
theorem dX7_meanRank_71 : decode cX7_meanRank 71 = .ok (.athrow, 1) := by decide +kernel
theorem dX7_meanRank_72 : decode cX7_meanRank 72 = .ok (.iload_n 2, 1) := by decide +kernel
theorem dX7_meanRank_73 : decode cX7_meanRank 73 = .ok (.i2d, 1) := by decide +kernel
theorem dX7_meanRank_74 : decode cX7_meanRank 74 = .ok (.iload_n 1, 1) := by decide +kernel
theorem dX7_meanRank_75 : decode cX7_meanRank 75 = .ok (.i2d, 1) := by decide +kernel
theorem dX7_meanRank_76 : decode cX7_meanRank 76 = .ok (.ddiv, 1) := by decide +kernel
theorem dX7_meanRank_77 : decode cX7_meanRank 77 = .ok (.dreturn, 1) := by decide +kernel
set_option maxRecDepth 20000 in
theorem ggX7_isSound_X7_countsAreSound : GoodIn wsX7_isSound wsX7_countsAreSound := goodIn_r _ [5, 6, 7, 8, 9, 10, 11, 12, 13, 14, 15, 16, 17, 18, 19, 20, 21, 22, 23, 24, 25, 26, 27, 28, 29, 30, 31, 32, 33, 4, 34, 35, 36, 37, 38, 39, 40, 41, 42, 43, 44, 45, 46, 47, 48, 49, 50, 51, 52, 53, 54, 55, 56, 57, 58, 59, 60, 61, 62, 63, 89, 90, 91, 92, 93, 94, 95, 96, 97, 98, 99, 100, 101, 102, 103, 104, 105, 106, 107, 108, 109, 110, 111, 112, 113, 114, 115, 116, 117, 118, 119, 120, 121, 122] (by decide +kernel) (by decide +kernel)
set_option maxRecDepth 20000 in
theorem gX7_isSound_X7_countsAreSound : GoodIn wsX7_isSound (wsV RX7 286 RX7 yX7_countsAreSound wsX7_countsAreSound) := goodIn_app (goodIn_of _ (by decide +kernel)) ggX7_isSound_X7_countsAreSound
set_option maxRecDepth 20000 in
theorem ggX7_isSound_X7_firingsAreSound : GoodIn wsX7_isSound wsX7_firingsAreSound := goodIn_ca (goodIn_r _ [67, 35, 36, 8, 9, 10, 11, 12, 13, 14, 15, 16, 17, 18, 19, 20, 21, 22, 23, 24, 25, 26, 27, 28, 29, 30, 68, 69, 70, 4, 71, 72, 73, 74, 75, 76, 77, 78, 89, 90, 91, 92, 93, 94, 95, 108, 109, 110, 111, 112, 113, 114, 115, 105, 106, 107, 123, 124, 125, 126, 127] (by decide +kernel) (by decide +kernel)) (goodIn_sub (fun _ h => List.mem_cons_of_mem _ (List.mem_append_right _ h)) (by decide +kernel))
set_option maxRecDepth 20000 in
theorem gX7_isSound_X7_firingsAreSound : GoodIn wsX7_isSound (wsV RX7 290 RX7 yX7_firingsAreSound wsX7_firingsAreSound) := goodIn_app (goodIn_of _ (by decide +kernel)) ggX7_isSound_X7_firingsAreSound
set_option maxRecDepth 20000 in
theorem ggX7_isSound_X7_patternsAreSound : GoodIn wsX7_isSound wsX7_patternsAreSound := goodIn_r _ [82, 35, 36, 8, 9, 10, 11, 12, 13, 14, 15, 16, 17, 18, 19, 20, 21, 22, 23, 24, 25, 26, 27, 28, 29, 30, 83, 84, 85, 86, 87, 88, 57, 58, 59, 60, 61, 62, 63, 89, 90, 91, 92, 93, 94, 95, 108, 109, 110, 111, 112, 113, 114, 115, 128, 129, 130, 131, 105, 106, 107, 120, 121, 122] (by decide +kernel) (by decide +kernel)
set_option maxRecDepth 20000 in
theorem gX7_isSound_X7_patternsAreSound : GoodIn wsX7_isSound (wsV RX7 293 RX7 yX7_patternsAreSound wsX7_patternsAreSound) := goodIn_app (goodIn_of _ (by decide +kernel)) ggX7_isSound_X7_patternsAreSound
theorem dX7_isSound_0 : decode cX7_isSound 0 = .ok (.aload_n 0, 1) := by decide +kernel
theorem dX7_isSound_1 : decode cX7_isSound 1 = .ok (.invokevirtual 286, 3) := by decide +kernel
theorem dX7_isSound_4 : decode cX7_isSound 4 = .ok (.ifCond .eq 21, 3) := by decide +kernel
theorem dX7_isSound_7 : decode cX7_isSound 7 = .ok (.aload_n 0, 1) := by decide +kernel
theorem dX7_isSound_8 : decode cX7_isSound 8 = .ok (.invokevirtual 290, 3) := by decide +kernel
theorem dX7_isSound_11 : decode cX7_isSound 11 = .ok (.ifCond .eq 14, 3) := by decide +kernel
theorem dX7_isSound_14 : decode cX7_isSound 14 = .ok (.aload_n 0, 1) := by decide +kernel
theorem dX7_isSound_15 : decode cX7_isSound 15 = .ok (.invokevirtual 293, 3) := by decide +kernel
theorem dX7_isSound_18 : decode cX7_isSound 18 = .ok (.ifCond .eq 7, 3) := by decide +kernel
theorem dX7_isSound_21 : decode cX7_isSound 21 = .ok (.iconst 1, 1) := by decide +kernel
theorem dX7_isSound_22 : decode cX7_isSound 22 = .ok (.goto 4, 3) := by decide +kernel
theorem dX7_isSound_25 : decode cX7_isSound 25 = .ok (.iconst 0, 1) := by decide +kernel
theorem dX7_isSound_26 : decode cX7_isSound 26 = .ok (.ireturn, 1) := by decide +kernel
theorem dX7_isWithin_0 : decode cX7_isWithin 0 = .ok (.iload_n 0, 1) := by decide +kernel
theorem dX7_isWithin_1 : decode cX7_isWithin 1 = .ok (.iload_n 1, 1) := by decide +kernel
theorem dX7_isWithin_2 : decode cX7_isWithin 2 = .ok (.if_icmp .lt 12, 3) := by decide +kernel
theorem dX7_isWithin_5 : decode cX7_isWithin 5 = .ok (.iload_n 0, 1) := by decide +kernel
theorem dX7_isWithin_6 : decode cX7_isWithin 6 = .ok (.iload_n 2, 1) := by decide +kernel
theorem dX7_isWithin_7 : decode cX7_isWithin 7 = .ok (.if_icmp .gt 7, 3) := by decide +kernel
theorem dX7_isWithin_10 : decode cX7_isWithin 10 = .ok (.iconst 1, 1) := by decide +kernel
theorem dX7_isWithin_11 : decode cX7_isWithin 11 = .ok (.goto 4, 3) := by decide +kernel
theorem dX7_isWithin_14 : decode cX7_isWithin 14 = .ok (.iconst 0, 1) := by decide +kernel
theorem dX7_isWithin_15 : decode cX7_isWithin 15 = .ok (.ireturn, 1) := by decide +kernel
set_option maxRecDepth 20000 in
theorem ggX7_isSource_X7_isWithin : GoodIn wsX7_isSource wsX7_isWithin := goodIn_r _ [4] (by decide +kernel) (by decide +kernel)
set_option maxRecDepth 20000 in
theorem gX7_isSource_X7_isWithin : GoodIn wsX7_isSource (va_wsS RX7 42 yX7_isWithin wsX7_isWithin) := goodIn_app (goodIn_of _ (by decide +kernel)) ggX7_isSource_X7_isWithin
theorem dX7_isSource_0 : decode cX7_isSource 0 = .ok (.iload_n 0, 1) := by decide +kernel
theorem dX7_isSource_1 : decode cX7_isSource 1 = .ok (.iconst 0, 1) := by decide +kernel
theorem dX7_isSource_2 : decode cX7_isSource 2 = .ok (.iconst 3, 1) := by decide +kernel
theorem dX7_isSource_3 : decode cX7_isSource 3 = .ok (.invokestatic 42, 3) := by decide +kernel
theorem dX7_isSource_6 : decode cX7_isSource 6 = .ok (.ireturn, 1) := by decide +kernel
set_option maxRecDepth 20000 in
theorem ggX7_isRank_X7_isWithin : GoodIn wsX7_isRank wsX7_isWithin := goodIn_r _ [4] (by decide +kernel) (by decide +kernel)
set_option maxRecDepth 20000 in
theorem gX7_isRank_X7_isWithin : GoodIn wsX7_isRank (va_wsS RX7 42 yX7_isWithin wsX7_isWithin) := goodIn_app (goodIn_of _ (by decide +kernel)) ggX7_isRank_X7_isWithin
theorem dX7_isRank_0 : decode cX7_isRank 0 = .ok (.iload_n 0, 1) := by decide +kernel
theorem dX7_isRank_1 : decode cX7_isRank 1 = .ok (.iconst 0, 1) := by decide +kernel
theorem dX7_isRank_2 : decode cX7_isRank 2 = .ok (.iconst 4, 1) := by decide +kernel
theorem dX7_isRank_3 : decode cX7_isRank 3 = .ok (.invokestatic 42, 3) := by decide +kernel
theorem dX7_isRank_6 : decode cX7_isRank 6 = .ok (.ireturn, 1) := by decide +kernel
set_option maxRecDepth 20000 in
theorem ggX7_isWord_X7_isWithin : GoodIn wsX7_isWord wsX7_isWithin := goodIn_r _ [4] (by decide +kernel) (by decide +kernel)
set_option maxRecDepth 20000 in
theorem gX7_isWord_X7_isWithin : GoodIn wsX7_isWord (va_wsS RX7 42 yX7_isWithin wsX7_isWithin) := goodIn_app (goodIn_of _ (by decide +kernel)) ggX7_isWord_X7_isWithin
theorem dX7_isWord_0 : decode cX7_isWord 0 = .ok (.iload_n 0, 1) := by decide +kernel
theorem dX7_isWord_1 : decode cX7_isWord 1 = .ok (.iconst 0, 1) := by decide +kernel
theorem dX7_isWord_2 : decode cX7_isWord 2 = .ok (.bipush 99, 2) := by decide +kernel
theorem dX7_isWord_4 : decode cX7_isWord 4 = .ok (.invokestatic 42, 3) := by decide +kernel
theorem dX7_isWord_7 : decode cX7_isWord 7 = .ok (.ireturn, 1) := by decide +kernel
set_option maxRecDepth 20000 in
theorem ggX7_checkSource_X7_isSource : GoodIn wsX7_checkSource wsX7_isSource := goodIn_r _ [6, 7, 8, 5, 9] (by decide +kernel) (by decide +kernel)
set_option maxRecDepth 20000 in
theorem gX7_checkSource_X7_isSource : GoodIn wsX7_checkSource (va_wsS RX7 32 yX7_isSource wsX7_isSource) := goodIn_app (goodIn_of _ (by decide +kernel)) ggX7_checkSource_X7_isSource
theorem dX7_checkSource_0 : decode cX7_checkSource 0 = .ok (.iload_n 0, 1) := by decide +kernel
theorem dX7_checkSource_1 : decode cX7_checkSource 1 = .ok (.invokestatic 32, 3) := by decide +kernel
theorem dX7_checkSource_4 : decode cX7_checkSource 4 = .ok (.ifCond .ne 14, 3) := by decide +kernel
theorem dX7_checkSource_7 : decode cX7_checkSource 7 = .ok (.new 46, 3) := by decide +kernel
theorem dX7_checkSource_10 : decode cX7_checkSource 10 = .ok (.dup, 1) := by decide +kernel
theorem dX7_checkSource_11 : decode cX7_checkSource 11 = .ok (.ldc_w 296, 3) := by decide +kernel
theorem dX7_checkSource_14 : decode cX7_checkSource 14 = .ok (.invokespecial 50, 3) := by decide +kernel
theorem dX7_checkSource_17 : decode cX7_checkSource 17 = .ok (.athrow, 1) := by decide +kernel
theorem dX7_checkSource_18 : decode cX7_checkSource 18 = .ok (.return_, 1) := by decide +kernel
set_option maxRecDepth 20000 in
theorem ggX7_checkPlace_X7_isWithin : GoodIn wsX7_checkPlace wsX7_isWithin := goodIn_r _ [6] (by decide +kernel) (by decide +kernel)
set_option maxRecDepth 20000 in
theorem gX7_checkPlace_X7_isWithin : GoodIn wsX7_checkPlace (va_wsS RX7 42 yX7_isWithin wsX7_isWithin) := goodIn_app (goodIn_of _ (by decide +kernel)) ggX7_checkPlace_X7_isWithin
theorem dX7_checkPlace_0 : decode cX7_checkPlace 0 = .ok (.iload_n 0, 1) := by decide +kernel
theorem dX7_checkPlace_1 : decode cX7_checkPlace 1 = .ok (.iconst 0, 1) := by decide +kernel
theorem dX7_checkPlace_2 : decode cX7_checkPlace 2 = .ok (.iconst 2, 1) := by decide +kernel
theorem dX7_checkPlace_3 : decode cX7_checkPlace 3 = .ok (.invokestatic 42, 3) := by decide +kernel
theorem dX7_checkPlace_6 : decode cX7_checkPlace 6 = .ok (.ifCond .ne 14, 3) := by decide +kernel
theorem dX7_checkPlace_9 : decode cX7_checkPlace 9 = .ok (.new 46, 3) := by decide +kernel
theorem dX7_checkPlace_12 : decode cX7_checkPlace 12 = .ok (.dup, 1) := by decide +kernel
theorem dX7_checkPlace_13 : decode cX7_checkPlace 13 = .ok (.ldc_w 298, 3) := by decide +kernel
theorem dX7_checkPlace_16 : decode cX7_checkPlace 16 = .ok (.invokespecial 50, 3) := by decide +kernel
theorem dX7_checkPlace_19 : decode cX7_checkPlace 19 = .ok (.athrow, 1) := by decide +kernel
theorem dX7_checkPlace_20 : decode cX7_checkPlace 20 = .ok (.return_, 1) := by decide +kernel
set_option maxRecDepth 20000 in
theorem ggX7_lineNumbered_Jx4a65c_size_8abf5 : GoodIn wsX7_lineNumbered wsJx4a65c_size_8abf5 := goodIn_r _ [9, 10, 35, 36, 37] (by decide +kernel) (by decide +kernel)
set_option maxRecDepth 20000 in
theorem gX7_lineNumbered_Jx4a65c_size_8abf5 : GoodIn wsX7_lineNumbered (wsV RX7 53 RJx4a65c yJx4a65c_size_8abf5 wsJx4a65c_size_8abf5) := goodIn_app (goodIn_of _ (by decide +kernel)) ggX7_lineNumbered_Jx4a65c_size_8abf5
set_option maxRecDepth 20000 in
theorem ggX7_lineNumbered_Jx4a65c_get_915e3 : GoodIn wsX7_lineNumbered wsJx4a65c_get_915e3 := goodIn_r _ [14, 10, 15, 16, 17, 18, 19, 20, 21, 22, 23, 24, 25, 8, 26, 27, 35, 36, 37] (by decide +kernel) (by decide +kernel)
set_option maxRecDepth 20000 in
theorem gX7_lineNumbered_Jx4a65c_get_915e3 : GoodIn wsX7_lineNumbered (wsV RX7 120 RJx4a65c yJx4a65c_get_915e3 wsJx4a65c_get_915e3) := goodIn_app (goodIn_of _ (by decide +kernel)) ggX7_lineNumbered_Jx4a65c_get_915e3
theorem dX7_lineNumbered_0 : decode cX7_lineNumbered 0 = .ok (.iload_n 1, 1) := by decide +kernel
theorem dX7_lineNumbered_1 : decode cX7_lineNumbered 1 = .ok (.ifCond .lt 14, 3) := by decide +kernel
theorem dX7_lineNumbered_4 : decode cX7_lineNumbered 4 = .ok (.iload_n 1, 1) := by decide +kernel
theorem dX7_lineNumbered_5 : decode cX7_lineNumbered 5 = .ok (.aload_n 0, 1) := by decide +kernel
theorem dX7_lineNumbered_6 : decode cX7_lineNumbered 6 = .ok (.getfield 10, 3) := by decide +kernel
theorem dX7_lineNumbered_9 : decode cX7_lineNumbered 9 = .ok (.invokevirtual 53, 3) := by decide +kernel
theorem dX7_lineNumbered_12 : decode cX7_lineNumbered 12 = .ok (.if_icmp .lt 14, 3) := by decide +kernel
theorem dX7_lineNumbered_15 : decode cX7_lineNumbered 15 = .ok (.new 178, 3) := by decide +kernel
theorem dX7_lineNumbered_18 : decode cX7_lineNumbered 18 = .ok (.dup, 1) := by decide +kernel
theorem dX7_lineNumbered_19 : decode cX7_lineNumbered 19 = .ok (.ldc_w 300, 3) := by decide +kernel
theorem dX7_lineNumbered_22 : decode cX7_lineNumbered 22 = .ok (.invokespecial 182, 3) := by decide +kernel
theorem dX7_lineNumbered_25 : decode cX7_lineNumbered 25 = .ok (.athrow, 1) := by decide +kernel
theorem dX7_lineNumbered_26 : decode cX7_lineNumbered 26 = .ok (.aload_n 0, 1) := by decide +kernel
theorem dX7_lineNumbered_27 : decode cX7_lineNumbered 27 = .ok (.getfield 10, 3) := by decide +kernel
theorem dX7_lineNumbered_30 : decode cX7_lineNumbered 30 = .ok (.iload_n 1, 1) := by decide +kernel
theorem dX7_lineNumbered_31 : decode cX7_lineNumbered 31 = .ok (.invokevirtual 120, 3) := by decide +kernel
theorem dX7_lineNumbered_34 : decode cX7_lineNumbered 34 = .ok (.checkcast 74, 3) := by decide +kernel
theorem dX7_lineNumbered_37 : decode cX7_lineNumbered 37 = .ok (.areturn, 1) := by decide +kernel
set_option maxRecDepth 20000 in
theorem ggX7_patternNumbered_Jx4a65c_size_8abf5 : GoodIn wsX7_patternNumbered wsJx4a65c_size_8abf5 := goodIn_r _ [9, 10, 39, 40, 41] (by decide +kernel) (by decide +kernel)
set_option maxRecDepth 20000 in
theorem gX7_patternNumbered_Jx4a65c_size_8abf5 : GoodIn wsX7_patternNumbered (wsV RX7 53 RJx4a65c yJx4a65c_size_8abf5 wsJx4a65c_size_8abf5) := goodIn_app (goodIn_of _ (by decide +kernel)) ggX7_patternNumbered_Jx4a65c_size_8abf5
set_option maxRecDepth 20000 in
theorem ggX7_patternNumbered_Jx4a65c_get_915e3 : GoodIn wsX7_patternNumbered wsJx4a65c_get_915e3 := goodIn_r _ [14, 10, 15, 16, 17, 18, 19, 20, 21, 22, 23, 24, 25, 8, 26, 27, 39, 40, 41] (by decide +kernel) (by decide +kernel)
set_option maxRecDepth 20000 in
theorem gX7_patternNumbered_Jx4a65c_get_915e3 : GoodIn wsX7_patternNumbered (wsV RX7 120 RJx4a65c yJx4a65c_get_915e3 wsJx4a65c_get_915e3) := goodIn_app (goodIn_of _ (by decide +kernel)) ggX7_patternNumbered_Jx4a65c_get_915e3
theorem dX7_patternNumbered_0 : decode cX7_patternNumbered 0 = .ok (.iload_n 1, 1) := by decide +kernel
theorem dX7_patternNumbered_1 : decode cX7_patternNumbered 1 = .ok (.ifCond .lt 14, 3) := by decide +kernel
theorem dX7_patternNumbered_4 : decode cX7_patternNumbered 4 = .ok (.iload_n 1, 1) := by decide +kernel
theorem dX7_patternNumbered_5 : decode cX7_patternNumbered 5 = .ok (.aload_n 0, 1) := by decide +kernel
theorem dX7_patternNumbered_6 : decode cX7_patternNumbered 6 = .ok (.getfield 16, 3) := by decide +kernel
theorem dX7_patternNumbered_9 : decode cX7_patternNumbered 9 = .ok (.invokevirtual 53, 3) := by decide +kernel
theorem dX7_patternNumbered_12 : decode cX7_patternNumbered 12 = .ok (.if_icmp .lt 14, 3) := by decide +kernel
theorem dX7_patternNumbered_15 : decode cX7_patternNumbered 15 = .ok (.new 178, 3) := by decide +kernel
theorem dX7_patternNumbered_18 : decode cX7_patternNumbered 18 = .ok (.dup, 1) := by decide +kernel
theorem dX7_patternNumbered_19 : decode cX7_patternNumbered 19 = .ok (.ldc_w 302, 3) := by decide +kernel
theorem dX7_patternNumbered_22 : decode cX7_patternNumbered 22 = .ok (.invokespecial 182, 3) := by decide +kernel
theorem dX7_patternNumbered_25 : decode cX7_patternNumbered 25 = .ok (.athrow, 1) := by decide +kernel
theorem dX7_patternNumbered_26 : decode cX7_patternNumbered 26 = .ok (.aload_n 0, 1) := by decide +kernel
theorem dX7_patternNumbered_27 : decode cX7_patternNumbered 27 = .ok (.getfield 16, 3) := by decide +kernel
theorem dX7_patternNumbered_30 : decode cX7_patternNumbered 30 = .ok (.iload_n 1, 1) := by decide +kernel
theorem dX7_patternNumbered_31 : decode cX7_patternNumbered 31 = .ok (.invokevirtual 120, 3) := by decide +kernel
theorem dX7_patternNumbered_34 : decode cX7_patternNumbered 34 = .ok (.checkcast 112, 3) := by decide +kernel
theorem dX7_patternNumbered_37 : decode cX7_patternNumbered 37 = .ok (.astore_n 2, 1) := by decide +kernel
theorem dX7_patternNumbered_38 : decode cX7_patternNumbered 38 = .ok (.aload_n 2, 1) := by decide +kernel
theorem dX7_patternNumbered_39 : decode cX7_patternNumbered 39 = .ok (.getfield 127, 3) := by decide +kernel
theorem dX7_patternNumbered_42 : decode cX7_patternNumbered 42 = .ok (.ifCond .eq 14, 3) := by decide +kernel
theorem dX7_patternNumbered_45 : decode cX7_patternNumbered 45 = .ok (.new 178, 3) := by decide +kernel
theorem dX7_patternNumbered_48 : decode cX7_patternNumbered 48 = .ok (.dup, 1) := by decide +kernel
theorem dX7_patternNumbered_49 : decode cX7_patternNumbered 49 = .ok (.ldc_w 304, 3) := by decide +kernel
theorem dX7_patternNumbered_52 : decode cX7_patternNumbered 52 = .ok (.invokespecial 182, 3) := by decide +kernel
theorem dX7_patternNumbered_55 : decode cX7_patternNumbered 55 = .ok (.athrow, 1) := by decide +kernel
theorem dX7_patternNumbered_56 : decode cX7_patternNumbered 56 = .ok (.aload_n 2, 1) := by decide +kernel
theorem dX7_patternNumbered_57 : decode cX7_patternNumbered 57 = .ok (.areturn, 1) := by decide +kernel
set_option maxRecDepth 20000 in
theorem ggX7_alertNumbered_Jx4a65c_size_8abf5 : GoodIn wsX7_alertNumbered wsJx4a65c_size_8abf5 := goodIn_r _ [9, 10, 35, 36, 37] (by decide +kernel) (by decide +kernel)
set_option maxRecDepth 20000 in
theorem gX7_alertNumbered_Jx4a65c_size_8abf5 : GoodIn wsX7_alertNumbered (wsV RX7 53 RJx4a65c yJx4a65c_size_8abf5 wsJx4a65c_size_8abf5) := goodIn_app (goodIn_of _ (by decide +kernel)) ggX7_alertNumbered_Jx4a65c_size_8abf5
set_option maxRecDepth 20000 in
theorem ggX7_alertNumbered_Jx4a65c_get_915e3 : GoodIn wsX7_alertNumbered wsJx4a65c_get_915e3 := goodIn_r _ [14, 10, 15, 16, 17, 18, 19, 20, 21, 22, 23, 24, 25, 8, 26, 27, 35, 36, 37] (by decide +kernel) (by decide +kernel)
set_option maxRecDepth 20000 in
theorem gX7_alertNumbered_Jx4a65c_get_915e3 : GoodIn wsX7_alertNumbered (wsV RX7 120 RJx4a65c yJx4a65c_get_915e3 wsJx4a65c_get_915e3) := goodIn_app (goodIn_of _ (by decide +kernel)) ggX7_alertNumbered_Jx4a65c_get_915e3
theorem dX7_alertNumbered_0 : decode cX7_alertNumbered 0 = .ok (.iload_n 1, 1) := by decide +kernel
theorem dX7_alertNumbered_1 : decode cX7_alertNumbered 1 = .ok (.ifCond .lt 14, 3) := by decide +kernel
theorem dX7_alertNumbered_4 : decode cX7_alertNumbered 4 = .ok (.iload_n 1, 1) := by decide +kernel
theorem dX7_alertNumbered_5 : decode cX7_alertNumbered 5 = .ok (.aload_n 0, 1) := by decide +kernel
theorem dX7_alertNumbered_6 : decode cX7_alertNumbered 6 = .ok (.getfield 19, 3) := by decide +kernel
theorem dX7_alertNumbered_9 : decode cX7_alertNumbered 9 = .ok (.invokevirtual 53, 3) := by decide +kernel
theorem dX7_alertNumbered_12 : decode cX7_alertNumbered 12 = .ok (.if_icmp .lt 14, 3) := by decide +kernel
theorem dX7_alertNumbered_15 : decode cX7_alertNumbered 15 = .ok (.new 306, 3) := by decide +kernel
theorem dX7_alertNumbered_18 : decode cX7_alertNumbered 18 = .ok (.dup, 1) := by decide +kernel
theorem dX7_alertNumbered_19 : decode cX7_alertNumbered 19 = .ok (.ldc_w 308, 3) := by decide +kernel
theorem dX7_alertNumbered_22 : decode cX7_alertNumbered 22 = .ok (.invokespecial 310, 3) := by decide +kernel
theorem dX7_alertNumbered_25 : decode cX7_alertNumbered 25 = .ok (.athrow, 1) := by decide +kernel
theorem dX7_alertNumbered_26 : decode cX7_alertNumbered 26 = .ok (.aload_n 0, 1) := by decide +kernel
theorem dX7_alertNumbered_27 : decode cX7_alertNumbered 27 = .ok (.getfield 19, 3) := by decide +kernel
theorem dX7_alertNumbered_30 : decode cX7_alertNumbered 30 = .ok (.iload_n 1, 1) := by decide +kernel
theorem dX7_alertNumbered_31 : decode cX7_alertNumbered 31 = .ok (.invokevirtual 120, 3) := by decide +kernel
theorem dX7_alertNumbered_34 : decode cX7_alertNumbered 34 = .ok (.checkcast 195, 3) := by decide +kernel
theorem dX7_alertNumbered_37 : decode cX7_alertNumbered 37 = .ok (.areturn, 1) := by decide +kernel
set_option maxRecDepth 20000 in
theorem ggX7_firingNumbered_Jx4a65c_size_8abf5 : GoodIn wsX7_firingNumbered wsJx4a65c_size_8abf5 := goodIn_r _ [9, 10, 35, 36, 37] (by decide +kernel) (by decide +kernel)
set_option maxRecDepth 20000 in
theorem gX7_firingNumbered_Jx4a65c_size_8abf5 : GoodIn wsX7_firingNumbered (wsV RX7 53 RJx4a65c yJx4a65c_size_8abf5 wsJx4a65c_size_8abf5) := goodIn_app (goodIn_of _ (by decide +kernel)) ggX7_firingNumbered_Jx4a65c_size_8abf5
set_option maxRecDepth 20000 in
theorem ggX7_firingNumbered_Jx4a65c_get_915e3 : GoodIn wsX7_firingNumbered wsJx4a65c_get_915e3 := goodIn_r _ [14, 10, 15, 16, 17, 18, 19, 20, 21, 22, 23, 24, 25, 8, 26, 27, 35, 36, 37] (by decide +kernel) (by decide +kernel)
set_option maxRecDepth 20000 in
theorem gX7_firingNumbered_Jx4a65c_get_915e3 : GoodIn wsX7_firingNumbered (wsV RX7 120 RJx4a65c yJx4a65c_get_915e3 wsJx4a65c_get_915e3) := goodIn_app (goodIn_of _ (by decide +kernel)) ggX7_firingNumbered_Jx4a65c_get_915e3
theorem dX7_firingNumbered_0 : decode cX7_firingNumbered 0 = .ok (.iload_n 1, 1) := by decide +kernel
theorem dX7_firingNumbered_1 : decode cX7_firingNumbered 1 = .ok (.ifCond .lt 14, 3) := by decide +kernel
theorem dX7_firingNumbered_4 : decode cX7_firingNumbered 4 = .ok (.iload_n 1, 1) := by decide +kernel
theorem dX7_firingNumbered_5 : decode cX7_firingNumbered 5 = .ok (.aload_n 0, 1) := by decide +kernel
theorem dX7_firingNumbered_6 : decode cX7_firingNumbered 6 = .ok (.getfield 22, 3) := by decide +kernel
theorem dX7_firingNumbered_9 : decode cX7_firingNumbered 9 = .ok (.invokevirtual 53, 3) := by decide +kernel
theorem dX7_firingNumbered_12 : decode cX7_firingNumbered 12 = .ok (.if_icmp .lt 14, 3) := by decide +kernel
theorem dX7_firingNumbered_15 : decode cX7_firingNumbered 15 = .ok (.new 178, 3) := by decide +kernel
theorem dX7_firingNumbered_18 : decode cX7_firingNumbered 18 = .ok (.dup, 1) := by decide +kernel
theorem dX7_firingNumbered_19 : decode cX7_firingNumbered 19 = .ok (.ldc_w 311, 3) := by decide +kernel
theorem dX7_firingNumbered_22 : decode cX7_firingNumbered 22 = .ok (.invokespecial 182, 3) := by decide +kernel
theorem dX7_firingNumbered_25 : decode cX7_firingNumbered 25 = .ok (.athrow, 1) := by decide +kernel
theorem dX7_firingNumbered_26 : decode cX7_firingNumbered 26 = .ok (.aload_n 0, 1) := by decide +kernel
theorem dX7_firingNumbered_27 : decode cX7_firingNumbered 27 = .ok (.getfield 22, 3) := by decide +kernel
theorem dX7_firingNumbered_30 : decode cX7_firingNumbered 30 = .ok (.iload_n 1, 1) := by decide +kernel
theorem dX7_firingNumbered_31 : decode cX7_firingNumbered 31 = .ok (.invokevirtual 120, 3) := by decide +kernel
theorem dX7_firingNumbered_34 : decode cX7_firingNumbered 34 = .ok (.checkcast 228, 3) := by decide +kernel
theorem dX7_firingNumbered_37 : decode cX7_firingNumbered 37 = .ok (.areturn, 1) := by decide +kernel
set_option maxRecDepth 20000 in
theorem ggX7_patternFor_Jx4a65c_size_8abf5 : GoodIn wsX7_patternFor wsJx4a65c_size_8abf5 := goodIn_r _ [7, 8, 50, 51, 52] (by decide +kernel) (by decide +kernel)
set_option maxRecDepth 20000 in
theorem gX7_patternFor_Jx4a65c_size_8abf5 : GoodIn wsX7_patternFor (wsV RX7 53 RJx4a65c yJx4a65c_size_8abf5 wsJx4a65c_size_8abf5) := goodIn_app (goodIn_of _ (by decide +kernel)) ggX7_patternFor_Jx4a65c_size_8abf5
set_option maxRecDepth 20000 in
theorem ggX7_patternFor_Jx4a65c_get_915e3 : GoodIn wsX7_patternFor wsJx4a65c_get_915e3 := goodIn_r _ [12, 8, 13, 14, 15, 16, 17, 18, 19, 20, 21, 22, 23, 6, 24, 25, 50, 51, 52] (by decide +kernel) (by decide +kernel)
set_option maxRecDepth 20000 in
theorem gX7_patternFor_Jx4a65c_get_915e3 : GoodIn wsX7_patternFor (wsV RX7 120 RJx4a65c yJx4a65c_get_915e3 wsJx4a65c_get_915e3) := goodIn_app (goodIn_of _ (by decide +kernel)) ggX7_patternFor_Jx4a65c_get_915e3
set_option maxRecDepth 20000 in
theorem ggX7_patternFor_X4_suits : GoodIn wsX7_patternFor wsX4_suits := goodIn_r _ [29, 30, 31, 32, 33, 34, 35, 36, 37, 38, 46, 47, 48, 49, 53, 54, 55] (by decide +kernel) (by decide +kernel)
set_option maxRecDepth 20000 in
theorem gX7_patternFor_X4_suits_n313 : GoodIn wsX7_patternFor (wsX4_suits) := ggX7_patternFor_X4_suits
theorem dX7_patternFor_0 : decode cX7_patternFor 0 = .ok (.iconst 0, 1) := by decide +kernel
theorem dX7_patternFor_1 : decode cX7_patternFor 1 = .ok (.istore_n 3, 1) := by decide +kernel
theorem dX7_patternFor_2 : decode cX7_patternFor 2 = .ok (.iload_n 3, 1) := by decide +kernel
theorem dX7_patternFor_3 : decode cX7_patternFor 3 = .ok (.aload_n 0, 1) := by decide +kernel
theorem dX7_patternFor_4 : decode cX7_patternFor 4 = .ok (.getfield 16, 3) := by decide +kernel
theorem dX7_patternFor_7 : decode cX7_patternFor 7 = .ok (.invokevirtual 53, 3) := by decide +kernel
theorem dX7_patternFor_10 : decode cX7_patternFor 10 = .ok (.if_icmp .ge 43, 3) := by decide +kernel
theorem dX7_patternFor_13 : decode cX7_patternFor 13 = .ok (.aload_n 0, 1) := by decide +kernel
theorem dX7_patternFor_14 : decode cX7_patternFor 14 = .ok (.getfield 16, 3) := by decide +kernel
theorem dX7_patternFor_17 : decode cX7_patternFor 17 = .ok (.iload_n 3, 1) := by decide +kernel
theorem dX7_patternFor_18 : decode cX7_patternFor 18 = .ok (.invokevirtual 120, 3) := by decide +kernel
theorem dX7_patternFor_21 : decode cX7_patternFor 21 = .ok (.checkcast 112, 3) := by decide +kernel
theorem dX7_patternFor_24 : decode cX7_patternFor 24 = .ok (.astore 4, 2) := by decide +kernel
theorem dX7_patternFor_26 : decode cX7_patternFor 26 = .ok (.aload 4, 2) := by decide +kernel
theorem dX7_patternFor_28 : decode cX7_patternFor 28 = .ok (.getfield 127, 3) := by decide +kernel
theorem dX7_patternFor_31 : decode cX7_patternFor 31 = .ok (.ifCond .ne 16, 3) := by decide +kernel
theorem dX7_patternFor_34 : decode cX7_patternFor 34 = .ok (.aload 4, 2) := by decide +kernel
theorem dX7_patternFor_36 : decode cX7_patternFor 36 = .ok (.iload_n 1, 1) := by decide +kernel
theorem dX7_patternFor_37 : decode cX7_patternFor 37 = .ok (.aload_n 2, 1) := by decide +kernel
theorem dX7_patternFor_38 : decode cX7_patternFor 38 = .ok (.invokevirtual 313, 3) := by decide +kernel
theorem dX7_patternFor_41 : decode cX7_patternFor 41 = .ok (.ifCond .eq 6, 3) := by decide +kernel
theorem dX7_patternFor_44 : decode cX7_patternFor 44 = .ok (.aload 4, 2) := by decide +kernel
theorem dX7_patternFor_46 : decode cX7_patternFor 46 = .ok (.areturn, 1) := by decide +kernel
theorem dX7_patternFor_47 : decode cX7_patternFor 47 = .ok (.iinc 3 1, 3) := by decide +kernel
theorem dX7_patternFor_50 : decode cX7_patternFor 50 = .ok (.goto (-48), 3) := by decide +kernel
theorem dX7_patternFor_53 : decode cX7_patternFor 53 = .ok (.aconst_null, 1) := by decide +kernel
theorem dX7_patternFor_54 : decode cX7_patternFor 54 = .ok (.areturn, 1) := by decide +kernel
set_option maxRecDepth 20000 in
theorem ggX7_learn_X6_init : GoodIn wsX7_learn wsX6_init := goodIn_r _ [9, 10, 11, 12, 13, 14, 15, 82, 83, 84] (by decide +kernel) (by decide +kernel)
set_option maxRecDepth 20000 in
theorem gX7_learn_X6_init_n64 : GoodIn wsX7_learn (wsX6_init) := ggX7_learn_X6_init
set_option maxRecDepth 20000 in
theorem ggX7_learn_Jx4a65c_size_8abf5 : GoodIn wsX7_learn wsJx4a65c_size_8abf5 := goodIn_r _ [20, 21, 96, 97, 98] (by decide +kernel) (by decide +kernel)
set_option maxRecDepth 20000 in
theorem gX7_learn_Jx4a65c_size_8abf5 : GoodIn wsX7_learn (wsV RX7 53 RJx4a65c yJx4a65c_size_8abf5 wsJx4a65c_size_8abf5) := goodIn_app (goodIn_of _ (by decide +kernel)) ggX7_learn_Jx4a65c_size_8abf5
set_option maxRecDepth 20000 in
theorem ggX7_learn_X4_init : GoodIn wsX7_learn wsX4_init := goodIn_r _ [23, 24, 11, 12, 25, 26, 27, 85, 86, 87, 88] (by decide +kernel) (by decide +kernel)
set_option maxRecDepth 20000 in
theorem gX7_learn_X4_init_n326 : GoodIn wsX7_learn (wsX4_init) := ggX7_learn_X4_init
set_option maxRecDepth 20000 in
theorem ggX7_learn_Jx4a65c_add_9ea2d : GoodIn wsX7_learn wsJx4a65c_add_9ea2d := goodIn_r _ [31, 32, 33, 34, 21, 35, 36, 37, 19, 38, 39, 40, 41, 42, 43, 44, 45, 46, 47, 48, 49, 50, 51, 52, 53, 54, 55, 56, 57, 58, 59, 60, 61, 62, 63, 64, 65, 66, 67, 68, 69, 70, 71, 72, 73, 74, 75, 76, 77, 78, 79, 80, 81, 96, 97, 98] (by decide +kernel) (by decide +kernel)
set_option maxRecDepth 20000 in
theorem gX7_learn_Jx4a65c_add_9ea2d : GoodIn wsX7_learn (wsV RX7 83 RJx4a65c yJx4a65c_add_9ea2d wsJx4a65c_add_9ea2d) := goodIn_app (goodIn_of _ (by decide +kernel)) ggX7_learn_Jx4a65c_add_9ea2d
theorem dX7_learn_0 : decode cX7_learn 0 = .ok (.new 62, 3) := by decide +kernel
theorem dX7_learn_3 : decode cX7_learn 3 = .ok (.dup, 1) := by decide +kernel
theorem dX7_learn_4 : decode cX7_learn 4 = .ok (.aload_n 2, 1) := by decide +kernel
theorem dX7_learn_5 : decode cX7_learn 5 = .ok (.getfield 317, 3) := by decide +kernel
theorem dX7_learn_8 : decode cX7_learn 8 = .ok (.aload_n 2, 1) := by decide +kernel
theorem dX7_learn_9 : decode cX7_learn 9 = .ok (.getfield 320, 3) := by decide +kernel
theorem dX7_learn_12 : decode cX7_learn 12 = .ok (.aload_n 2, 1) := by decide +kernel
theorem dX7_learn_13 : decode cX7_learn 13 = .ok (.getfield 323, 3) := by decide +kernel
theorem dX7_learn_16 : decode cX7_learn 16 = .ok (.invokespecial 64, 3) := by decide +kernel
theorem dX7_learn_19 : decode cX7_learn 19 = .ok (.astore_n 3, 1) := by decide +kernel
theorem dX7_learn_20 : decode cX7_learn 20 = .ok (.new 112, 3) := by decide +kernel
theorem dX7_learn_23 : decode cX7_learn 23 = .ok (.dup, 1) := by decide +kernel
theorem dX7_learn_24 : decode cX7_learn 24 = .ok (.aload_n 0, 1) := by decide +kernel
theorem dX7_learn_25 : decode cX7_learn 25 = .ok (.getfield 16, 3) := by decide +kernel
theorem dX7_learn_28 : decode cX7_learn 28 = .ok (.invokevirtual 53, 3) := by decide +kernel
theorem dX7_learn_31 : decode cX7_learn 31 = .ok (.iload_n 1, 1) := by decide +kernel
theorem dX7_learn_32 : decode cX7_learn 32 = .ok (.aload_n 3, 1) := by decide +kernel
theorem dX7_learn_33 : decode cX7_learn 33 = .ok (.invokespecial 326, 3) := by decide +kernel
theorem dX7_learn_36 : decode cX7_learn 36 = .ok (.astore 4, 2) := by decide +kernel
theorem dX7_learn_38 : decode cX7_learn 38 = .ok (.aload_n 0, 1) := by decide +kernel
theorem dX7_learn_39 : decode cX7_learn 39 = .ok (.getfield 16, 3) := by decide +kernel
theorem dX7_learn_42 : decode cX7_learn 42 = .ok (.aload 4, 2) := by decide +kernel
theorem dX7_learn_44 : decode cX7_learn 44 = .ok (.invokevirtual 83, 3) := by decide +kernel
theorem dX7_learn_47 : decode cX7_learn 47 = .ok (.pop, 1) := by decide +kernel
theorem dX7_learn_48 : decode cX7_learn 48 = .ok (.aload 4, 2) := by decide +kernel
theorem dX7_learn_50 : decode cX7_learn 50 = .ok (.areturn, 1) := by decide +kernel
set_option maxRecDepth 20000 in
theorem ggX7_mergeFrom_Jx4a65c_size_8abf5 : GoodIn wsX7_mergeFrom wsJx4a65c_size_8abf5 := goodIn_r _ [6, 7, 62, 63, 64] (by decide +kernel) (by decide +kernel)
set_option maxRecDepth 20000 in
theorem gX7_mergeFrom_Jx4a65c_size_8abf5 : GoodIn wsX7_mergeFrom (wsV RX7 53 RJx4a65c yJx4a65c_size_8abf5 wsJx4a65c_size_8abf5) := goodIn_app (goodIn_of _ (by decide +kernel)) ggX7_mergeFrom_Jx4a65c_size_8abf5
set_option maxRecDepth 20000 in
theorem ggX7_mergeFrom_X7_partnerOf : GoodIn wsX7_mergeFrom wsX7_partnerOf := goodIn_r _ [12, 1, 13, 2, 3, 4, 5, 6, 7, 14, 15, 16, 17, 18, 19, 20, 21, 22, 23, 24, 25, 26, 27, 28, 29, 30, 31, 32, 33, 34, 35, 36, 37, 38, 39, 40, 41, 51, 52, 53, 54, 55, 56, 57, 58, 59, 60, 61, 62, 63, 64, 65, 66, 67] (by decide +kernel) (by decide +kernel)
set_option maxRecDepth 20000 in
theorem gX7_mergeFrom_X7_partnerOf : GoodIn wsX7_mergeFrom (wsV RX7 329 RX7 yX7_partnerOf wsX7_partnerOf) := goodIn_app (goodIn_of _ (by decide +kernel)) ggX7_mergeFrom_X7_partnerOf
set_option maxRecDepth 20000 in
theorem ggX7_mergeFrom_X7_merge : GoodIn wsX7_mergeFrom wsX7_merge := goodIn_r _ [45, 46, 47, 36, 32, 37, 38, 39, 40, 41, 48, 49, 50, 2, 3, 4, 5, 6, 7, 14, 15, 16, 17, 18, 19, 20, 21, 22, 23, 24, 25, 26, 27, 28, 29, 30, 58, 59, 60, 61, 51, 52, 53, 54, 55, 56, 57, 68, 69, 70, 71, 72, 73, 74, 75, 65, 66, 67, 62, 63, 64] (by decide +kernel) (by decide +kernel)
set_option maxRecDepth 20000 in
theorem gX7_mergeFrom_X7_merge : GoodIn wsX7_mergeFrom (wsV RX7 333 RX7 yX7_merge wsX7_merge) := goodIn_app (goodIn_of _ (by decide +kernel)) ggX7_mergeFrom_X7_merge
theorem dX7_mergeFrom_0 : decode cX7_mergeFrom 0 = .ok (.aload_n 1, 1) := by decide +kernel
theorem dX7_mergeFrom_1 : decode cX7_mergeFrom 1 = .ok (.astore_n 2, 1) := by decide +kernel
theorem dX7_mergeFrom_2 : decode cX7_mergeFrom 2 = .ok (.iconst 0, 1) := by decide +kernel
theorem dX7_mergeFrom_3 : decode cX7_mergeFrom 3 = .ok (.istore_n 3, 1) := by decide +kernel
theorem dX7_mergeFrom_4 : decode cX7_mergeFrom 4 = .ok (.iload_n 3, 1) := by decide +kernel
theorem dX7_mergeFrom_5 : decode cX7_mergeFrom 5 = .ok (.aload_n 0, 1) := by decide +kernel
theorem dX7_mergeFrom_6 : decode cX7_mergeFrom 6 = .ok (.getfield 16, 3) := by decide +kernel
theorem dX7_mergeFrom_9 : decode cX7_mergeFrom 9 = .ok (.invokevirtual 53, 3) := by decide +kernel
theorem dX7_mergeFrom_12 : decode cX7_mergeFrom 12 = .ok (.if_icmp .ge 54, 3) := by decide +kernel
theorem dX7_mergeFrom_15 : decode cX7_mergeFrom 15 = .ok (.aload_n 0, 1) := by decide +kernel
theorem dX7_mergeFrom_16 : decode cX7_mergeFrom 16 = .ok (.aload_n 2, 1) := by decide +kernel
theorem dX7_mergeFrom_17 : decode cX7_mergeFrom 17 = .ok (.invokevirtual 329, 3) := by decide +kernel
theorem dX7_mergeFrom_20 : decode cX7_mergeFrom 20 = .ok (.astore 4, 2) := by decide +kernel
theorem dX7_mergeFrom_22 : decode cX7_mergeFrom 22 = .ok (.aload 4, 2) := by decide +kernel
theorem dX7_mergeFrom_24 : decode cX7_mergeFrom 24 = .ok (.ifnonnull 4, 3) := by decide +kernel
theorem dX7_mergeFrom_27 : decode cX7_mergeFrom 27 = .ok (.return_, 1) := by decide +kernel
theorem dX7_mergeFrom_28 : decode cX7_mergeFrom 28 = .ok (.aload 4, 2) := by decide +kernel
theorem dX7_mergeFrom_30 : decode cX7_mergeFrom 30 = .ok (.getfield 111, 3) := by decide +kernel
theorem dX7_mergeFrom_33 : decode cX7_mergeFrom 33 = .ok (.aload_n 2, 1) := by decide +kernel
theorem dX7_mergeFrom_34 : decode cX7_mergeFrom 34 = .ok (.getfield 111, 3) := by decide +kernel
theorem dX7_mergeFrom_37 : decode cX7_mergeFrom 37 = .ok (.if_icmp .ge 16, 3) := by decide +kernel
theorem dX7_mergeFrom_40 : decode cX7_mergeFrom 40 = .ok (.aload_n 0, 1) := by decide +kernel
theorem dX7_mergeFrom_41 : decode cX7_mergeFrom 41 = .ok (.aload 4, 2) := by decide +kernel
theorem dX7_mergeFrom_43 : decode cX7_mergeFrom 43 = .ok (.aload_n 2, 1) := by decide +kernel
theorem dX7_mergeFrom_44 : decode cX7_mergeFrom 44 = .ok (.invokevirtual 333, 3) := by decide +kernel
theorem dX7_mergeFrom_47 : decode cX7_mergeFrom 47 = .ok (.aload 4, 2) := by decide +kernel
theorem dX7_mergeFrom_49 : decode cX7_mergeFrom 49 = .ok (.astore_n 2, 1) := by decide +kernel
theorem dX7_mergeFrom_50 : decode cX7_mergeFrom 50 = .ok (.goto 10, 3) := by decide +kernel
theorem dX7_mergeFrom_53 : decode cX7_mergeFrom 53 = .ok (.aload_n 0, 1) := by decide +kernel
theorem dX7_mergeFrom_54 : decode cX7_mergeFrom 54 = .ok (.aload_n 2, 1) := by decide +kernel
theorem dX7_mergeFrom_55 : decode cX7_mergeFrom 55 = .ok (.aload 4, 2) := by decide +kernel
theorem dX7_mergeFrom_57 : decode cX7_mergeFrom 57 = .ok (.invokevirtual 333, 3) := by decide +kernel
theorem dX7_mergeFrom_60 : decode cX7_mergeFrom 60 = .ok (.iinc 3 1, 3) := by decide +kernel
theorem dX7_mergeFrom_63 : decode cX7_mergeFrom 63 = .ok (.goto (-59), 3) := by decide +kernel
theorem dX7_mergeFrom_66 : decode cX7_mergeFrom 66 = .ok (.return_, 1) := by decide +kernel
set_option maxRecDepth 20000 in
theorem ggX7_partnerOf_Jx4a65c_size_8abf5 : GoodIn wsX7_partnerOf wsJx4a65c_size_8abf5 := goodIn_r _ [7, 8, 48, 49, 50] (by decide +kernel) (by decide +kernel)
set_option maxRecDepth 20000 in
theorem gX7_partnerOf_Jx4a65c_size_8abf5 : GoodIn wsX7_partnerOf (wsV RX7 53 RJx4a65c yJx4a65c_size_8abf5 wsJx4a65c_size_8abf5) := goodIn_app (goodIn_of _ (by decide +kernel)) ggX7_partnerOf_Jx4a65c_size_8abf5
set_option maxRecDepth 20000 in
theorem ggX7_partnerOf_Jx4a65c_get_915e3 : GoodIn wsX7_partnerOf wsJx4a65c_get_915e3 := goodIn_r _ [12, 8, 13, 14, 15, 16, 17, 18, 19, 20, 21, 22, 23, 6, 24, 25, 48, 49, 50] (by decide +kernel) (by decide +kernel)
set_option maxRecDepth 20000 in
theorem gX7_partnerOf_Jx4a65c_get_915e3 : GoodIn wsX7_partnerOf (wsV RX7 120 RJx4a65c yJx4a65c_get_915e3 wsJx4a65c_get_915e3) := goodIn_app (goodIn_of _ (by decide +kernel)) ggX7_partnerOf_Jx4a65c_get_915e3
set_option maxRecDepth 20000 in
theorem ggX7_partnerOf_X6_differences : GoodIn wsX7_partnerOf wsX6_differences := goodIn_r _ [29, 30, 31, 32, 27, 33, 34, 35, 36, 51, 52, 53] (by decide +kernel) (by decide +kernel)
set_option maxRecDepth 20000 in
theorem gX7_partnerOf_X6_differences_n337 : GoodIn wsX7_partnerOf (wsX6_differences) := ggX7_partnerOf_X6_differences
theorem dX7_partnerOf_0 : decode cX7_partnerOf 0 = .ok (.iconst 0, 1) := by decide +kernel
theorem dX7_partnerOf_1 : decode cX7_partnerOf 1 = .ok (.istore_n 2, 1) := by decide +kernel
theorem dX7_partnerOf_2 : decode cX7_partnerOf 2 = .ok (.iload_n 2, 1) := by decide +kernel
theorem dX7_partnerOf_3 : decode cX7_partnerOf 3 = .ok (.aload_n 0, 1) := by decide +kernel
theorem dX7_partnerOf_4 : decode cX7_partnerOf 4 = .ok (.getfield 16, 3) := by decide +kernel
theorem dX7_partnerOf_7 : decode cX7_partnerOf 7 = .ok (.invokevirtual 53, 3) := by decide +kernel
theorem dX7_partnerOf_10 : decode cX7_partnerOf 10 = .ok (.if_icmp .ge 56, 3) := by decide +kernel
theorem dX7_partnerOf_13 : decode cX7_partnerOf 13 = .ok (.aload_n 0, 1) := by decide +kernel
theorem dX7_partnerOf_14 : decode cX7_partnerOf 14 = .ok (.getfield 16, 3) := by decide +kernel
theorem dX7_partnerOf_17 : decode cX7_partnerOf 17 = .ok (.iload_n 2, 1) := by decide +kernel
theorem dX7_partnerOf_18 : decode cX7_partnerOf 18 = .ok (.invokevirtual 120, 3) := by decide +kernel
theorem dX7_partnerOf_21 : decode cX7_partnerOf 21 = .ok (.checkcast 112, 3) := by decide +kernel
theorem dX7_partnerOf_24 : decode cX7_partnerOf 24 = .ok (.astore_n 3, 1) := by decide +kernel
theorem dX7_partnerOf_25 : decode cX7_partnerOf 25 = .ok (.aload_n 3, 1) := by decide +kernel
theorem dX7_partnerOf_26 : decode cX7_partnerOf 26 = .ok (.getfield 127, 3) := by decide +kernel
theorem dX7_partnerOf_29 : decode cX7_partnerOf 29 = .ok (.ifCond .ne 31, 3) := by decide +kernel
theorem dX7_partnerOf_32 : decode cX7_partnerOf 32 = .ok (.aload_n 3, 1) := by decide +kernel
theorem dX7_partnerOf_33 : decode cX7_partnerOf 33 = .ok (.getfield 124, 3) := by decide +kernel
theorem dX7_partnerOf_36 : decode cX7_partnerOf 36 = .ok (.aload_n 1, 1) := by decide +kernel
theorem dX7_partnerOf_37 : decode cX7_partnerOf 37 = .ok (.getfield 124, 3) := by decide +kernel
theorem dX7_partnerOf_40 : decode cX7_partnerOf 40 = .ok (.if_icmp .ne 20, 3) := by decide +kernel
theorem dX7_partnerOf_43 : decode cX7_partnerOf 43 = .ok (.aload_n 3, 1) := by decide +kernel
theorem dX7_partnerOf_44 : decode cX7_partnerOf 44 = .ok (.getfield 138, 3) := by decide +kernel
theorem dX7_partnerOf_47 : decode cX7_partnerOf 47 = .ok (.aload_n 1, 1) := by decide +kernel
theorem dX7_partnerOf_48 : decode cX7_partnerOf 48 = .ok (.getfield 138, 3) := by decide +kernel
theorem dX7_partnerOf_51 : decode cX7_partnerOf 51 = .ok (.invokevirtual 337, 3) := by decide +kernel
theorem dX7_partnerOf_54 : decode cX7_partnerOf 54 = .ok (.iconst 1, 1) := by decide +kernel
theorem dX7_partnerOf_55 : decode cX7_partnerOf 55 = .ok (.if_icmp .ne 5, 3) := by decide +kernel
theorem dX7_partnerOf_58 : decode cX7_partnerOf 58 = .ok (.aload_n 3, 1) := by decide +kernel
theorem dX7_partnerOf_59 : decode cX7_partnerOf 59 = .ok (.areturn, 1) := by decide +kernel
theorem dX7_partnerOf_60 : decode cX7_partnerOf 60 = .ok (.iinc 2 1, 3) := by decide +kernel
theorem dX7_partnerOf_63 : decode cX7_partnerOf 63 = .ok (.goto (-61), 3) := by decide +kernel
theorem dX7_partnerOf_66 : decode cX7_partnerOf 66 = .ok (.aconst_null, 1) := by decide +kernel
theorem dX7_partnerOf_67 : decode cX7_partnerOf 67 = .ok (.areturn, 1) := by decide +kernel
set_option maxRecDepth 20000 in
theorem ggX7_merge_X6_at : GoodIn wsX7_merge wsX6_at := goodIn_r _ [6, 7, 8, 9, 55, 56, 57] (by decide +kernel) (by decide +kernel)
set_option maxRecDepth 20000 in
theorem gX7_merge_X6_at_n142 : GoodIn wsX7_merge (wsX6_at) := ggX7_merge_X6_at
set_option maxRecDepth 20000 in
theorem ggX7_merge_X6_put : GoodIn wsX7_merge wsX6_put := goodIn_r _ [12, 7, 8, 9, 55, 56, 57] (by decide +kernel) (by decide +kernel)
set_option maxRecDepth 20000 in
theorem gX7_merge_X6_put_n341 : GoodIn wsX7_merge (wsX6_put) := ggX7_merge_X6_put
set_option maxRecDepth 20000 in
theorem ggX7_merge_Jx4a65c_size_8abf5 : GoodIn wsX7_merge wsJx4a65c_size_8abf5 := goodIn_r _ [17, 18, 58, 59, 60] (by decide +kernel) (by decide +kernel)
set_option maxRecDepth 20000 in
theorem gX7_merge_Jx4a65c_size_8abf5 : GoodIn wsX7_merge (wsV RX7 53 RJx4a65c yJx4a65c_size_8abf5 wsJx4a65c_size_8abf5) := goodIn_app (goodIn_of _ (by decide +kernel)) ggX7_merge_Jx4a65c_size_8abf5
set_option maxRecDepth 20000 in
theorem ggX7_merge_Jx4a65c_get_915e3 : GoodIn wsX7_merge wsJx4a65c_get_915e3 := goodIn_r _ [22, 18, 23, 24, 25, 26, 27, 28, 29, 30, 31, 32, 33, 16, 34, 35, 58, 59, 60] (by decide +kernel) (by decide +kernel)
set_option maxRecDepth 20000 in
theorem gX7_merge_Jx4a65c_get_915e3 : GoodIn wsX7_merge (wsV RX7 120 RJx4a65c yJx4a65c_get_915e3 wsJx4a65c_get_915e3) := goodIn_app (goodIn_of _ (by decide +kernel)) ggX7_merge_Jx4a65c_get_915e3
theorem dX7_merge_0 : decode cX7_merge 0 = .ok (.iconst 0, 1) := by decide +kernel
theorem dX7_merge_1 : decode cX7_merge 1 = .ok (.istore_n 3, 1) := by decide +kernel
theorem dX7_merge_2 : decode cX7_merge 2 = .ok (.iload_n 3, 1) := by decide +kernel
theorem dX7_merge_3 : decode cX7_merge 3 = .ok (.iconst 3, 1) := by decide +kernel
theorem dX7_merge_4 : decode cX7_merge 4 = .ok (.if_icmp .ge 37, 3) := by decide +kernel
theorem dX7_merge_7 : decode cX7_merge 7 = .ok (.aload_n 1, 1) := by decide +kernel
theorem dX7_merge_8 : decode cX7_merge 8 = .ok (.getfield 138, 3) := by decide +kernel
theorem dX7_merge_11 : decode cX7_merge 11 = .ok (.iload_n 3, 1) := by decide +kernel
theorem dX7_merge_12 : decode cX7_merge 12 = .ok (.invokevirtual 142, 3) := by decide +kernel
theorem dX7_merge_15 : decode cX7_merge 15 = .ok (.aload_n 2, 1) := by decide +kernel
theorem dX7_merge_16 : decode cX7_merge 16 = .ok (.getfield 138, 3) := by decide +kernel
theorem dX7_merge_19 : decode cX7_merge 19 = .ok (.iload_n 3, 1) := by decide +kernel
theorem dX7_merge_20 : decode cX7_merge 20 = .ok (.invokevirtual 142, 3) := by decide +kernel
theorem dX7_merge_23 : decode cX7_merge 23 = .ok (.if_icmp .eq 12, 3) := by decide +kernel
theorem dX7_merge_26 : decode cX7_merge 26 = .ok (.aload_n 1, 1) := by decide +kernel
theorem dX7_merge_27 : decode cX7_merge 27 = .ok (.getfield 138, 3) := by decide +kernel
theorem dX7_merge_30 : decode cX7_merge 30 = .ok (.iload_n 3, 1) := by decide +kernel
theorem dX7_merge_31 : decode cX7_merge 31 = .ok (.iconst (-1), 1) := by decide +kernel
theorem dX7_merge_32 : decode cX7_merge 32 = .ok (.invokevirtual 341, 3) := by decide +kernel
theorem dX7_merge_35 : decode cX7_merge 35 = .ok (.iinc 3 1, 3) := by decide +kernel
theorem dX7_merge_38 : decode cX7_merge 38 = .ok (.goto (-36), 3) := by decide +kernel
theorem dX7_merge_41 : decode cX7_merge 41 = .ok (.aload_n 2, 1) := by decide +kernel
theorem dX7_merge_42 : decode cX7_merge 42 = .ok (.iconst 1, 1) := by decide +kernel
theorem dX7_merge_43 : decode cX7_merge 43 = .ok (.putfield 127, 3) := by decide +kernel
theorem dX7_merge_46 : decode cX7_merge 46 = .ok (.iconst 0, 1) := by decide +kernel
theorem dX7_merge_47 : decode cX7_merge 47 = .ok (.istore_n 3, 1) := by decide +kernel
theorem dX7_merge_48 : decode cX7_merge 48 = .ok (.iload_n 3, 1) := by decide +kernel
theorem dX7_merge_49 : decode cX7_merge 49 = .ok (.aload_n 0, 1) := by decide +kernel
theorem dX7_merge_50 : decode cX7_merge 50 = .ok (.getfield 10, 3) := by decide +kernel
theorem dX7_merge_53 : decode cX7_merge 53 = .ok (.invokevirtual 53, 3) := by decide +kernel
theorem dX7_merge_56 : decode cX7_merge 56 = .ok (.if_icmp .ge 37, 3) := by decide +kernel
theorem dX7_merge_59 : decode cX7_merge 59 = .ok (.aload_n 0, 1) := by decide +kernel
theorem dX7_merge_60 : decode cX7_merge 60 = .ok (.getfield 10, 3) := by decide +kernel
theorem dX7_merge_63 : decode cX7_merge 63 = .ok (.iload_n 3, 1) := by decide +kernel
theorem dX7_merge_64 : decode cX7_merge 64 = .ok (.invokevirtual 120, 3) := by decide +kernel
theorem dX7_merge_67 : decode cX7_merge 67 = .ok (.checkcast 74, 3) := by decide +kernel
theorem dX7_merge_70 : decode cX7_merge 70 = .ok (.astore 4, 2) := by decide +kernel
theorem dX7_merge_72 : decode cX7_merge 72 = .ok (.aload 4, 2) := by decide +kernel
theorem dX7_merge_74 : decode cX7_merge 74 = .ok (.getfield 107, 3) := by decide +kernel
theorem dX7_merge_77 : decode cX7_merge 77 = .ok (.aload_n 2, 1) := by decide +kernel
theorem dX7_merge_78 : decode cX7_merge 78 = .ok (.if_acmp .ne 9, 3) := by decide +kernel
theorem dX7_merge_81 : decode cX7_merge 81 = .ok (.aload 4, 2) := by decide +kernel
theorem dX7_merge_83 : decode cX7_merge 83 = .ok (.aload_n 1, 1) := by decide +kernel
theorem dX7_merge_84 : decode cX7_merge 84 = .ok (.putfield 107, 3) := by decide +kernel
theorem dX7_merge_87 : decode cX7_merge 87 = .ok (.iinc 3 1, 3) := by decide +kernel
theorem dX7_merge_90 : decode cX7_merge 90 = .ok (.goto (-42), 3) := by decide +kernel
theorem dX7_merge_93 : decode cX7_merge 93 = .ok (.return_, 1) := by decide +kernel
set_option maxRecDepth 20000 in
theorem ggX7_countFromAllLines_Jx4a65c_size_8abf5 : GoodIn wsX7_countFromAllLines wsJx4a65c_size_8abf5 := goodIn_r _ [8, 9, 60, 61, 62] (by decide +kernel) (by decide +kernel)
set_option maxRecDepth 20000 in
theorem gX7_countFromAllLines_Jx4a65c_size_8abf5 : GoodIn wsX7_countFromAllLines (wsV RX7 53 RJx4a65c yJx4a65c_size_8abf5 wsJx4a65c_size_8abf5) := goodIn_app (goodIn_of _ (by decide +kernel)) ggX7_countFromAllLines_Jx4a65c_size_8abf5
set_option maxRecDepth 20000 in
theorem ggX7_countFromAllLines_Jx4a65c_get_915e3 : GoodIn wsX7_countFromAllLines wsJx4a65c_get_915e3 := goodIn_r _ [13, 9, 14, 15, 16, 17, 18, 19, 20, 21, 22, 23, 24, 7, 25, 26, 60, 61, 62] (by decide +kernel) (by decide +kernel)
set_option maxRecDepth 20000 in
theorem gX7_countFromAllLines_Jx4a65c_get_915e3 : GoodIn wsX7_countFromAllLines (wsV RX7 120 RJx4a65c yJx4a65c_get_915e3 wsJx4a65c_get_915e3) := goodIn_app (goodIn_of _ (by decide +kernel)) ggX7_countFromAllLines_Jx4a65c_get_915e3
set_option maxRecDepth 20000 in
theorem ggX7_countFromAllLines_X0_counts : GoodIn wsX7_countFromAllLines wsX0_counts := goodIn_r _ [30, 31, 32, 33, 34, 35, 36, 37, 38, 39, 40, 41, 42, 43, 44, 45, 46, 47, 48, 49, 50, 51, 52, 63, 64, 65, 66, 67, 68, 69, 70, 71, 72, 73, 74, 75, 76, 77, 78, 79, 80, 81, 82, 83, 84, 85, 86] (by decide +kernel) (by decide +kernel)
set_option maxRecDepth 20000 in
theorem gX7_countFromAllLines_X0_counts_n345 : GoodIn wsX7_countFromAllLines (wsX0_counts) := ggX7_countFromAllLines_X0_counts
theorem dX7_countFromAllLines_0 : decode cX7_countFromAllLines 0 = .ok (.iconst 0, 1) := by decide +kernel
theorem dX7_countFromAllLines_1 : decode cX7_countFromAllLines 1 = .ok (.istore_n 2, 1) := by decide +kernel
theorem dX7_countFromAllLines_2 : decode cX7_countFromAllLines 2 = .ok (.iconst 0, 1) := by decide +kernel
theorem dX7_countFromAllLines_3 : decode cX7_countFromAllLines 3 = .ok (.istore_n 3, 1) := by decide +kernel
theorem dX7_countFromAllLines_4 : decode cX7_countFromAllLines 4 = .ok (.iload_n 3, 1) := by decide +kernel
theorem dX7_countFromAllLines_5 : decode cX7_countFromAllLines 5 = .ok (.aload_n 0, 1) := by decide +kernel
theorem dX7_countFromAllLines_6 : decode cX7_countFromAllLines 6 = .ok (.getfield 10, 3) := by decide +kernel
theorem dX7_countFromAllLines_9 : decode cX7_countFromAllLines 9 = .ok (.invokevirtual 53, 3) := by decide +kernel
theorem dX7_countFromAllLines_12 : decode cX7_countFromAllLines 12 = .ok (.if_icmp .ge 34, 3) := by decide +kernel
theorem dX7_countFromAllLines_15 : decode cX7_countFromAllLines 15 = .ok (.aload_n 1, 1) := by decide +kernel
theorem dX7_countFromAllLines_16 : decode cX7_countFromAllLines 16 = .ok (.aload_n 0, 1) := by decide +kernel
theorem dX7_countFromAllLines_17 : decode cX7_countFromAllLines 17 = .ok (.getfield 10, 3) := by decide +kernel
theorem dX7_countFromAllLines_20 : decode cX7_countFromAllLines 20 = .ok (.iload_n 3, 1) := by decide +kernel
theorem dX7_countFromAllLines_21 : decode cX7_countFromAllLines 21 = .ok (.invokevirtual 120, 3) := by decide +kernel
theorem dX7_countFromAllLines_24 : decode cX7_countFromAllLines 24 = .ok (.checkcast 74, 3) := by decide +kernel
theorem dX7_countFromAllLines_27 : decode cX7_countFromAllLines 27 = .ok (.aload_n 0, 1) := by decide +kernel
theorem dX7_countFromAllLines_28 : decode cX7_countFromAllLines 28 = .ok (.getfield 76, 3) := by decide +kernel
theorem dX7_countFromAllLines_31 : decode cX7_countFromAllLines 31 = .ok (.invokevirtual 345, 3) := by decide +kernel
theorem dX7_countFromAllLines_34 : decode cX7_countFromAllLines 34 = .ok (.ifCond .eq 6, 3) := by decide +kernel
theorem dX7_countFromAllLines_37 : decode cX7_countFromAllLines 37 = .ok (.iinc 2 1, 3) := by decide +kernel
theorem dX7_countFromAllLines_40 : decode cX7_countFromAllLines 40 = .ok (.iinc 3 1, 3) := by decide +kernel
theorem dX7_countFromAllLines_43 : decode cX7_countFromAllLines 43 = .ok (.goto (-39), 3) := by decide +kernel
theorem dX7_countFromAllLines_46 : decode cX7_countFromAllLines 46 = .ok (.iload_n 2, 1) := by decide +kernel
theorem dX7_countFromAllLines_47 : decode cX7_countFromAllLines 47 = .ok (.ireturn, 1) := by decide +kernel
set_option maxRecDepth 20000 in
theorem ggX7_showToAlerts_Jx4a65c_size_8abf5 : GoodIn wsX7_showToAlerts wsJx4a65c_size_8abf5 := goodIn_r _ [7, 8, 149, 150, 151] (by decide +kernel) (by decide +kernel)
set_option maxRecDepth 20000 in
theorem gX7_showToAlerts_Jx4a65c_size_8abf5 : GoodIn wsX7_showToAlerts (wsV RX7 53 RJx4a65c yJx4a65c_size_8abf5 wsJx4a65c_size_8abf5) := goodIn_app (goodIn_of _ (by decide +kernel)) ggX7_showToAlerts_Jx4a65c_size_8abf5
set_option maxRecDepth 20000 in
theorem ggX7_showToAlerts_Jx4a65c_get_915e3 : GoodIn wsX7_showToAlerts wsJx4a65c_get_915e3 := goodIn_r _ [12, 8, 13, 14, 15, 16, 17, 18, 19, 20, 21, 22, 23, 6, 24, 25, 149, 150, 151] (by decide +kernel) (by decide +kernel)
set_option maxRecDepth 20000 in
theorem gX7_showToAlerts_Jx4a65c_get_915e3 : GoodIn wsX7_showToAlerts (wsV RX7 120 RJx4a65c yJx4a65c_get_915e3 wsJx4a65c_get_915e3) := goodIn_app (goodIn_of _ (by decide +kernel)) ggX7_showToAlerts_Jx4a65c_get_915e3
set_option maxRecDepth 20000 in
theorem ggX7_showToAlerts_X7_countIfDue : GoodIn wsX7_showToAlerts wsX7_countIfDue := goodIn_r _ [30, 31, 32, 33, 34, 35, 36, 37, 38, 39, 40, 41, 42, 43, 44, 45, 46, 47, 48, 49, 50, 51, 52, 53, 54, 55, 56, 57, 142, 143, 144, 145, 146, 147, 148, 152, 153, 154, 155, 156, 157, 158, 159, 160, 161, 162, 163, 164, 165, 166, 167, 168, 169, 170, 171, 172, 173, 174, 175] (by decide +kernel) (by decide +kernel)
set_option maxRecDepth 20000 in
theorem gX7_showToAlerts_X7_countIfDue : GoodIn wsX7_showToAlerts (wsV RX7 200 RX7 yX7_countIfDue wsX7_countIfDue) := goodIn_app (goodIn_of _ (by decide +kernel)) ggX7_showToAlerts_X7_countIfDue
set_option maxRecDepth 20000 in
theorem ggX7_showToAlerts_X7_lookAtAlert : GoodIn wsX7_showToAlerts wsX7_lookAtAlert := goodIn_ca (goodIn_r _ [61, 62, 63, 64, 31, 65, 66, 67, 68, 69, 70, 71, 72, 73, 74, 75, 76, 77, 6, 78, 79, 80, 25, 8, 81, 82, 83, 84, 85, 86, 87, 88, 89, 90, 91, 92, 93, 94, 95, 96, 97, 98, 99, 100, 101, 102, 103, 104, 105, 106, 107, 108, 109, 110, 111, 112, 113, 114, 115, 116, 117, 118, 119, 120, 121, 122, 123, 124, 125, 126, 127, 128, 129, 130, 29, 131, 132, 133, 3, 4, 5, 7, 9, 10, 11, 12, 13, 14, 15, 16, 17, 18, 19, 20, 21, 22, 23, 24, 38, 39, 40, 41, 42, 32, 33, 34, 35, 36, 37, 43, 44, 45, 46, 47, 48, 49, 50, 51, 52, 53, 54, 55, 56, 57, 134, 135, 136, 137, 138, 139, 140, 141, 152, 153, 154, 155, 156, 157, 158, 159, 160, 176, 177, 178, 179, 180, 142, 143, 144, 145, 146, 147, 148, 149, 150, 151, 161, 162, 163, 164, 165, 166, 167, 168, 169, 170, 171, 172, 173, 174, 175] (by decide +kernel) (by decide +kernel)) (goodIn_sub (fun _ h => List.mem_cons_of_mem _ (List.mem_append_right _ h)) (by decide +kernel))
set_option maxRecDepth 20000 in
theorem gX7_showToAlerts_X7_lookAtAlert : GoodIn wsX7_showToAlerts (wsV RX7 204 RX7 yX7_lookAtAlert wsX7_lookAtAlert) := goodIn_app (goodIn_of _ (by decide +kernel)) ggX7_showToAlerts_X7_lookAtAlert
theorem dX7_showToAlerts_0 : decode cX7_showToAlerts 0 = .ok (.iconst 0, 1) := by decide +kernel
theorem dX7_showToAlerts_1 : decode cX7_showToAlerts 1 = .ok (.istore_n 2, 1) := by decide +kernel
theorem dX7_showToAlerts_2 : decode cX7_showToAlerts 2 = .ok (.iload_n 2, 1) := by decide +kernel
theorem dX7_showToAlerts_3 : decode cX7_showToAlerts 3 = .ok (.aload_n 0, 1) := by decide +kernel
theorem dX7_showToAlerts_4 : decode cX7_showToAlerts 4 = .ok (.getfield 19, 3) := by decide +kernel
theorem dX7_showToAlerts_7 : decode cX7_showToAlerts 7 = .ok (.invokevirtual 53, 3) := by decide +kernel
theorem dX7_showToAlerts_10 : decode cX7_showToAlerts 10 = .ok (.if_icmp .ge 32, 3) := by decide +kernel
theorem dX7_showToAlerts_13 : decode cX7_showToAlerts 13 = .ok (.aload_n 0, 1) := by decide +kernel
theorem dX7_showToAlerts_14 : decode cX7_showToAlerts 14 = .ok (.getfield 19, 3) := by decide +kernel
theorem dX7_showToAlerts_17 : decode cX7_showToAlerts 17 = .ok (.iload_n 2, 1) := by decide +kernel
theorem dX7_showToAlerts_18 : decode cX7_showToAlerts 18 = .ok (.invokevirtual 120, 3) := by decide +kernel
theorem dX7_showToAlerts_21 : decode cX7_showToAlerts 21 = .ok (.checkcast 195, 3) := by decide +kernel
theorem dX7_showToAlerts_24 : decode cX7_showToAlerts 24 = .ok (.astore_n 3, 1) := by decide +kernel
theorem dX7_showToAlerts_25 : decode cX7_showToAlerts 25 = .ok (.aload_n 0, 1) := by decide +kernel
theorem dX7_showToAlerts_26 : decode cX7_showToAlerts 26 = .ok (.aload_n 3, 1) := by decide +kernel
theorem dX7_showToAlerts_27 : decode cX7_showToAlerts 27 = .ok (.aload_n 1, 1) := by decide +kernel
theorem dX7_showToAlerts_28 : decode cX7_showToAlerts 28 = .ok (.invokevirtual 200, 3) := by decide +kernel
theorem dX7_showToAlerts_31 : decode cX7_showToAlerts 31 = .ok (.aload_n 0, 1) := by decide +kernel
theorem dX7_showToAlerts_32 : decode cX7_showToAlerts 32 = .ok (.aload_n 3, 1) := by decide +kernel
theorem dX7_showToAlerts_33 : decode cX7_showToAlerts 33 = .ok (.invokevirtual 204, 3) := by decide +kernel
theorem dX7_showToAlerts_36 : decode cX7_showToAlerts 36 = .ok (.iinc 2 1, 3) := by decide +kernel
theorem dX7_showToAlerts_39 : decode cX7_showToAlerts 39 = .ok (.goto (-37), 3) := by decide +kernel
theorem dX7_showToAlerts_42 : decode cX7_showToAlerts 42 = .ok (.return_, 1) := by decide +kernel
set_option maxRecDepth 20000 in
theorem ggX7_countIfDue_X0_counts : GoodIn wsX7_countIfDue wsX0_counts := goodIn_r _ [5, 6, 7, 8, 9, 10, 11, 12, 13, 14, 15, 16, 17, 18, 19, 20, 21, 22, 23, 24, 25, 26, 27, 44, 45, 46, 47, 48, 49, 50, 51, 35, 36, 37, 38, 39, 40, 41, 42, 43, 52, 53, 54, 55, 56, 57, 58] (by decide +kernel) (by decide +kernel)
set_option maxRecDepth 20000 in
theorem gX7_countIfDue_X0_counts_n345 : GoodIn wsX7_countIfDue (wsX0_counts) := ggX7_countIfDue_X0_counts
theorem dX7_countIfDue_0 : decode cX7_countIfDue 0 = .ok (.aload_n 1, 1) := by decide +kernel
theorem dX7_countIfDue_1 : decode cX7_countIfDue 1 = .ok (.aload_n 2, 1) := by decide +kernel
theorem dX7_countIfDue_2 : decode cX7_countIfDue 2 = .ok (.aload_n 0, 1) := by decide +kernel
theorem dX7_countIfDue_3 : decode cX7_countIfDue 3 = .ok (.getfield 76, 3) := by decide +kernel
theorem dX7_countIfDue_6 : decode cX7_countIfDue 6 = .ok (.invokevirtual 345, 3) := by decide +kernel
theorem dX7_countIfDue_9 : decode cX7_countIfDue 9 = .ok (.ifCond .eq 23, 3) := by decide +kernel
theorem dX7_countIfDue_12 : decode cX7_countIfDue 12 = .ok (.aload_n 1, 1) := by decide +kernel
theorem dX7_countIfDue_13 : decode cX7_countIfDue 13 = .ok (.dup, 1) := by decide +kernel
theorem dX7_countIfDue_14 : decode cX7_countIfDue 14 = .ok (.getfield 213, 3) := by decide +kernel
theorem dX7_countIfDue_17 : decode cX7_countIfDue 17 = .ok (.iconst 1, 1) := by decide +kernel
theorem dX7_countIfDue_18 : decode cX7_countIfDue 18 = .ok (.iadd, 1) := by decide +kernel
theorem dX7_countIfDue_19 : decode cX7_countIfDue 19 = .ok (.putfield 213, 3) := by decide +kernel
theorem dX7_countIfDue_22 : decode cX7_countIfDue 22 = .ok (.aload_n 2, 1) := by decide +kernel
theorem dX7_countIfDue_23 : decode cX7_countIfDue 23 = .ok (.dup, 1) := by decide +kernel
theorem dX7_countIfDue_24 : decode cX7_countIfDue 24 = .ok (.getfield 263, 3) := by decide +kernel
theorem dX7_countIfDue_27 : decode cX7_countIfDue 27 = .ok (.iconst 1, 1) := by decide +kernel
theorem dX7_countIfDue_28 : decode cX7_countIfDue 28 = .ok (.iadd, 1) := by decide +kernel
theorem dX7_countIfDue_29 : decode cX7_countIfDue 29 = .ok (.putfield 263, 3) := by decide +kernel
theorem dX7_countIfDue_32 : decode cX7_countIfDue 32 = .ok (.return_, 1) := by decide +kernel
set_option maxRecDepth 20000 in
theorem ggX7_lookAtAlert_X2_init : GoodIn wsX7_lookAtAlert wsX2_init := goodIn_r _ [7, 8, 9, 10, 11, 12, 13, 14, 141, 142, 143, 144, 145] (by decide +kernel) (by decide +kernel)
set_option maxRecDepth 20000 in
theorem gX7_lookAtAlert_X2_init_n352 : GoodIn wsX7_lookAtAlert (wsX2_init) := ggX7_lookAtAlert_X2_init
set_option maxRecDepth 20000 in
theorem ggX7_lookAtAlert_Jx4a65c_add_9ea2d : GoodIn wsX7_lookAtAlert wsJx4a65c_add_9ea2d := goodIn_r _ [19, 20, 21, 22, 23, 24, 25, 26, 18, 27, 28, 29, 30, 31, 32, 33, 34, 35, 36, 37, 38, 39, 40, 41, 42, 43, 44, 45, 46, 47, 48, 49, 50, 51, 52, 53, 54, 55, 56, 57, 58, 59, 60, 61, 62, 63, 64, 65, 66, 67, 68, 69, 70, 153, 154, 155] (by decide +kernel) (by decide +kernel)
set_option maxRecDepth 20000 in
theorem gX7_lookAtAlert_Jx4a65c_add_9ea2d : GoodIn wsX7_lookAtAlert (wsV RX7 83 RJx4a65c yJx4a65c_add_9ea2d wsJx4a65c_add_9ea2d) := goodIn_app (goodIn_of _ (by decide +kernel)) ggX7_lookAtAlert_Jx4a65c_add_9ea2d
set_option maxRecDepth 20000 in
theorem ggX7_lookAtAlert_X7_standOnCounted : GoodIn wsX7_lookAtAlert wsX7_standOnCounted := goodIn_ca (goodIn_r _ [75, 76, 77, 4, 78, 79, 80, 18, 81, 23, 82, 83, 84, 85, 86, 87, 88, 89, 90, 91, 92, 93, 94, 95, 96, 97, 22, 98, 99, 100, 101, 102, 103, 104, 105, 106, 107, 108, 109, 110, 111, 112, 113, 114, 115, 116, 117, 118, 119, 120, 121, 122, 123, 124, 3, 125, 126, 12, 127, 128, 129, 130, 131, 141, 142, 143, 144, 145, 146, 147, 148, 149, 150, 151, 152, 132, 133, 134, 135, 136, 137, 138, 139, 140, 156, 157, 158, 159, 160, 161, 162, 163, 153, 154, 155, 164, 165, 166, 167, 168, 169, 170] (by decide +kernel) (by decide +kernel)) (goodIn_sub (fun _ h => List.mem_cons_of_mem _ (List.mem_append_right _ h)) (by decide +kernel))
set_option maxRecDepth 20000 in
theorem gX7_lookAtAlert_X7_standOnCounted : GoodIn wsX7_lookAtAlert (wsV RX7 355 RX7 yX7_standOnCounted wsX7_standOnCounted) := goodIn_app (goodIn_of _ (by decide +kernel)) ggX7_lookAtAlert_X7_standOnCounted
theorem dX7_lookAtAlert_0 : decode cX7_lookAtAlert 0 = .ok (.aload_n 1, 1) := by decide +kernel
theorem dX7_lookAtAlert_1 : decode cX7_lookAtAlert 1 = .ok (.getfield 213, 3) := by decide +kernel
theorem dX7_lookAtAlert_4 : decode cX7_lookAtAlert 4 = .ok (.aload_n 1, 1) := by decide +kernel
theorem dX7_lookAtAlert_5 : decode cX7_lookAtAlert 5 = .ok (.getfield 349, 3) := by decide +kernel
theorem dX7_lookAtAlert_8 : decode cX7_lookAtAlert 8 = .ok (.if_icmp .lt 69, 3) := by decide +kernel
theorem dX7_lookAtAlert_11 : decode cX7_lookAtAlert 11 = .ok (.aload_n 1, 1) := by decide +kernel
theorem dX7_lookAtAlert_12 : decode cX7_lookAtAlert 12 = .ok (.getfield 212, 3) := by decide +kernel
theorem dX7_lookAtAlert_15 : decode cX7_lookAtAlert 15 = .ok (.bipush 113, 2) := by decide +kernel
theorem dX7_lookAtAlert_17 : decode cX7_lookAtAlert 17 = .ok (.if_icmp .eq 10, 3) := by decide +kernel
theorem dX7_lookAtAlert_20 : decode cX7_lookAtAlert 20 = .ok (.aload_n 1, 1) := by decide +kernel
theorem dX7_lookAtAlert_21 : decode cX7_lookAtAlert 21 = .ok (.getfield 247, 3) := by decide +kernel
theorem dX7_lookAtAlert_24 : decode cX7_lookAtAlert 24 = .ok (.ifnonnull 31, 3) := by decide +kernel
theorem dX7_lookAtAlert_27 : decode cX7_lookAtAlert 27 = .ok (.aload_n 1, 1) := by decide +kernel
theorem dX7_lookAtAlert_28 : decode cX7_lookAtAlert 28 = .ok (.new 228, 3) := by decide +kernel
theorem dX7_lookAtAlert_31 : decode cX7_lookAtAlert 31 = .ok (.dup, 1) := by decide +kernel
theorem dX7_lookAtAlert_32 : decode cX7_lookAtAlert 32 = .ok (.aload_n 1, 1) := by decide +kernel
theorem dX7_lookAtAlert_33 : decode cX7_lookAtAlert 33 = .ok (.aload_n 0, 1) := by decide +kernel
theorem dX7_lookAtAlert_34 : decode cX7_lookAtAlert 34 = .ok (.getfield 76, 3) := by decide +kernel
theorem dX7_lookAtAlert_37 : decode cX7_lookAtAlert 37 = .ok (.invokespecial 352, 3) := by decide +kernel
theorem dX7_lookAtAlert_40 : decode cX7_lookAtAlert 40 = .ok (.putfield 247, 3) := by decide +kernel
theorem dX7_lookAtAlert_43 : decode cX7_lookAtAlert 43 = .ok (.aload_n 0, 1) := by decide +kernel
theorem dX7_lookAtAlert_44 : decode cX7_lookAtAlert 44 = .ok (.getfield 22, 3) := by decide +kernel
theorem dX7_lookAtAlert_47 : decode cX7_lookAtAlert 47 = .ok (.aload_n 1, 1) := by decide +kernel
theorem dX7_lookAtAlert_48 : decode cX7_lookAtAlert 48 = .ok (.getfield 247, 3) := by decide +kernel
theorem dX7_lookAtAlert_51 : decode cX7_lookAtAlert 51 = .ok (.invokevirtual 83, 3) := by decide +kernel
theorem dX7_lookAtAlert_54 : decode cX7_lookAtAlert 54 = .ok (.pop, 1) := by decide +kernel
theorem dX7_lookAtAlert_55 : decode cX7_lookAtAlert 55 = .ok (.aload_n 1, 1) := by decide +kernel
theorem dX7_lookAtAlert_56 : decode cX7_lookAtAlert 56 = .ok (.bipush 102, 2) := by decide +kernel
theorem dX7_lookAtAlert_58 : decode cX7_lookAtAlert 58 = .ok (.putfield 212, 3) := by decide +kernel
theorem dX7_lookAtAlert_61 : decode cX7_lookAtAlert 61 = .ok (.aload_n 1, 1) := by decide +kernel
theorem dX7_lookAtAlert_62 : decode cX7_lookAtAlert 62 = .ok (.iconst 0, 1) := by decide +kernel
theorem dX7_lookAtAlert_63 : decode cX7_lookAtAlert 63 = .ok (.putfield 220, 3) := by decide +kernel
theorem dX7_lookAtAlert_66 : decode cX7_lookAtAlert 66 = .ok (.aload_n 0, 1) := by decide +kernel
theorem dX7_lookAtAlert_67 : decode cX7_lookAtAlert 67 = .ok (.aload_n 1, 1) := by decide +kernel
theorem dX7_lookAtAlert_68 : decode cX7_lookAtAlert 68 = .ok (.getfield 247, 3) := by decide +kernel
theorem dX7_lookAtAlert_71 : decode cX7_lookAtAlert 71 = .ok (.invokevirtual 355, 3) := by decide +kernel
theorem dX7_lookAtAlert_74 : decode cX7_lookAtAlert 74 = .ok (.goto 38, 3) := by decide +kernel
theorem dX7_lookAtAlert_77 : decode cX7_lookAtAlert 77 = .ok (.aload_n 1, 1) := by decide +kernel
theorem dX7_lookAtAlert_78 : decode cX7_lookAtAlert 78 = .ok (.getfield 212, 3) := by decide +kernel
theorem dX7_lookAtAlert_81 : decode cX7_lookAtAlert 81 = .ok (.bipush 102, 2) := by decide +kernel
theorem dX7_lookAtAlert_83 : decode cX7_lookAtAlert 83 = .ok (.if_icmp .ne 29, 3) := by decide +kernel
theorem dX7_lookAtAlert_86 : decode cX7_lookAtAlert 86 = .ok (.aload_n 1, 1) := by decide +kernel
theorem dX7_lookAtAlert_87 : decode cX7_lookAtAlert 87 = .ok (.aload_n 1, 1) := by decide +kernel
theorem dX7_lookAtAlert_88 : decode cX7_lookAtAlert 88 = .ok (.getfield 358, 3) := by decide +kernel
theorem dX7_lookAtAlert_91 : decode cX7_lookAtAlert 91 = .ok (.ifCond .le 8, 3) := by decide +kernel
theorem dX7_lookAtAlert_94 : decode cX7_lookAtAlert 94 = .ok (.bipush 104, 2) := by decide +kernel
theorem dX7_lookAtAlert_96 : decode cX7_lookAtAlert 96 = .ok (.goto 5, 3) := by decide +kernel
theorem dX7_lookAtAlert_99 : decode cX7_lookAtAlert 99 = .ok (.bipush 113, 2) := by decide +kernel
theorem dX7_lookAtAlert_101 : decode cX7_lookAtAlert 101 = .ok (.putfield 212, 3) := by decide +kernel
theorem dX7_lookAtAlert_104 : decode cX7_lookAtAlert 104 = .ok (.aload_n 1, 1) := by decide +kernel
theorem dX7_lookAtAlert_105 : decode cX7_lookAtAlert 105 = .ok (.aload_n 1, 1) := by decide +kernel
theorem dX7_lookAtAlert_106 : decode cX7_lookAtAlert 106 = .ok (.getfield 358, 3) := by decide +kernel
theorem dX7_lookAtAlert_109 : decode cX7_lookAtAlert 109 = .ok (.putfield 220, 3) := by decide +kernel
theorem dX7_lookAtAlert_112 : decode cX7_lookAtAlert 112 = .ok (.return_, 1) := by decide +kernel
set_option maxRecDepth 20000 in
theorem ggX7_standOnCounted_Jx4a65c_size_8abf5 : GoodIn wsX7_standOnCounted wsJx4a65c_size_8abf5 := goodIn_r _ [8, 9, 92, 93, 94] (by decide +kernel) (by decide +kernel)
set_option maxRecDepth 20000 in
theorem gX7_standOnCounted_Jx4a65c_size_8abf5 : GoodIn wsX7_standOnCounted (wsV RX7 53 RJx4a65c yJx4a65c_size_8abf5 wsJx4a65c_size_8abf5) := goodIn_app (goodIn_of _ (by decide +kernel)) ggX7_standOnCounted_Jx4a65c_size_8abf5
set_option maxRecDepth 20000 in
theorem ggX7_standOnCounted_Jx4a65c_get_915e3 : GoodIn wsX7_standOnCounted wsJx4a65c_get_915e3 := goodIn_r _ [13, 9, 14, 15, 16, 17, 18, 19, 20, 21, 22, 23, 24, 7, 25, 26, 92, 93, 94] (by decide +kernel) (by decide +kernel)
set_option maxRecDepth 20000 in
theorem gX7_standOnCounted_Jx4a65c_get_915e3 : GoodIn wsX7_standOnCounted (wsV RX7 120 RJx4a65c yJx4a65c_get_915e3 wsJx4a65c_get_915e3) := goodIn_app (goodIn_of _ (by decide +kernel)) ggX7_standOnCounted_Jx4a65c_get_915e3
set_option maxRecDepth 20000 in
theorem ggX7_standOnCounted_X3_cameWithin : GoodIn wsX7_standOnCounted wsX3_cameWithin := goodIn_r _ [30, 31, 84, 85, 86, 87, 88, 89, 90, 91] (by decide +kernel) (by decide +kernel)
set_option maxRecDepth 20000 in
theorem gX7_standOnCounted_X3_cameWithin_n364 : GoodIn wsX7_standOnCounted (wsX3_cameWithin) := ggX7_standOnCounted_X3_cameWithin
set_option maxRecDepth 20000 in
theorem ggX7_standOnCounted_X0_counts : GoodIn wsX7_standOnCounted wsX0_counts := goodIn_r _ [35, 36, 37, 27, 28, 29, 30, 31, 38, 39, 40, 41, 42, 43, 44, 45, 46, 47, 48, 49, 50, 51, 52, 84, 85, 86, 87, 88, 89, 90, 91, 75, 76, 77, 78, 79, 80, 81, 82, 83, 95, 96, 97, 98, 99, 100, 101] (by decide +kernel) (by decide +kernel)
set_option maxRecDepth 20000 in
theorem gX7_standOnCounted_X0_counts_n345 : GoodIn wsX7_standOnCounted (wsX0_counts) := ggX7_standOnCounted_X0_counts
set_option maxRecDepth 20000 in
theorem ggX7_standOnCounted_X2_hasLine : GoodIn wsX7_standOnCounted wsX2_hasLine := goodIn_ca (goodIn_r _ [56, 57, 63, 64, 65, 66, 67] (by decide +kernel) (by decide +kernel)) (goodIn_sub (fun _ h => List.mem_cons_of_mem _ (List.mem_append_right _ h)) (by decide +kernel))
set_option maxRecDepth 20000 in
theorem gX7_standOnCounted_X2_hasLine_n239 : GoodIn wsX7_standOnCounted (wsX2_hasLine) := ggX7_standOnCounted_X2_hasLine
set_option maxRecDepth 20000 in
theorem ggX7_standOnCounted_X2_putLine : GoodIn wsX7_standOnCounted wsX2_putLine := goodIn_ca (goodIn_r _ [60, 57, 61, 62, 53, 55, 54, 56, 63, 64, 65, 66, 67] (by decide +kernel) (by decide +kernel)) (goodIn_sub (fun _ h => List.mem_cons_of_mem _ (List.mem_append_right _ h)) (by decide +kernel))
set_option maxRecDepth 20000 in
theorem gX7_standOnCounted_X2_putLine_n368 : GoodIn wsX7_standOnCounted (wsX2_putLine) := ggX7_standOnCounted_X2_putLine
theorem dX7_standOnCounted_0 : decode cX7_standOnCounted 0 = .ok (.aload_n 1, 1) := by decide +kernel
theorem dX7_standOnCounted_1 : decode cX7_standOnCounted 1 = .ok (.getfield 227, 3) := by decide +kernel
theorem dX7_standOnCounted_4 : decode cX7_standOnCounted 4 = .ok (.astore_n 2, 1) := by decide +kernel
theorem dX7_standOnCounted_5 : decode cX7_standOnCounted 5 = .ok (.aload_n 0, 1) := by decide +kernel
theorem dX7_standOnCounted_6 : decode cX7_standOnCounted 6 = .ok (.getfield 10, 3) := by decide +kernel
theorem dX7_standOnCounted_9 : decode cX7_standOnCounted 9 = .ok (.invokevirtual 53, 3) := by decide +kernel
theorem dX7_standOnCounted_12 : decode cX7_standOnCounted 12 = .ok (.iconst 1, 1) := by decide +kernel
theorem dX7_standOnCounted_13 : decode cX7_standOnCounted 13 = .ok (.isub, 1) := by decide +kernel
theorem dX7_standOnCounted_14 : decode cX7_standOnCounted 14 = .ok (.istore_n 3, 1) := by decide +kernel
theorem dX7_standOnCounted_15 : decode cX7_standOnCounted 15 = .ok (.iload_n 3, 1) := by decide +kernel
theorem dX7_standOnCounted_16 : decode cX7_standOnCounted 16 = .ok (.ifCond .lt 76, 3) := by decide +kernel
theorem dX7_standOnCounted_19 : decode cX7_standOnCounted 19 = .ok (.aload_n 0, 1) := by decide +kernel
theorem dX7_standOnCounted_20 : decode cX7_standOnCounted 20 = .ok (.getfield 10, 3) := by decide +kernel
theorem dX7_standOnCounted_23 : decode cX7_standOnCounted 23 = .ok (.iload_n 3, 1) := by decide +kernel
theorem dX7_standOnCounted_24 : decode cX7_standOnCounted 24 = .ok (.invokevirtual 120, 3) := by decide +kernel
theorem dX7_standOnCounted_27 : decode cX7_standOnCounted 27 = .ok (.checkcast 74, 3) := by decide +kernel
theorem dX7_standOnCounted_30 : decode cX7_standOnCounted 30 = .ok (.astore 4, 2) := by decide +kernel
theorem dX7_standOnCounted_32 : decode cX7_standOnCounted 32 = .ok (.aload 4, 2) := by decide +kernel
theorem dX7_standOnCounted_34 : decode cX7_standOnCounted 34 = .ok (.aload_n 2, 1) := by decide +kernel
theorem dX7_standOnCounted_35 : decode cX7_standOnCounted 35 = .ok (.getfield 361, 3) := by decide +kernel
theorem dX7_standOnCounted_38 : decode cX7_standOnCounted 38 = .ok (.aload_n 0, 1) := by decide +kernel
theorem dX7_standOnCounted_39 : decode cX7_standOnCounted 39 = .ok (.getfield 76, 3) := by decide +kernel
theorem dX7_standOnCounted_42 : decode cX7_standOnCounted 42 = .ok (.invokevirtual 364, 3) := by decide +kernel
theorem dX7_standOnCounted_45 : decode cX7_standOnCounted 45 = .ok (.ifCond .ne 4, 3) := by decide +kernel
theorem dX7_standOnCounted_48 : decode cX7_standOnCounted 48 = .ok (.return_, 1) := by decide +kernel
theorem dX7_standOnCounted_49 : decode cX7_standOnCounted 49 = .ok (.aload_n 2, 1) := by decide +kernel
theorem dX7_standOnCounted_50 : decode cX7_standOnCounted 50 = .ok (.aload 4, 2) := by decide +kernel
theorem dX7_standOnCounted_52 : decode cX7_standOnCounted 52 = .ok (.aload_n 0, 1) := by decide +kernel
theorem dX7_standOnCounted_53 : decode cX7_standOnCounted 53 = .ok (.getfield 76, 3) := by decide +kernel
theorem dX7_standOnCounted_56 : decode cX7_standOnCounted 56 = .ok (.invokevirtual 345, 3) := by decide +kernel
theorem dX7_standOnCounted_59 : decode cX7_standOnCounted 59 = .ok (.ifCond .eq 27, 3) := by decide +kernel
theorem dX7_standOnCounted_62 : decode cX7_standOnCounted 62 = .ok (.aload_n 1, 1) := by decide +kernel
theorem dX7_standOnCounted_63 : decode cX7_standOnCounted 63 = .ok (.iload_n 3, 1) := by decide +kernel
theorem dX7_standOnCounted_64 : decode cX7_standOnCounted 64 = .ok (.invokevirtual 239, 3) := by decide +kernel
theorem dX7_standOnCounted_67 : decode cX7_standOnCounted 67 = .ok (.ifCond .ne 19, 3) := by decide +kernel
theorem dX7_standOnCounted_70 : decode cX7_standOnCounted 70 = .ok (.aload_n 1, 1) := by decide +kernel
theorem dX7_standOnCounted_71 : decode cX7_standOnCounted 71 = .ok (.iload_n 3, 1) := by decide +kernel
theorem dX7_standOnCounted_72 : decode cX7_standOnCounted 72 = .ok (.invokevirtual 368, 3) := by decide +kernel
theorem dX7_standOnCounted_75 : decode cX7_standOnCounted 75 = .ok (.aload 4, 2) := by decide +kernel
theorem dX7_standOnCounted_77 : decode cX7_standOnCounted 77 = .ok (.dup, 1) := by decide +kernel
theorem dX7_standOnCounted_78 : decode cX7_standOnCounted 78 = .ok (.getfield 263, 3) := by decide +kernel
theorem dX7_standOnCounted_81 : decode cX7_standOnCounted 81 = .ok (.iconst 1, 1) := by decide +kernel
theorem dX7_standOnCounted_82 : decode cX7_standOnCounted 82 = .ok (.iadd, 1) := by decide +kernel
theorem dX7_standOnCounted_83 : decode cX7_standOnCounted 83 = .ok (.putfield 263, 3) := by decide +kernel
theorem dX7_standOnCounted_86 : decode cX7_standOnCounted 86 = .ok (.iinc 3 (-1), 3) := by decide +kernel
theorem dX7_standOnCounted_89 : decode cX7_standOnCounted 89 = .ok (.goto (-74), 3) := by decide +kernel
theorem dX7_standOnCounted_92 : decode cX7_standOnCounted 92 = .ok (.return_, 1) := by decide +kernel
set_option maxRecDepth 20000 in
theorem ggX7_giveUpLines_Jx4a65c_size_8abf5 : GoodIn wsX7_giveUpLines wsJx4a65c_size_8abf5 := goodIn_r _ [7, 8, 50, 51, 52] (by decide +kernel) (by decide +kernel)
set_option maxRecDepth 20000 in
theorem gX7_giveUpLines_Jx4a65c_size_8abf5 : GoodIn wsX7_giveUpLines (wsV RX7 53 RJx4a65c yJx4a65c_size_8abf5 wsJx4a65c_size_8abf5) := goodIn_app (goodIn_of _ (by decide +kernel)) ggX7_giveUpLines_Jx4a65c_size_8abf5
set_option maxRecDepth 20000 in
theorem ggX7_giveUpLines_X2_hasLine : GoodIn wsX7_giveUpLines wsX2_hasLine := goodIn_ca (goodIn_r _ [12, 13, 53, 54, 55, 56, 57] (by decide +kernel) (by decide +kernel)) (goodIn_sub (fun _ h => List.mem_cons_of_mem _ (List.mem_append_right _ h)) (by decide +kernel))
set_option maxRecDepth 20000 in
theorem gX7_giveUpLines_X2_hasLine_n239 : GoodIn wsX7_giveUpLines (wsX2_hasLine) := ggX7_giveUpLines_X2_hasLine
set_option maxRecDepth 20000 in
theorem ggX7_giveUpLines_Jx4a65c_get_915e3 : GoodIn wsX7_giveUpLines wsJx4a65c_get_915e3 := goodIn_r _ [17, 8, 18, 19, 20, 21, 22, 23, 24, 25, 26, 27, 28, 6, 29, 30, 50, 51, 52] (by decide +kernel) (by decide +kernel)
set_option maxRecDepth 20000 in
theorem gX7_giveUpLines_Jx4a65c_get_915e3 : GoodIn wsX7_giveUpLines (wsV RX7 120 RJx4a65c yJx4a65c_get_915e3 wsJx4a65c_get_915e3) := goodIn_app (goodIn_of _ (by decide +kernel)) ggX7_giveUpLines_Jx4a65c_get_915e3
set_option maxRecDepth 20000 in
theorem ggX7_giveUpLines_X2_clearLines : GoodIn wsX7_giveUpLines wsX2_clearLines := goodIn_ca (goodIn_r _ [33, 13, 34, 53, 54, 55, 56, 57] (by decide +kernel) (by decide +kernel)) (goodIn_sub (fun _ h => List.mem_cons_of_mem _ (List.mem_append_right _ h)) (by decide +kernel))
set_option maxRecDepth 20000 in
theorem gX7_giveUpLines_X2_clearLines_n371 : GoodIn wsX7_giveUpLines (wsX2_clearLines) := ggX7_giveUpLines_X2_clearLines
theorem dX7_giveUpLines_0 : decode cX7_giveUpLines 0 = .ok (.iconst 0, 1) := by decide +kernel
theorem dX7_giveUpLines_1 : decode cX7_giveUpLines 1 = .ok (.istore_n 2, 1) := by decide +kernel
theorem dX7_giveUpLines_2 : decode cX7_giveUpLines 2 = .ok (.iload_n 2, 1) := by decide +kernel
theorem dX7_giveUpLines_3 : decode cX7_giveUpLines 3 = .ok (.aload_n 0, 1) := by decide +kernel
theorem dX7_giveUpLines_4 : decode cX7_giveUpLines 4 = .ok (.getfield 10, 3) := by decide +kernel
theorem dX7_giveUpLines_7 : decode cX7_giveUpLines 7 = .ok (.invokevirtual 53, 3) := by decide +kernel
theorem dX7_giveUpLines_10 : decode cX7_giveUpLines 10 = .ok (.if_icmp .ge 37, 3) := by decide +kernel
theorem dX7_giveUpLines_13 : decode cX7_giveUpLines 13 = .ok (.aload_n 1, 1) := by decide +kernel
theorem dX7_giveUpLines_14 : decode cX7_giveUpLines 14 = .ok (.iload_n 2, 1) := by decide +kernel
theorem dX7_giveUpLines_15 : decode cX7_giveUpLines 15 = .ok (.invokevirtual 239, 3) := by decide +kernel
theorem dX7_giveUpLines_18 : decode cX7_giveUpLines 18 = .ok (.ifCond .eq 23, 3) := by decide +kernel
theorem dX7_giveUpLines_21 : decode cX7_giveUpLines 21 = .ok (.aload_n 0, 1) := by decide +kernel
theorem dX7_giveUpLines_22 : decode cX7_giveUpLines 22 = .ok (.getfield 10, 3) := by decide +kernel
theorem dX7_giveUpLines_25 : decode cX7_giveUpLines 25 = .ok (.iload_n 2, 1) := by decide +kernel
theorem dX7_giveUpLines_26 : decode cX7_giveUpLines 26 = .ok (.invokevirtual 120, 3) := by decide +kernel
theorem dX7_giveUpLines_29 : decode cX7_giveUpLines 29 = .ok (.checkcast 74, 3) := by decide +kernel
theorem dX7_giveUpLines_32 : decode cX7_giveUpLines 32 = .ok (.dup, 1) := by decide +kernel
theorem dX7_giveUpLines_33 : decode cX7_giveUpLines 33 = .ok (.getfield 263, 3) := by decide +kernel
theorem dX7_giveUpLines_36 : decode cX7_giveUpLines 36 = .ok (.iconst 1, 1) := by decide +kernel
theorem dX7_giveUpLines_37 : decode cX7_giveUpLines 37 = .ok (.isub, 1) := by decide +kernel
theorem dX7_giveUpLines_38 : decode cX7_giveUpLines 38 = .ok (.putfield 263, 3) := by decide +kernel
theorem dX7_giveUpLines_41 : decode cX7_giveUpLines 41 = .ok (.iinc 2 1, 3) := by decide +kernel
theorem dX7_giveUpLines_44 : decode cX7_giveUpLines 44 = .ok (.goto (-42), 3) := by decide +kernel
theorem dX7_giveUpLines_47 : decode cX7_giveUpLines 47 = .ok (.aload_n 1, 1) := by decide +kernel
theorem dX7_giveUpLines_48 : decode cX7_giveUpLines 48 = .ok (.invokevirtual 371, 3) := by decide +kernel
theorem dX7_giveUpLines_51 : decode cX7_giveUpLines 51 = .ok (.return_, 1) := by decide +kernel
set_option maxRecDepth 20000 in
theorem ggX7_keptBytes_Jx4a65c_size_8abf5 : GoodIn wsX7_keptBytes wsJx4a65c_size_8abf5 := goodIn_r _ [7, 8, 41, 42, 43] (by decide +kernel) (by decide +kernel)
set_option maxRecDepth 20000 in
theorem gX7_keptBytes_Jx4a65c_size_8abf5 : GoodIn wsX7_keptBytes (wsV RX7 53 RJx4a65c yJx4a65c_size_8abf5 wsJx4a65c_size_8abf5) := goodIn_app (goodIn_of _ (by decide +kernel)) ggX7_keptBytes_Jx4a65c_size_8abf5
set_option maxRecDepth 20000 in
theorem ggX7_keptBytes_Jx4a65c_get_915e3 : GoodIn wsX7_keptBytes wsJx4a65c_get_915e3 := goodIn_r _ [12, 8, 13, 14, 15, 16, 17, 18, 19, 20, 21, 22, 23, 6, 24, 25, 41, 42, 43] (by decide +kernel) (by decide +kernel)
set_option maxRecDepth 20000 in
theorem gX7_keptBytes_Jx4a65c_get_915e3 : GoodIn wsX7_keptBytes (wsV RX7 120 RJx4a65c yJx4a65c_get_915e3 wsJx4a65c_get_915e3) := goodIn_app (goodIn_of _ (by decide +kernel)) ggX7_keptBytes_Jx4a65c_get_915e3
theorem dX7_keptBytes_0 : decode cX7_keptBytes 0 = .ok (.iconst 0, 1) := by decide +kernel
theorem dX7_keptBytes_1 : decode cX7_keptBytes 1 = .ok (.istore_n 2, 1) := by decide +kernel
theorem dX7_keptBytes_2 : decode cX7_keptBytes 2 = .ok (.iconst 0, 1) := by decide +kernel
theorem dX7_keptBytes_3 : decode cX7_keptBytes 3 = .ok (.istore_n 3, 1) := by decide +kernel
theorem dX7_keptBytes_4 : decode cX7_keptBytes 4 = .ok (.iload_n 3, 1) := by decide +kernel
theorem dX7_keptBytes_5 : decode cX7_keptBytes 5 = .ok (.aload_n 0, 1) := by decide +kernel
theorem dX7_keptBytes_6 : decode cX7_keptBytes 6 = .ok (.getfield 10, 3) := by decide +kernel
theorem dX7_keptBytes_9 : decode cX7_keptBytes 9 = .ok (.invokevirtual 53, 3) := by decide +kernel
theorem dX7_keptBytes_12 : decode cX7_keptBytes 12 = .ok (.if_icmp .ge 49, 3) := by decide +kernel
theorem dX7_keptBytes_15 : decode cX7_keptBytes 15 = .ok (.aload_n 0, 1) := by decide +kernel
theorem dX7_keptBytes_16 : decode cX7_keptBytes 16 = .ok (.getfield 10, 3) := by decide +kernel
theorem dX7_keptBytes_19 : decode cX7_keptBytes 19 = .ok (.iload_n 3, 1) := by decide +kernel
theorem dX7_keptBytes_20 : decode cX7_keptBytes 20 = .ok (.invokevirtual 120, 3) := by decide +kernel
theorem dX7_keptBytes_23 : decode cX7_keptBytes 23 = .ok (.checkcast 74, 3) := by decide +kernel
theorem dX7_keptBytes_26 : decode cX7_keptBytes 26 = .ok (.astore 4, 2) := by decide +kernel
theorem dX7_keptBytes_28 : decode cX7_keptBytes 28 = .ok (.aload 4, 2) := by decide +kernel
theorem dX7_keptBytes_30 : decode cX7_keptBytes 30 = .ok (.getfield 157, 3) := by decide +kernel
theorem dX7_keptBytes_33 : decode cX7_keptBytes 33 = .ok (.iload_n 1, 1) := by decide +kernel
theorem dX7_keptBytes_34 : decode cX7_keptBytes 34 = .ok (.if_icmp .ne 21, 3) := by decide +kernel
theorem dX7_keptBytes_37 : decode cX7_keptBytes 37 = .ok (.aload 4, 2) := by decide +kernel
theorem dX7_keptBytes_39 : decode cX7_keptBytes 39 = .ok (.getfield 103, 3) := by decide +kernel
theorem dX7_keptBytes_42 : decode cX7_keptBytes 42 = .ok (.bipush 107, 2) := by decide +kernel
theorem dX7_keptBytes_44 : decode cX7_keptBytes 44 = .ok (.if_icmp .ne 11, 3) := by decide +kernel
theorem dX7_keptBytes_47 : decode cX7_keptBytes 47 = .ok (.iload_n 2, 1) := by decide +kernel
theorem dX7_keptBytes_48 : decode cX7_keptBytes 48 = .ok (.aload 4, 2) := by decide +kernel
theorem dX7_keptBytes_50 : decode cX7_keptBytes 50 = .ok (.getfield 273, 3) := by decide +kernel
theorem dX7_keptBytes_53 : decode cX7_keptBytes 53 = .ok (.iadd, 1) := by decide +kernel
theorem dX7_keptBytes_54 : decode cX7_keptBytes 54 = .ok (.istore_n 2, 1) := by decide +kernel
theorem dX7_keptBytes_55 : decode cX7_keptBytes 55 = .ok (.iinc 3 1, 3) := by decide +kernel
theorem dX7_keptBytes_58 : decode cX7_keptBytes 58 = .ok (.goto (-54), 3) := by decide +kernel
theorem dX7_keptBytes_61 : decode cX7_keptBytes 61 = .ok (.iload_n 2, 1) := by decide +kernel
theorem dX7_keptBytes_62 : decode cX7_keptBytes 62 = .ok (.ireturn, 1) := by decide +kernel
set_option maxRecDepth 20000 in
theorem ggX7_lookAtAllSources_X7_lookAtSource : GoodIn wsX7_lookAtAllSources wsX7_lookAtSource := goodIn_ca (goodIn_r _ [5, 6, 7, 8, 9, 4, 10, 11, 12, 13, 14, 15, 16, 17, 18, 19, 20, 21, 22, 23, 24, 25, 26, 27, 28, 29, 30, 31, 32, 33, 34, 35, 36, 37, 38, 39, 40, 41, 42, 43, 44, 45, 46, 47, 48, 49, 50, 51, 52, 53, 54, 55, 56, 57] (by decide +kernel) (by decide +kernel)) (goodIn_sub (fun _ h => List.mem_cons_of_mem _ (List.mem_append_right _ h)) (by decide +kernel))
set_option maxRecDepth 20000 in
theorem gX7_lookAtAllSources_X7_lookAtSource : GoodIn wsX7_lookAtAllSources (wsV RX7 95 RX7 yX7_lookAtSource wsX7_lookAtSource) := goodIn_app (goodIn_of _ (by decide +kernel)) ggX7_lookAtAllSources_X7_lookAtSource
theorem dX7_lookAtAllSources_0 : decode cX7_lookAtAllSources 0 = .ok (.iconst 0, 1) := by decide +kernel
theorem dX7_lookAtAllSources_1 : decode cX7_lookAtAllSources 1 = .ok (.istore_n 1, 1) := by decide +kernel
theorem dX7_lookAtAllSources_2 : decode cX7_lookAtAllSources 2 = .ok (.iconst 0, 1) := by decide +kernel
theorem dX7_lookAtAllSources_3 : decode cX7_lookAtAllSources 3 = .ok (.istore_n 2, 1) := by decide +kernel
theorem dX7_lookAtAllSources_4 : decode cX7_lookAtAllSources 4 = .ok (.iload_n 2, 1) := by decide +kernel
theorem dX7_lookAtAllSources_5 : decode cX7_lookAtAllSources 5 = .ok (.iconst 4, 1) := by decide +kernel
theorem dX7_lookAtAllSources_6 : decode cX7_lookAtAllSources 6 = .ok (.if_icmp .ge 17, 3) := by decide +kernel
theorem dX7_lookAtAllSources_9 : decode cX7_lookAtAllSources 9 = .ok (.iload_n 1, 1) := by decide +kernel
theorem dX7_lookAtAllSources_10 : decode cX7_lookAtAllSources 10 = .ok (.aload_n 0, 1) := by decide +kernel
theorem dX7_lookAtAllSources_11 : decode cX7_lookAtAllSources 11 = .ok (.iload_n 2, 1) := by decide +kernel
theorem dX7_lookAtAllSources_12 : decode cX7_lookAtAllSources 12 = .ok (.invokevirtual 95, 3) := by decide +kernel
theorem dX7_lookAtAllSources_15 : decode cX7_lookAtAllSources 15 = .ok (.iadd, 1) := by decide +kernel
theorem dX7_lookAtAllSources_16 : decode cX7_lookAtAllSources 16 = .ok (.istore_n 1, 1) := by decide +kernel
theorem dX7_lookAtAllSources_17 : decode cX7_lookAtAllSources 17 = .ok (.iinc 2 1, 3) := by decide +kernel
theorem dX7_lookAtAllSources_20 : decode cX7_lookAtAllSources 20 = .ok (.goto (-16), 3) := by decide +kernel
theorem dX7_lookAtAllSources_23 : decode cX7_lookAtAllSources 23 = .ok (.iload_n 1, 1) := by decide +kernel
theorem dX7_lookAtAllSources_24 : decode cX7_lookAtAllSources 24 = .ok (.ireturn, 1) := by decide +kernel
set_option maxRecDepth 20000 in
theorem ggX7_lookAtSource_X7_keptBytes : GoodIn wsX7_lookAtSource wsX7_keptBytes := goodIn_r _ [6, 7, 8, 9, 10, 11, 12, 13, 14, 15, 16, 17, 18, 19, 20, 21, 22, 23, 24, 25, 26, 27, 28, 29, 30, 31, 36, 37, 38, 39, 40, 41, 42, 43, 44, 45, 46, 47, 48, 49, 50, 51, 52, 53] (by decide +kernel) (by decide +kernel)
set_option maxRecDepth 20000 in
theorem gX7_lookAtSource_X7_keptBytes : GoodIn wsX7_lookAtSource (wsV RX7 154 RX7 yX7_keptBytes wsX7_keptBytes) := goodIn_app (goodIn_of _ (by decide +kernel)) ggX7_lookAtSource_X7_keptBytes
set_option maxRecDepth 20000 in
theorem ggX7_lookAtSource_X7_nextToDrop : GoodIn wsX7_lookAtSource wsX7_nextToDrop := goodIn_r _ [35, 7, 8, 9, 10, 11, 12, 13, 14, 15, 16, 17, 18, 19, 20, 21, 22, 23, 24, 25, 26, 27, 28, 29, 30, 31, 36, 37, 38, 39, 40, 41, 42, 43, 44, 45, 46, 47, 48, 49, 50, 51, 52, 53] (by decide +kernel) (by decide +kernel)
set_option maxRecDepth 20000 in
theorem gX7_lookAtSource_X7_nextToDrop : GoodIn wsX7_lookAtSource (wsV RX7 374 RX7 yX7_nextToDrop wsX7_nextToDrop) := goodIn_app (goodIn_of _ (by decide +kernel)) ggX7_lookAtSource_X7_nextToDrop
theorem dX7_lookAtSource_0 : decode cX7_lookAtSource 0 = .ok (.iload_n 1, 1) := by decide +kernel
theorem dX7_lookAtSource_1 : decode cX7_lookAtSource 1 = .ok (.ifCond .lt 12, 3) := by decide +kernel
theorem dX7_lookAtSource_4 : decode cX7_lookAtSource 4 = .ok (.iload_n 1, 1) := by decide +kernel
theorem dX7_lookAtSource_5 : decode cX7_lookAtSource 5 = .ok (.aload_n 0, 1) := by decide +kernel
theorem dX7_lookAtSource_6 : decode cX7_lookAtSource 6 = .ok (.getfield 28, 3) := by decide +kernel
theorem dX7_lookAtSource_9 : decode cX7_lookAtSource 9 = .ok (.arraylength, 1) := by decide +kernel
theorem dX7_lookAtSource_10 : decode cX7_lookAtSource 10 = .ok (.if_icmp .lt 5, 3) := by decide +kernel
theorem dX7_lookAtSource_13 : decode cX7_lookAtSource 13 = .ok (.iconst 0, 1) := by decide +kernel
theorem dX7_lookAtSource_14 : decode cX7_lookAtSource 14 = .ok (.ireturn, 1) := by decide +kernel
theorem dX7_lookAtSource_15 : decode cX7_lookAtSource 15 = .ok (.aload_n 0, 1) := by decide +kernel
theorem dX7_lookAtSource_16 : decode cX7_lookAtSource 16 = .ok (.iload_n 1, 1) := by decide +kernel
theorem dX7_lookAtSource_17 : decode cX7_lookAtSource 17 = .ok (.invokevirtual 154, 3) := by decide +kernel
theorem dX7_lookAtSource_20 : decode cX7_lookAtSource 20 = .ok (.aload_n 0, 1) := by decide +kernel
theorem dX7_lookAtSource_21 : decode cX7_lookAtSource 21 = .ok (.getfield 28, 3) := by decide +kernel
theorem dX7_lookAtSource_24 : decode cX7_lookAtSource 24 = .ok (.iload_n 1, 1) := by decide +kernel
theorem dX7_lookAtSource_25 : decode cX7_lookAtSource 25 = .ok (.iaload, 1) := by decide +kernel
theorem dX7_lookAtSource_26 : decode cX7_lookAtSource 26 = .ok (.isub, 1) := by decide +kernel
theorem dX7_lookAtSource_27 : decode cX7_lookAtSource 27 = .ok (.istore_n 2, 1) := by decide +kernel
theorem dX7_lookAtSource_28 : decode cX7_lookAtSource 28 = .ok (.iconst 0, 1) := by decide +kernel
theorem dX7_lookAtSource_29 : decode cX7_lookAtSource 29 = .ok (.istore_n 3, 1) := by decide +kernel
theorem dX7_lookAtSource_30 : decode cX7_lookAtSource 30 = .ok (.iload_n 2, 1) := by decide +kernel
theorem dX7_lookAtSource_31 : decode cX7_lookAtSource 31 = .ok (.ifCond .le 45, 3) := by decide +kernel
theorem dX7_lookAtSource_34 : decode cX7_lookAtSource 34 = .ok (.iload_n 3, 1) := by decide +kernel
theorem dX7_lookAtSource_35 : decode cX7_lookAtSource 35 = .ok (.sipush 200, 3) := by decide +kernel
theorem dX7_lookAtSource_38 : decode cX7_lookAtSource 38 = .ok (.if_icmp .ge 38, 3) := by decide +kernel
theorem dX7_lookAtSource_41 : decode cX7_lookAtSource 41 = .ok (.aload_n 0, 1) := by decide +kernel
theorem dX7_lookAtSource_42 : decode cX7_lookAtSource 42 = .ok (.iload_n 1, 1) := by decide +kernel
theorem dX7_lookAtSource_43 : decode cX7_lookAtSource 43 = .ok (.invokevirtual 374, 3) := by decide +kernel
theorem dX7_lookAtSource_46 : decode cX7_lookAtSource 46 = .ok (.astore 4, 2) := by decide +kernel
theorem dX7_lookAtSource_48 : decode cX7_lookAtSource 48 = .ok (.aload 4, 2) := by decide +kernel
theorem dX7_lookAtSource_50 : decode cX7_lookAtSource 50 = .ok (.ifnonnull 5, 3) := by decide +kernel
theorem dX7_lookAtSource_53 : decode cX7_lookAtSource 53 = .ok (.iload_n 3, 1) := by decide +kernel
theorem dX7_lookAtSource_54 : decode cX7_lookAtSource 54 = .ok (.ireturn, 1) := by decide +kernel
theorem dX7_lookAtSource_55 : decode cX7_lookAtSource 55 = .ok (.aload 4, 2) := by decide +kernel
theorem dX7_lookAtSource_57 : decode cX7_lookAtSource 57 = .ok (.bipush 100, 2) := by decide +kernel
theorem dX7_lookAtSource_59 : decode cX7_lookAtSource 59 = .ok (.putfield 103, 3) := by decide +kernel
theorem dX7_lookAtSource_62 : decode cX7_lookAtSource 62 = .ok (.iload_n 2, 1) := by decide +kernel
theorem dX7_lookAtSource_63 : decode cX7_lookAtSource 63 = .ok (.aload 4, 2) := by decide +kernel
theorem dX7_lookAtSource_65 : decode cX7_lookAtSource 65 = .ok (.getfield 273, 3) := by decide +kernel
theorem dX7_lookAtSource_68 : decode cX7_lookAtSource 68 = .ok (.isub, 1) := by decide +kernel
theorem dX7_lookAtSource_69 : decode cX7_lookAtSource 69 = .ok (.istore_n 2, 1) := by decide +kernel
theorem dX7_lookAtSource_70 : decode cX7_lookAtSource 70 = .ok (.iinc 3 1, 3) := by decide +kernel
theorem dX7_lookAtSource_73 : decode cX7_lookAtSource 73 = .ok (.goto (-43), 3) := by decide +kernel
theorem dX7_lookAtSource_76 : decode cX7_lookAtSource 76 = .ok (.iload_n 3, 1) := by decide +kernel
theorem dX7_lookAtSource_77 : decode cX7_lookAtSource 77 = .ok (.ireturn, 1) := by decide +kernel
set_option maxRecDepth 20000 in
theorem ggX7_nextToDrop_Jx4a65c_size_8abf5 : GoodIn wsX7_nextToDrop wsJx4a65c_size_8abf5 := goodIn_r _ [7, 8, 41, 42, 43] (by decide +kernel) (by decide +kernel)
set_option maxRecDepth 20000 in
theorem gX7_nextToDrop_Jx4a65c_size_8abf5 : GoodIn wsX7_nextToDrop (wsV RX7 53 RJx4a65c yJx4a65c_size_8abf5 wsJx4a65c_size_8abf5) := goodIn_app (goodIn_of _ (by decide +kernel)) ggX7_nextToDrop_Jx4a65c_size_8abf5
set_option maxRecDepth 20000 in
theorem ggX7_nextToDrop_Jx4a65c_get_915e3 : GoodIn wsX7_nextToDrop wsJx4a65c_get_915e3 := goodIn_r _ [12, 8, 13, 14, 15, 16, 17, 18, 19, 20, 21, 22, 23, 6, 24, 25, 41, 42, 43] (by decide +kernel) (by decide +kernel)
set_option maxRecDepth 20000 in
theorem gX7_nextToDrop_Jx4a65c_get_915e3 : GoodIn wsX7_nextToDrop (wsV RX7 120 RJx4a65c yJx4a65c_get_915e3 wsJx4a65c_get_915e3) := goodIn_app (goodIn_of _ (by decide +kernel)) ggX7_nextToDrop_Jx4a65c_get_915e3
theorem dX7_nextToDrop_0 : decode cX7_nextToDrop 0 = .ok (.aconst_null, 1) := by decide +kernel
theorem dX7_nextToDrop_1 : decode cX7_nextToDrop 1 = .ok (.astore_n 2, 1) := by decide +kernel
theorem dX7_nextToDrop_2 : decode cX7_nextToDrop 2 = .ok (.iconst 0, 1) := by decide +kernel
theorem dX7_nextToDrop_3 : decode cX7_nextToDrop 3 = .ok (.istore_n 3, 1) := by decide +kernel
theorem dX7_nextToDrop_4 : decode cX7_nextToDrop 4 = .ok (.iload_n 3, 1) := by decide +kernel
theorem dX7_nextToDrop_5 : decode cX7_nextToDrop 5 = .ok (.aload_n 0, 1) := by decide +kernel
theorem dX7_nextToDrop_6 : decode cX7_nextToDrop 6 = .ok (.getfield 10, 3) := by decide +kernel
theorem dX7_nextToDrop_9 : decode cX7_nextToDrop 9 = .ok (.invokevirtual 53, 3) := by decide +kernel
theorem dX7_nextToDrop_12 : decode cX7_nextToDrop 12 = .ok (.if_icmp .ge 68, 3) := by decide +kernel
theorem dX7_nextToDrop_15 : decode cX7_nextToDrop 15 = .ok (.aload_n 0, 1) := by decide +kernel
theorem dX7_nextToDrop_16 : decode cX7_nextToDrop 16 = .ok (.getfield 10, 3) := by decide +kernel
theorem dX7_nextToDrop_19 : decode cX7_nextToDrop 19 = .ok (.iload_n 3, 1) := by decide +kernel
theorem dX7_nextToDrop_20 : decode cX7_nextToDrop 20 = .ok (.invokevirtual 120, 3) := by decide +kernel
theorem dX7_nextToDrop_23 : decode cX7_nextToDrop 23 = .ok (.checkcast 74, 3) := by decide +kernel
theorem dX7_nextToDrop_26 : decode cX7_nextToDrop 26 = .ok (.astore 4, 2) := by decide +kernel
theorem dX7_nextToDrop_28 : decode cX7_nextToDrop 28 = .ok (.aload 4, 2) := by decide +kernel
theorem dX7_nextToDrop_30 : decode cX7_nextToDrop 30 = .ok (.getfield 157, 3) := by decide +kernel
theorem dX7_nextToDrop_33 : decode cX7_nextToDrop 33 = .ok (.iload_n 1, 1) := by decide +kernel
theorem dX7_nextToDrop_34 : decode cX7_nextToDrop 34 = .ok (.if_icmp .ne 40, 3) := by decide +kernel
theorem dX7_nextToDrop_37 : decode cX7_nextToDrop 37 = .ok (.aload 4, 2) := by decide +kernel
theorem dX7_nextToDrop_39 : decode cX7_nextToDrop 39 = .ok (.getfield 103, 3) := by decide +kernel
theorem dX7_nextToDrop_42 : decode cX7_nextToDrop 42 = .ok (.bipush 107, 2) := by decide +kernel
theorem dX7_nextToDrop_44 : decode cX7_nextToDrop 44 = .ok (.if_icmp .ne 30, 3) := by decide +kernel
theorem dX7_nextToDrop_47 : decode cX7_nextToDrop 47 = .ok (.aload 4, 2) := by decide +kernel
theorem dX7_nextToDrop_49 : decode cX7_nextToDrop 49 = .ok (.getfield 263, 3) := by decide +kernel
theorem dX7_nextToDrop_52 : decode cX7_nextToDrop 52 = .ok (.ifCond .ne 22, 3) := by decide +kernel
theorem dX7_nextToDrop_55 : decode cX7_nextToDrop 55 = .ok (.aload_n 2, 1) := by decide +kernel
theorem dX7_nextToDrop_56 : decode cX7_nextToDrop 56 = .ok (.ifnull 15, 3) := by decide +kernel
theorem dX7_nextToDrop_59 : decode cX7_nextToDrop 59 = .ok (.aload 4, 2) := by decide +kernel
theorem dX7_nextToDrop_61 : decode cX7_nextToDrop 61 = .ok (.getfield 281, 3) := by decide +kernel
theorem dX7_nextToDrop_64 : decode cX7_nextToDrop 64 = .ok (.aload_n 2, 1) := by decide +kernel
theorem dX7_nextToDrop_65 : decode cX7_nextToDrop 65 = .ok (.getfield 281, 3) := by decide +kernel
theorem dX7_nextToDrop_68 : decode cX7_nextToDrop 68 = .ok (.if_icmp .ge 6, 3) := by decide +kernel
theorem dX7_nextToDrop_71 : decode cX7_nextToDrop 71 = .ok (.aload 4, 2) := by decide +kernel
theorem dX7_nextToDrop_73 : decode cX7_nextToDrop 73 = .ok (.astore_n 2, 1) := by decide +kernel
theorem dX7_nextToDrop_74 : decode cX7_nextToDrop 74 = .ok (.iinc 3 1, 3) := by decide +kernel
theorem dX7_nextToDrop_77 : decode cX7_nextToDrop 77 = .ok (.goto (-73), 3) := by decide +kernel
theorem dX7_nextToDrop_80 : decode cX7_nextToDrop 80 = .ok (.aload_n 2, 1) := by decide +kernel
theorem dX7_nextToDrop_81 : decode cX7_nextToDrop 81 = .ok (.areturn, 1) := by decide +kernel
set_option maxRecDepth 20000 in
theorem ggX7_passOneTick_Jx4a65c_size_8abf5 : GoodIn wsX7_passOneTick wsJx4a65c_size_8abf5 := goodIn_r _ [8, 9, 181, 182, 183] (by decide +kernel) (by decide +kernel)
set_option maxRecDepth 20000 in
theorem gX7_passOneTick_Jx4a65c_size_8abf5 : GoodIn wsX7_passOneTick (wsV RX7 53 RJx4a65c yJx4a65c_size_8abf5 wsJx4a65c_size_8abf5) := goodIn_app (goodIn_of _ (by decide +kernel)) ggX7_passOneTick_Jx4a65c_size_8abf5
set_option maxRecDepth 20000 in
theorem ggX7_passOneTick_Jx4a65c_get_915e3 : GoodIn wsX7_passOneTick wsJx4a65c_get_915e3 := goodIn_r _ [13, 9, 14, 15, 16, 17, 18, 19, 20, 21, 22, 23, 24, 7, 25, 26, 181, 182, 183] (by decide +kernel) (by decide +kernel)
set_option maxRecDepth 20000 in
theorem gX7_passOneTick_Jx4a65c_get_915e3 : GoodIn wsX7_passOneTick (wsV RX7 120 RJx4a65c yJx4a65c_get_915e3 wsJx4a65c_get_915e3) := goodIn_app (goodIn_of _ (by decide +kernel)) ggX7_passOneTick_Jx4a65c_get_915e3
set_option maxRecDepth 20000 in
theorem ggX7_passOneTick_X7_forgetLeavers : GoodIn wsX7_passOneTick wsX7_forgetLeavers := goodIn_r _ [31, 1, 32, 33, 4, 5, 6, 7, 8, 9, 10, 11, 12, 13, 14, 15, 16, 17, 18, 19, 20, 21, 22, 23, 24, 25, 26, 34, 35, 36, 37, 38, 39, 40, 41, 42, 43, 44, 45, 46, 47, 48, 174, 175, 176, 177, 178, 179, 180, 184, 185, 186, 187, 188, 189, 190, 191, 192, 193, 194, 195, 196, 197, 198, 199, 200, 181, 182, 183, 201, 202, 203, 204, 205, 206, 207] (by decide +kernel) (by decide +kernel)
set_option maxRecDepth 20000 in
theorem gX7_passOneTick_X7_forgetLeavers : GoodIn wsX7_passOneTick (wsV RX7 377 RX7 yX7_forgetLeavers wsX7_forgetLeavers) := goodIn_app (goodIn_of _ (by decide +kernel)) ggX7_passOneTick_X7_forgetLeavers
set_option maxRecDepth 20000 in
theorem ggX7_passOneTick_X0_shortenHold : GoodIn wsX7_passOneTick wsX0_shortenHold := goodIn_r _ [52, 53, 54, 184, 185, 186, 187, 188, 189, 190, 191, 192] (by decide +kernel) (by decide +kernel)
set_option maxRecDepth 20000 in
theorem gX7_passOneTick_X0_shortenHold_n380 : GoodIn wsX7_passOneTick (wsX0_shortenHold) := ggX7_passOneTick_X0_shortenHold
set_option maxRecDepth 20000 in
theorem ggX7_passOneTick_X7_lookAtAlert : GoodIn wsX7_passOneTick wsX7_lookAtAlert := goodIn_ca (goodIn_r _ [58, 59, 60, 61, 1, 62, 63, 64, 65, 66, 67, 68, 69, 70, 71, 72, 73, 74, 7, 75, 76, 77, 26, 9, 78, 79, 80, 81, 82, 83, 84, 85, 86, 87, 88, 89, 90, 91, 92, 93, 94, 95, 96, 97, 98, 99, 100, 101, 102, 103, 104, 105, 106, 107, 108, 109, 110, 111, 112, 113, 114, 115, 116, 117, 118, 119, 120, 121, 122, 123, 124, 125, 126, 127, 30, 128, 32, 33, 4, 5, 6, 8, 10, 11, 12, 13, 14, 15, 16, 17, 18, 19, 20, 21, 22, 23, 24, 25, 129, 130, 131, 132, 133, 134, 50, 135, 136, 137, 138, 34, 35, 36, 37, 38, 39, 40, 41, 42, 43, 44, 45, 46, 47, 48, 139, 140, 141, 142, 143, 144, 145, 146, 184, 185, 186, 187, 188, 189, 190, 191, 192, 208, 209, 210, 211, 212, 174, 175, 176, 177, 178, 179, 180, 181, 182, 183, 193, 194, 195, 196, 197, 198, 199, 200, 201, 202, 203, 204, 205, 206, 207] (by decide +kernel) (by decide +kernel)) (goodIn_sub (fun _ h => List.mem_cons_of_mem _ (List.mem_append_right _ h)) (by decide +kernel))
set_option maxRecDepth 20000 in
theorem gX7_passOneTick_X7_lookAtAlert : GoodIn wsX7_passOneTick (wsV RX7 204 RX7 yX7_lookAtAlert wsX7_lookAtAlert) := goodIn_app (goodIn_of _ (by decide +kernel)) ggX7_passOneTick_X7_lookAtAlert
set_option maxRecDepth 20000 in
theorem ggX7_passOneTick_X7_lookAtAllSources : GoodIn wsX7_passOneTick wsX7_lookAtAllSources := goodIn_ca (goodIn_r _ [150, 151, 152, 153, 30, 154, 155, 156, 157, 158, 159, 32, 33, 4, 5, 6, 7, 8, 9, 10, 11, 12, 13, 14, 15, 16, 17, 18, 19, 20, 21, 22, 23, 24, 25, 26, 160, 161, 162, 163, 174, 175, 176, 177, 178, 179, 180, 193, 194, 195, 196, 197, 198, 199, 200, 181, 182, 183] (by decide +kernel) (by decide +kernel)) (goodIn_sub (fun _ h => List.mem_cons_of_mem _ (List.mem_append_right _ h)) (by decide +kernel))
set_option maxRecDepth 20000 in
theorem gX7_passOneTick_X7_lookAtAllSources : GoodIn wsX7_passOneTick (wsV RX7 260 RX7 yX7_lookAtAllSources wsX7_lookAtAllSources) := goodIn_app (goodIn_of _ (by decide +kernel)) ggX7_passOneTick_X7_lookAtAllSources
set_option maxRecDepth 20000 in
theorem ggX7_passOneTick_X7_answerRequests : GoodIn wsX7_passOneTick wsX7_answerRequests := goodIn_r _ [167, 168, 169, 1, 4, 5, 6, 7, 8, 9, 10, 11, 12, 13, 14, 15, 16, 17, 18, 19, 20, 21, 22, 23, 24, 25, 26, 170, 171, 172, 30, 173, 32, 33, 34, 35, 36, 37, 38, 39, 40, 41, 42, 43, 44, 45, 46, 47, 48, 174, 175, 176, 177, 178, 179, 180, 213, 214, 215, 216, 181, 182, 183, 193, 194, 195, 196, 197, 198, 199, 200, 201, 202, 203, 204, 205, 206, 207] (by decide +kernel) (by decide +kernel)
set_option maxRecDepth 20000 in
theorem gX7_passOneTick_X7_answerRequests : GoodIn wsX7_passOneTick (wsV RX7 383 RX7 yX7_answerRequests wsX7_answerRequests) := goodIn_app (goodIn_of _ (by decide +kernel)) ggX7_passOneTick_X7_answerRequests
theorem dX7_passOneTick_0 : decode cX7_passOneTick 0 = .ok (.aload_n 0, 1) := by decide +kernel
theorem dX7_passOneTick_1 : decode cX7_passOneTick 1 = .ok (.dup, 1) := by decide +kernel
theorem dX7_passOneTick_2 : decode cX7_passOneTick 2 = .ok (.getfield 76, 3) := by decide +kernel
theorem dX7_passOneTick_5 : decode cX7_passOneTick 5 = .ok (.iconst 1, 1) := by decide +kernel
theorem dX7_passOneTick_6 : decode cX7_passOneTick 6 = .ok (.iadd, 1) := by decide +kernel
theorem dX7_passOneTick_7 : decode cX7_passOneTick 7 = .ok (.putfield 76, 3) := by decide +kernel
theorem dX7_passOneTick_10 : decode cX7_passOneTick 10 = .ok (.iconst 0, 1) := by decide +kernel
theorem dX7_passOneTick_11 : decode cX7_passOneTick 11 = .ok (.istore_n 1, 1) := by decide +kernel
theorem dX7_passOneTick_12 : decode cX7_passOneTick 12 = .ok (.iload_n 1, 1) := by decide +kernel
theorem dX7_passOneTick_13 : decode cX7_passOneTick 13 = .ok (.aload_n 0, 1) := by decide +kernel
theorem dX7_passOneTick_14 : decode cX7_passOneTick 14 = .ok (.getfield 19, 3) := by decide +kernel
theorem dX7_passOneTick_17 : decode cX7_passOneTick 17 = .ok (.invokevirtual 53, 3) := by decide +kernel
theorem dX7_passOneTick_20 : decode cX7_passOneTick 20 = .ok (.if_icmp .ge 35, 3) := by decide +kernel
theorem dX7_passOneTick_23 : decode cX7_passOneTick 23 = .ok (.aload_n 0, 1) := by decide +kernel
theorem dX7_passOneTick_24 : decode cX7_passOneTick 24 = .ok (.getfield 19, 3) := by decide +kernel
theorem dX7_passOneTick_27 : decode cX7_passOneTick 27 = .ok (.iload_n 1, 1) := by decide +kernel
theorem dX7_passOneTick_28 : decode cX7_passOneTick 28 = .ok (.invokevirtual 120, 3) := by decide +kernel
theorem dX7_passOneTick_31 : decode cX7_passOneTick 31 = .ok (.checkcast 195, 3) := by decide +kernel
theorem dX7_passOneTick_34 : decode cX7_passOneTick 34 = .ok (.astore_n 2, 1) := by decide +kernel
theorem dX7_passOneTick_35 : decode cX7_passOneTick 35 = .ok (.aload_n 0, 1) := by decide +kernel
theorem dX7_passOneTick_36 : decode cX7_passOneTick 36 = .ok (.aload_n 2, 1) := by decide +kernel
theorem dX7_passOneTick_37 : decode cX7_passOneTick 37 = .ok (.invokevirtual 377, 3) := by decide +kernel
theorem dX7_passOneTick_40 : decode cX7_passOneTick 40 = .ok (.aload_n 2, 1) := by decide +kernel
theorem dX7_passOneTick_41 : decode cX7_passOneTick 41 = .ok (.invokevirtual 380, 3) := by decide +kernel
theorem dX7_passOneTick_44 : decode cX7_passOneTick 44 = .ok (.aload_n 0, 1) := by decide +kernel
theorem dX7_passOneTick_45 : decode cX7_passOneTick 45 = .ok (.aload_n 2, 1) := by decide +kernel
theorem dX7_passOneTick_46 : decode cX7_passOneTick 46 = .ok (.invokevirtual 204, 3) := by decide +kernel
theorem dX7_passOneTick_49 : decode cX7_passOneTick 49 = .ok (.iinc 1 1, 3) := by decide +kernel
theorem dX7_passOneTick_52 : decode cX7_passOneTick 52 = .ok (.goto (-40), 3) := by decide +kernel
theorem dX7_passOneTick_55 : decode cX7_passOneTick 55 = .ok (.aload_n 0, 1) := by decide +kernel
theorem dX7_passOneTick_56 : decode cX7_passOneTick 56 = .ok (.invokevirtual 260, 3) := by decide +kernel
theorem dX7_passOneTick_59 : decode cX7_passOneTick 59 = .ok (.istore_n 1, 1) := by decide +kernel
theorem dX7_passOneTick_60 : decode cX7_passOneTick 60 = .ok (.aload_n 0, 1) := by decide +kernel
theorem dX7_passOneTick_61 : decode cX7_passOneTick 61 = .ok (.invokevirtual 383, 3) := by decide +kernel
theorem dX7_passOneTick_64 : decode cX7_passOneTick 64 = .ok (.iload_n 1, 1) := by decide +kernel
theorem dX7_passOneTick_65 : decode cX7_passOneTick 65 = .ok (.ireturn, 1) := by decide +kernel
set_option maxRecDepth 20000 in
theorem ggX7_forgetLeavers_Jx4a65c_size_8abf5 : GoodIn wsX7_forgetLeavers wsJx4a65c_size_8abf5 := goodIn_r _ [8, 9, 66, 67, 68] (by decide +kernel) (by decide +kernel)
set_option maxRecDepth 20000 in
theorem gX7_forgetLeavers_Jx4a65c_size_8abf5 : GoodIn wsX7_forgetLeavers (wsV RX7 53 RJx4a65c yJx4a65c_size_8abf5 wsJx4a65c_size_8abf5) := goodIn_app (goodIn_of _ (by decide +kernel)) ggX7_forgetLeavers_Jx4a65c_size_8abf5
set_option maxRecDepth 20000 in
theorem ggX7_forgetLeavers_Jx4a65c_get_915e3 : GoodIn wsX7_forgetLeavers wsJx4a65c_get_915e3 := goodIn_r _ [13, 9, 14, 15, 16, 17, 18, 19, 20, 21, 22, 23, 24, 7, 25, 26, 66, 67, 68] (by decide +kernel) (by decide +kernel)
set_option maxRecDepth 20000 in
theorem gX7_forgetLeavers_Jx4a65c_get_915e3 : GoodIn wsX7_forgetLeavers (wsV RX7 120 RJx4a65c yJx4a65c_get_915e3 wsJx4a65c_get_915e3) := goodIn_app (goodIn_of _ (by decide +kernel)) ggX7_forgetLeavers_Jx4a65c_get_915e3
set_option maxRecDepth 20000 in
theorem ggX7_forgetLeavers_X1_takes : GoodIn wsX7_forgetLeavers wsX1_takes := goodIn_r _ [30, 31, 32, 33, 34, 35, 36, 37, 38, 39, 40, 41, 58, 59, 60, 61, 62, 63, 64, 65, 69, 70, 71, 72, 73, 74, 75] (by decide +kernel) (by decide +kernel)
set_option maxRecDepth 20000 in
theorem gX7_forgetLeavers_X1_takes_n393 : GoodIn wsX7_forgetLeavers (wsX1_takes) := ggX7_forgetLeavers_X1_takes
theorem dX7_forgetLeavers_0 : decode cX7_forgetLeavers 0 = .ok (.aload_n 0, 1) := by decide +kernel
theorem dX7_forgetLeavers_1 : decode cX7_forgetLeavers 1 = .ok (.getfield 76, 3) := by decide +kernel
theorem dX7_forgetLeavers_4 : decode cX7_forgetLeavers 4 = .ok (.aload_n 1, 1) := by decide +kernel
theorem dX7_forgetLeavers_5 : decode cX7_forgetLeavers 5 = .ok (.getfield 361, 3) := by decide +kernel
theorem dX7_forgetLeavers_8 : decode cX7_forgetLeavers 8 = .ok (.isub, 1) := by decide +kernel
theorem dX7_forgetLeavers_9 : decode cX7_forgetLeavers 9 = .ok (.istore_n 2, 1) := by decide +kernel
theorem dX7_forgetLeavers_10 : decode cX7_forgetLeavers 10 = .ok (.aload_n 0, 1) := by decide +kernel
theorem dX7_forgetLeavers_11 : decode cX7_forgetLeavers 11 = .ok (.getfield 10, 3) := by decide +kernel
theorem dX7_forgetLeavers_14 : decode cX7_forgetLeavers 14 = .ok (.invokevirtual 53, 3) := by decide +kernel
theorem dX7_forgetLeavers_17 : decode cX7_forgetLeavers 17 = .ok (.iconst 1, 1) := by decide +kernel
theorem dX7_forgetLeavers_18 : decode cX7_forgetLeavers 18 = .ok (.isub, 1) := by decide +kernel
theorem dX7_forgetLeavers_19 : decode cX7_forgetLeavers 19 = .ok (.istore_n 3, 1) := by decide +kernel
theorem dX7_forgetLeavers_20 : decode cX7_forgetLeavers 20 = .ok (.iload_n 3, 1) := by decide +kernel
theorem dX7_forgetLeavers_21 : decode cX7_forgetLeavers 21 = .ok (.ifCond .lt 84, 3) := by decide +kernel
theorem dX7_forgetLeavers_24 : decode cX7_forgetLeavers 24 = .ok (.aload_n 0, 1) := by decide +kernel
theorem dX7_forgetLeavers_25 : decode cX7_forgetLeavers 25 = .ok (.getfield 10, 3) := by decide +kernel
theorem dX7_forgetLeavers_28 : decode cX7_forgetLeavers 28 = .ok (.iload_n 3, 1) := by decide +kernel
theorem dX7_forgetLeavers_29 : decode cX7_forgetLeavers 29 = .ok (.invokevirtual 120, 3) := by decide +kernel
theorem dX7_forgetLeavers_32 : decode cX7_forgetLeavers 32 = .ok (.checkcast 74, 3) := by decide +kernel
theorem dX7_forgetLeavers_35 : decode cX7_forgetLeavers 35 = .ok (.astore 4, 2) := by decide +kernel
theorem dX7_forgetLeavers_37 : decode cX7_forgetLeavers 37 = .ok (.aload 4, 2) := by decide +kernel
theorem dX7_forgetLeavers_39 : decode cX7_forgetLeavers 39 = .ok (.getfield 386, 3) := by decide +kernel
theorem dX7_forgetLeavers_42 : decode cX7_forgetLeavers 42 = .ok (.iload_n 2, 1) := by decide +kernel
theorem dX7_forgetLeavers_43 : decode cX7_forgetLeavers 43 = .ok (.if_icmp .ge 4, 3) := by decide +kernel
theorem dX7_forgetLeavers_46 : decode cX7_forgetLeavers 46 = .ok (.return_, 1) := by decide +kernel
theorem dX7_forgetLeavers_47 : decode cX7_forgetLeavers 47 = .ok (.aload 4, 2) := by decide +kernel
theorem dX7_forgetLeavers_49 : decode cX7_forgetLeavers 49 = .ok (.getfield 386, 3) := by decide +kernel
theorem dX7_forgetLeavers_52 : decode cX7_forgetLeavers 52 = .ok (.iload_n 2, 1) := by decide +kernel
theorem dX7_forgetLeavers_53 : decode cX7_forgetLeavers 53 = .ok (.if_icmp .ne 46, 3) := by decide +kernel
theorem dX7_forgetLeavers_56 : decode cX7_forgetLeavers 56 = .ok (.aload 4, 2) := by decide +kernel
theorem dX7_forgetLeavers_58 : decode cX7_forgetLeavers 58 = .ok (.getfield 103, 3) := by decide +kernel
theorem dX7_forgetLeavers_61 : decode cX7_forgetLeavers 61 = .ok (.bipush 100, 2) := by decide +kernel
theorem dX7_forgetLeavers_63 : decode cX7_forgetLeavers 63 = .ok (.if_icmp .eq 36, 3) := by decide +kernel
theorem dX7_forgetLeavers_66 : decode cX7_forgetLeavers 66 = .ok (.aload_n 1, 1) := by decide +kernel
theorem dX7_forgetLeavers_67 : decode cX7_forgetLeavers 67 = .ok (.getfield 389, 3) := by decide +kernel
theorem dX7_forgetLeavers_70 : decode cX7_forgetLeavers 70 = .ok (.aload 4, 2) := by decide +kernel
theorem dX7_forgetLeavers_72 : decode cX7_forgetLeavers 72 = .ok (.invokevirtual 393, 3) := by decide +kernel
theorem dX7_forgetLeavers_75 : decode cX7_forgetLeavers 75 = .ok (.ifCond .eq 24, 3) := by decide +kernel
theorem dX7_forgetLeavers_78 : decode cX7_forgetLeavers 78 = .ok (.aload_n 1, 1) := by decide +kernel
theorem dX7_forgetLeavers_79 : decode cX7_forgetLeavers 79 = .ok (.dup, 1) := by decide +kernel
theorem dX7_forgetLeavers_80 : decode cX7_forgetLeavers 80 = .ok (.getfield 213, 3) := by decide +kernel
theorem dX7_forgetLeavers_83 : decode cX7_forgetLeavers 83 = .ok (.iconst 1, 1) := by decide +kernel
theorem dX7_forgetLeavers_84 : decode cX7_forgetLeavers 84 = .ok (.isub, 1) := by decide +kernel
theorem dX7_forgetLeavers_85 : decode cX7_forgetLeavers 85 = .ok (.putfield 213, 3) := by decide +kernel
theorem dX7_forgetLeavers_88 : decode cX7_forgetLeavers 88 = .ok (.aload 4, 2) := by decide +kernel
theorem dX7_forgetLeavers_90 : decode cX7_forgetLeavers 90 = .ok (.dup, 1) := by decide +kernel
theorem dX7_forgetLeavers_91 : decode cX7_forgetLeavers 91 = .ok (.getfield 263, 3) := by decide +kernel
theorem dX7_forgetLeavers_94 : decode cX7_forgetLeavers 94 = .ok (.iconst 1, 1) := by decide +kernel
theorem dX7_forgetLeavers_95 : decode cX7_forgetLeavers 95 = .ok (.isub, 1) := by decide +kernel
theorem dX7_forgetLeavers_96 : decode cX7_forgetLeavers 96 = .ok (.putfield 263, 3) := by decide +kernel
theorem dX7_forgetLeavers_99 : decode cX7_forgetLeavers 99 = .ok (.iinc 3 (-1), 3) := by decide +kernel
theorem dX7_forgetLeavers_102 : decode cX7_forgetLeavers 102 = .ok (.goto (-82), 3) := by decide +kernel
theorem dX7_forgetLeavers_105 : decode cX7_forgetLeavers 105 = .ok (.return_, 1) := by decide +kernel
set_option maxRecDepth 20000 in
theorem ggX7_answerRequests_Jx4a65c_size_8abf5 : GoodIn wsX7_answerRequests wsJx4a65c_size_8abf5 := goodIn_r _ [8, 9, 60, 61, 62] (by decide +kernel) (by decide +kernel)
set_option maxRecDepth 20000 in
theorem gX7_answerRequests_Jx4a65c_size_8abf5 : GoodIn wsX7_answerRequests (wsV RX7 53 RJx4a65c yJx4a65c_size_8abf5 wsJx4a65c_size_8abf5) := goodIn_app (goodIn_of _ (by decide +kernel)) ggX7_answerRequests_Jx4a65c_size_8abf5
set_option maxRecDepth 20000 in
theorem ggX7_answerRequests_Jx4a65c_get_915e3 : GoodIn wsX7_answerRequests wsJx4a65c_get_915e3 := goodIn_r _ [13, 9, 14, 15, 16, 17, 18, 19, 20, 21, 22, 23, 24, 7, 25, 26, 60, 61, 62] (by decide +kernel) (by decide +kernel)
set_option maxRecDepth 20000 in
theorem gX7_answerRequests_Jx4a65c_get_915e3 : GoodIn wsX7_answerRequests (wsV RX7 120 RJx4a65c yJx4a65c_get_915e3 wsJx4a65c_get_915e3) := goodIn_app (goodIn_of _ (by decide +kernel)) ggX7_answerRequests_Jx4a65c_get_915e3
set_option maxRecDepth 20000 in
theorem ggX7_answerRequests_X7_archivedLines : GoodIn wsX7_answerRequests wsX7_archivedLines := goodIn_r _ [31, 32, 33, 4, 5, 6, 7, 8, 9, 10, 11, 12, 13, 14, 15, 16, 17, 18, 19, 20, 21, 22, 23, 24, 25, 26, 34, 35, 36, 37, 38, 39, 40, 41, 42, 43, 44, 45, 46, 47, 48, 49, 50, 51, 52, 53, 54, 55, 63, 64, 65, 66, 67, 68, 69, 70, 60, 61, 62, 71, 72, 73, 74, 75, 76, 77] (by decide +kernel) (by decide +kernel)
set_option maxRecDepth 20000 in
theorem gX7_answerRequests_X7_archivedLines : GoodIn wsX7_answerRequests (wsV RX7 169 RX7 yX7_archivedLines wsX7_archivedLines) := goodIn_app (goodIn_of _ (by decide +kernel)) ggX7_answerRequests_X7_archivedLines
theorem dX7_answerRequests_0 : decode cX7_answerRequests 0 = .ok (.iconst 0, 1) := by decide +kernel
theorem dX7_answerRequests_1 : decode cX7_answerRequests 1 = .ok (.istore_n 1, 1) := by decide +kernel
theorem dX7_answerRequests_2 : decode cX7_answerRequests 2 = .ok (.iload_n 1, 1) := by decide +kernel
theorem dX7_answerRequests_3 : decode cX7_answerRequests 3 = .ok (.aload_n 0, 1) := by decide +kernel
theorem dX7_answerRequests_4 : decode cX7_answerRequests 4 = .ok (.getfield 25, 3) := by decide +kernel
theorem dX7_answerRequests_7 : decode cX7_answerRequests 7 = .ok (.invokevirtual 53, 3) := by decide +kernel
theorem dX7_answerRequests_10 : decode cX7_answerRequests 10 = .ok (.if_icmp .ge 56, 3) := by decide +kernel
theorem dX7_answerRequests_13 : decode cX7_answerRequests 13 = .ok (.aload_n 0, 1) := by decide +kernel
theorem dX7_answerRequests_14 : decode cX7_answerRequests 14 = .ok (.getfield 25, 3) := by decide +kernel
theorem dX7_answerRequests_17 : decode cX7_answerRequests 17 = .ok (.iload_n 1, 1) := by decide +kernel
theorem dX7_answerRequests_18 : decode cX7_answerRequests 18 = .ok (.invokevirtual 120, 3) := by decide +kernel
theorem dX7_answerRequests_21 : decode cX7_answerRequests 21 = .ok (.checkcast 173, 3) := by decide +kernel
theorem dX7_answerRequests_24 : decode cX7_answerRequests 24 = .ok (.astore_n 2, 1) := by decide +kernel
theorem dX7_answerRequests_25 : decode cX7_answerRequests 25 = .ok (.aload_n 2, 1) := by decide +kernel
theorem dX7_answerRequests_26 : decode cX7_answerRequests 26 = .ok (.getfield 183, 3) := by decide +kernel
theorem dX7_answerRequests_29 : decode cX7_answerRequests 29 = .ok (.ifCond .ne 31, 3) := by decide +kernel
theorem dX7_answerRequests_32 : decode cX7_answerRequests 32 = .ok (.aload_n 2, 1) := by decide +kernel
theorem dX7_answerRequests_33 : decode cX7_answerRequests 33 = .ok (.getfield 397, 3) := by decide +kernel
theorem dX7_answerRequests_36 : decode cX7_answerRequests 36 = .ok (.aload_n 0, 1) := by decide +kernel
theorem dX7_answerRequests_37 : decode cX7_answerRequests 37 = .ok (.getfield 76, 3) := by decide +kernel
theorem dX7_answerRequests_40 : decode cX7_answerRequests 40 = .ok (.if_icmp .gt 20, 3) := by decide +kernel
theorem dX7_answerRequests_43 : decode cX7_answerRequests 43 = .ok (.aload_n 2, 1) := by decide +kernel
theorem dX7_answerRequests_44 : decode cX7_answerRequests 44 = .ok (.iconst 1, 1) := by decide +kernel
theorem dX7_answerRequests_45 : decode cX7_answerRequests 45 = .ok (.putfield 183, 3) := by decide +kernel
theorem dX7_answerRequests_48 : decode cX7_answerRequests 48 = .ok (.aload_n 2, 1) := by decide +kernel
theorem dX7_answerRequests_49 : decode cX7_answerRequests 49 = .ok (.aload_n 0, 1) := by decide +kernel
theorem dX7_answerRequests_50 : decode cX7_answerRequests 50 = .ok (.aload_n 2, 1) := by decide +kernel
theorem dX7_answerRequests_51 : decode cX7_answerRequests 51 = .ok (.getfield 400, 3) := by decide +kernel
theorem dX7_answerRequests_54 : decode cX7_answerRequests 54 = .ok (.invokevirtual 169, 3) := by decide +kernel
theorem dX7_answerRequests_57 : decode cX7_answerRequests 57 = .ok (.putfield 188, 3) := by decide +kernel
theorem dX7_answerRequests_60 : decode cX7_answerRequests 60 = .ok (.iinc 1 1, 3) := by decide +kernel
theorem dX7_answerRequests_63 : decode cX7_answerRequests 63 = .ok (.goto (-61), 3) := by decide +kernel
theorem dX7_answerRequests_66 : decode cX7_answerRequests 66 = .ok (.return_, 1) := by decide +kernel
set_option maxRecDepth 20000 in
theorem ggX7_archivedLines_Jx4a65c_size_8abf5 : GoodIn wsX7_archivedLines wsJx4a65c_size_8abf5 := goodIn_r _ [7, 8, 56, 57, 58] (by decide +kernel) (by decide +kernel)
set_option maxRecDepth 20000 in
theorem gX7_archivedLines_Jx4a65c_size_8abf5 : GoodIn wsX7_archivedLines (wsV RX7 53 RJx4a65c yJx4a65c_size_8abf5 wsJx4a65c_size_8abf5) := goodIn_app (goodIn_of _ (by decide +kernel)) ggX7_archivedLines_Jx4a65c_size_8abf5
set_option maxRecDepth 20000 in
theorem ggX7_archivedLines_Jx4a65c_get_915e3 : GoodIn wsX7_archivedLines wsJx4a65c_get_915e3 := goodIn_r _ [12, 8, 13, 14, 15, 16, 17, 18, 19, 20, 21, 22, 23, 6, 24, 25, 56, 57, 58] (by decide +kernel) (by decide +kernel)
set_option maxRecDepth 20000 in
theorem gX7_archivedLines_Jx4a65c_get_915e3 : GoodIn wsX7_archivedLines (wsV RX7 120 RJx4a65c yJx4a65c_get_915e3 wsJx4a65c_get_915e3) := goodIn_app (goodIn_of _ (by decide +kernel)) ggX7_archivedLines_Jx4a65c_get_915e3
set_option maxRecDepth 20000 in
theorem ggX7_archivedLines_X1_takes : GoodIn wsX7_archivedLines wsX1_takes := goodIn_r _ [29, 30, 31, 32, 33, 34, 35, 36, 37, 38, 39, 40, 48, 49, 50, 51, 52, 53, 54, 55, 59, 60, 61, 62, 63, 64, 65] (by decide +kernel) (by decide +kernel)
set_option maxRecDepth 20000 in
theorem gX7_archivedLines_X1_takes_n393 : GoodIn wsX7_archivedLines (wsX1_takes) := ggX7_archivedLines_X1_takes
theorem dX7_archivedLines_0 : decode cX7_archivedLines 0 = .ok (.iconst 0, 1) := by decide +kernel
theorem dX7_archivedLines_1 : decode cX7_archivedLines 1 = .ok (.istore_n 2, 1) := by decide +kernel
theorem dX7_archivedLines_2 : decode cX7_archivedLines 2 = .ok (.iconst 0, 1) := by decide +kernel
theorem dX7_archivedLines_3 : decode cX7_archivedLines 3 = .ok (.istore_n 3, 1) := by decide +kernel
theorem dX7_archivedLines_4 : decode cX7_archivedLines 4 = .ok (.iload_n 3, 1) := by decide +kernel
theorem dX7_archivedLines_5 : decode cX7_archivedLines 5 = .ok (.aload_n 0, 1) := by decide +kernel
theorem dX7_archivedLines_6 : decode cX7_archivedLines 6 = .ok (.getfield 10, 3) := by decide +kernel
theorem dX7_archivedLines_9 : decode cX7_archivedLines 9 = .ok (.invokevirtual 53, 3) := by decide +kernel
theorem dX7_archivedLines_12 : decode cX7_archivedLines 12 = .ok (.if_icmp .ge 44, 3) := by decide +kernel
theorem dX7_archivedLines_15 : decode cX7_archivedLines 15 = .ok (.aload_n 0, 1) := by decide +kernel
theorem dX7_archivedLines_16 : decode cX7_archivedLines 16 = .ok (.getfield 10, 3) := by decide +kernel
theorem dX7_archivedLines_19 : decode cX7_archivedLines 19 = .ok (.iload_n 3, 1) := by decide +kernel
theorem dX7_archivedLines_20 : decode cX7_archivedLines 20 = .ok (.invokevirtual 120, 3) := by decide +kernel
theorem dX7_archivedLines_23 : decode cX7_archivedLines 23 = .ok (.checkcast 74, 3) := by decide +kernel
theorem dX7_archivedLines_26 : decode cX7_archivedLines 26 = .ok (.astore 4, 2) := by decide +kernel
theorem dX7_archivedLines_28 : decode cX7_archivedLines 28 = .ok (.aload 4, 2) := by decide +kernel
theorem dX7_archivedLines_30 : decode cX7_archivedLines 30 = .ok (.getfield 103, 3) := by decide +kernel
theorem dX7_archivedLines_33 : decode cX7_archivedLines 33 = .ok (.bipush 97, 2) := by decide +kernel
theorem dX7_archivedLines_35 : decode cX7_archivedLines 35 = .ok (.if_icmp .ne 15, 3) := by decide +kernel
theorem dX7_archivedLines_38 : decode cX7_archivedLines 38 = .ok (.aload_n 1, 1) := by decide +kernel
theorem dX7_archivedLines_39 : decode cX7_archivedLines 39 = .ok (.aload 4, 2) := by decide +kernel
theorem dX7_archivedLines_41 : decode cX7_archivedLines 41 = .ok (.invokevirtual 393, 3) := by decide +kernel
theorem dX7_archivedLines_44 : decode cX7_archivedLines 44 = .ok (.ifCond .eq 6, 3) := by decide +kernel
theorem dX7_archivedLines_47 : decode cX7_archivedLines 47 = .ok (.iinc 2 1, 3) := by decide +kernel
theorem dX7_archivedLines_50 : decode cX7_archivedLines 50 = .ok (.iinc 3 1, 3) := by decide +kernel
theorem dX7_archivedLines_53 : decode cX7_archivedLines 53 = .ok (.goto (-49), 3) := by decide +kernel
theorem dX7_archivedLines_56 : decode cX7_archivedLines 56 = .ok (.iload_n 2, 1) := by decide +kernel
theorem dX7_archivedLines_57 : decode cX7_archivedLines 57 = .ok (.ireturn, 1) := by decide +kernel
set_option maxRecDepth 20000 in
theorem ggX7_countsAreSound_Jx4a65c_size_8abf5 : GoodIn wsX7_countsAreSound wsJx4a65c_size_8abf5 := goodIn_r _ [7, 8, 76, 77, 78] (by decide +kernel) (by decide +kernel)
set_option maxRecDepth 20000 in
theorem gX7_countsAreSound_Jx4a65c_size_8abf5 : GoodIn wsX7_countsAreSound (wsV RX7 53 RJx4a65c yJx4a65c_size_8abf5 wsJx4a65c_size_8abf5) := goodIn_app (goodIn_of _ (by decide +kernel)) ggX7_countsAreSound_Jx4a65c_size_8abf5
set_option maxRecDepth 20000 in
theorem ggX7_countsAreSound_Jx4a65c_get_915e3 : GoodIn wsX7_countsAreSound wsJx4a65c_get_915e3 := goodIn_r _ [12, 8, 13, 14, 15, 16, 17, 18, 19, 20, 21, 22, 23, 6, 24, 25, 76, 77, 78] (by decide +kernel) (by decide +kernel)
set_option maxRecDepth 20000 in
theorem gX7_countsAreSound_Jx4a65c_get_915e3 : GoodIn wsX7_countsAreSound (wsV RX7 120 RJx4a65c yJx4a65c_get_915e3 wsJx4a65c_get_915e3) := goodIn_app (goodIn_of _ (by decide +kernel)) ggX7_countsAreSound_Jx4a65c_get_915e3
set_option maxRecDepth 20000 in
theorem ggX7_countsAreSound_X7_countFromAllLines : GoodIn wsX7_countsAreSound wsX7_countFromAllLines := goodIn_r _ [30, 31, 32, 33, 3, 4, 5, 6, 7, 8, 9, 10, 11, 12, 13, 14, 15, 16, 17, 18, 19, 20, 21, 22, 23, 24, 25, 34, 35, 36, 37, 38, 39, 40, 41, 42, 43, 44, 45, 46, 47, 48, 49, 50, 51, 52, 53, 54, 55, 56, 57, 58, 59, 60, 61, 62, 63, 64, 65, 66, 76, 77, 78, 79, 80, 81, 82, 83, 84, 85, 86, 67, 68, 69, 70, 71, 72, 73, 74, 75, 87, 88, 89, 90, 91, 92, 93] (by decide +kernel) (by decide +kernel)
set_option maxRecDepth 20000 in
theorem gX7_countsAreSound_X7_countFromAllLines : GoodIn wsX7_countsAreSound (wsV RX7 216 RX7 yX7_countFromAllLines wsX7_countFromAllLines) := goodIn_app (goodIn_of _ (by decide +kernel)) ggX7_countsAreSound_X7_countFromAllLines
theorem dX7_countsAreSound_0 : decode cX7_countsAreSound 0 = .ok (.iconst 0, 1) := by decide +kernel
theorem dX7_countsAreSound_1 : decode cX7_countsAreSound 1 = .ok (.istore_n 1, 1) := by decide +kernel
theorem dX7_countsAreSound_2 : decode cX7_countsAreSound 2 = .ok (.iload_n 1, 1) := by decide +kernel
theorem dX7_countsAreSound_3 : decode cX7_countsAreSound 3 = .ok (.aload_n 0, 1) := by decide +kernel
theorem dX7_countsAreSound_4 : decode cX7_countsAreSound 4 = .ok (.getfield 19, 3) := by decide +kernel
theorem dX7_countsAreSound_7 : decode cX7_countsAreSound 7 = .ok (.invokevirtual 53, 3) := by decide +kernel
theorem dX7_countsAreSound_10 : decode cX7_countsAreSound 10 = .ok (.if_icmp .ge 35, 3) := by decide +kernel
theorem dX7_countsAreSound_13 : decode cX7_countsAreSound 13 = .ok (.aload_n 0, 1) := by decide +kernel
theorem dX7_countsAreSound_14 : decode cX7_countsAreSound 14 = .ok (.getfield 19, 3) := by decide +kernel
theorem dX7_countsAreSound_17 : decode cX7_countsAreSound 17 = .ok (.iload_n 1, 1) := by decide +kernel
theorem dX7_countsAreSound_18 : decode cX7_countsAreSound 18 = .ok (.invokevirtual 120, 3) := by decide +kernel
theorem dX7_countsAreSound_21 : decode cX7_countsAreSound 21 = .ok (.checkcast 195, 3) := by decide +kernel
theorem dX7_countsAreSound_24 : decode cX7_countsAreSound 24 = .ok (.astore_n 2, 1) := by decide +kernel
theorem dX7_countsAreSound_25 : decode cX7_countsAreSound 25 = .ok (.aload_n 2, 1) := by decide +kernel
theorem dX7_countsAreSound_26 : decode cX7_countsAreSound 26 = .ok (.getfield 213, 3) := by decide +kernel
theorem dX7_countsAreSound_29 : decode cX7_countsAreSound 29 = .ok (.aload_n 0, 1) := by decide +kernel
theorem dX7_countsAreSound_30 : decode cX7_countsAreSound 30 = .ok (.aload_n 2, 1) := by decide +kernel
theorem dX7_countsAreSound_31 : decode cX7_countsAreSound 31 = .ok (.invokevirtual 216, 3) := by decide +kernel
theorem dX7_countsAreSound_34 : decode cX7_countsAreSound 34 = .ok (.if_icmp .eq 5, 3) := by decide +kernel
theorem dX7_countsAreSound_37 : decode cX7_countsAreSound 37 = .ok (.iconst 0, 1) := by decide +kernel
theorem dX7_countsAreSound_38 : decode cX7_countsAreSound 38 = .ok (.ireturn, 1) := by decide +kernel
theorem dX7_countsAreSound_39 : decode cX7_countsAreSound 39 = .ok (.iinc 1 1, 3) := by decide +kernel
theorem dX7_countsAreSound_42 : decode cX7_countsAreSound 42 = .ok (.goto (-40), 3) := by decide +kernel
theorem dX7_countsAreSound_45 : decode cX7_countsAreSound 45 = .ok (.iconst 1, 1) := by decide +kernel
theorem dX7_countsAreSound_46 : decode cX7_countsAreSound 46 = .ok (.ireturn, 1) := by decide +kernel
set_option maxRecDepth 20000 in
theorem ggX7_firingsAreSound_Jx4a65c_size_8abf5 : GoodIn wsX7_firingsAreSound wsJx4a65c_size_8abf5 := goodIn_r _ [7, 8, 53, 54, 55] (by decide +kernel) (by decide +kernel)
set_option maxRecDepth 20000 in
theorem gX7_firingsAreSound_Jx4a65c_size_8abf5 : GoodIn wsX7_firingsAreSound (wsV RX7 53 RJx4a65c yJx4a65c_size_8abf5 wsJx4a65c_size_8abf5) := goodIn_app (goodIn_of _ (by decide +kernel)) ggX7_firingsAreSound_Jx4a65c_size_8abf5
set_option maxRecDepth 20000 in
theorem ggX7_firingsAreSound_Jx4a65c_get_915e3 : GoodIn wsX7_firingsAreSound wsJx4a65c_get_915e3 := goodIn_r _ [12, 8, 13, 14, 15, 16, 17, 18, 19, 20, 21, 22, 23, 6, 24, 25, 53, 54, 55] (by decide +kernel) (by decide +kernel)
set_option maxRecDepth 20000 in
theorem gX7_firingsAreSound_Jx4a65c_get_915e3 : GoodIn wsX7_firingsAreSound (wsV RX7 120 RJx4a65c yJx4a65c_get_915e3 wsJx4a65c_get_915e3) := goodIn_app (goodIn_of _ (by decide +kernel)) ggX7_firingsAreSound_Jx4a65c_get_915e3
set_option maxRecDepth 20000 in
theorem ggX7_firingsAreSound_X7_someFiringHas : GoodIn wsX7_firingsAreSound wsX7_someFiringHas := goodIn_ca (goodIn_r _ [30, 31, 32, 3, 4, 5, 6, 7, 8, 9, 10, 11, 12, 13, 14, 15, 16, 17, 18, 19, 20, 21, 22, 23, 24, 25, 33, 34, 35, 36, 37, 38, 39, 40, 41, 42, 43, 44, 53, 54, 55, 56, 57, 58, 59, 60] (by decide +kernel) (by decide +kernel)) (goodIn_sub (fun _ h => List.mem_cons_of_mem _ (List.mem_append_right _ h)) (by decide +kernel))
set_option maxRecDepth 20000 in
theorem gX7_firingsAreSound_X7_someFiringHas : GoodIn wsX7_firingsAreSound (wsV RX7 401 RX7 yX7_someFiringHas wsX7_someFiringHas) := goodIn_app (goodIn_of _ (by decide +kernel)) ggX7_firingsAreSound_X7_someFiringHas
theorem dX7_firingsAreSound_0 : decode cX7_firingsAreSound 0 = .ok (.iconst 0, 1) := by decide +kernel
theorem dX7_firingsAreSound_1 : decode cX7_firingsAreSound 1 = .ok (.istore_n 1, 1) := by decide +kernel
theorem dX7_firingsAreSound_2 : decode cX7_firingsAreSound 2 = .ok (.iload_n 1, 1) := by decide +kernel
theorem dX7_firingsAreSound_3 : decode cX7_firingsAreSound 3 = .ok (.aload_n 0, 1) := by decide +kernel
theorem dX7_firingsAreSound_4 : decode cX7_firingsAreSound 4 = .ok (.getfield 10, 3) := by decide +kernel
theorem dX7_firingsAreSound_7 : decode cX7_firingsAreSound 7 = .ok (.invokevirtual 53, 3) := by decide +kernel
theorem dX7_firingsAreSound_10 : decode cX7_firingsAreSound 10 = .ok (.if_icmp .ge 38, 3) := by decide +kernel
theorem dX7_firingsAreSound_13 : decode cX7_firingsAreSound 13 = .ok (.aload_n 0, 1) := by decide +kernel
theorem dX7_firingsAreSound_14 : decode cX7_firingsAreSound 14 = .ok (.getfield 10, 3) := by decide +kernel
theorem dX7_firingsAreSound_17 : decode cX7_firingsAreSound 17 = .ok (.iload_n 1, 1) := by decide +kernel
theorem dX7_firingsAreSound_18 : decode cX7_firingsAreSound 18 = .ok (.invokevirtual 120, 3) := by decide +kernel
theorem dX7_firingsAreSound_21 : decode cX7_firingsAreSound 21 = .ok (.checkcast 74, 3) := by decide +kernel
theorem dX7_firingsAreSound_24 : decode cX7_firingsAreSound 24 = .ok (.getfield 103, 3) := by decide +kernel
theorem dX7_firingsAreSound_27 : decode cX7_firingsAreSound 27 = .ok (.bipush 100, 2) := by decide +kernel
theorem dX7_firingsAreSound_29 : decode cX7_firingsAreSound 29 = .ok (.if_icmp .ne 13, 3) := by decide +kernel
theorem dX7_firingsAreSound_32 : decode cX7_firingsAreSound 32 = .ok (.aload_n 0, 1) := by decide +kernel
theorem dX7_firingsAreSound_33 : decode cX7_firingsAreSound 33 = .ok (.iload_n 1, 1) := by decide +kernel
theorem dX7_firingsAreSound_34 : decode cX7_firingsAreSound 34 = .ok (.invokevirtual 401, 3) := by decide +kernel
theorem dX7_firingsAreSound_37 : decode cX7_firingsAreSound 37 = .ok (.ifCond .eq 5, 3) := by decide +kernel
theorem dX7_firingsAreSound_40 : decode cX7_firingsAreSound 40 = .ok (.iconst 0, 1) := by decide +kernel
theorem dX7_firingsAreSound_41 : decode cX7_firingsAreSound 41 = .ok (.ireturn, 1) := by decide +kernel
theorem dX7_firingsAreSound_42 : decode cX7_firingsAreSound 42 = .ok (.iinc 1 1, 3) := by decide +kernel
theorem dX7_firingsAreSound_45 : decode cX7_firingsAreSound 45 = .ok (.goto (-43), 3) := by decide +kernel
theorem dX7_firingsAreSound_48 : decode cX7_firingsAreSound 48 = .ok (.iconst 1, 1) := by decide +kernel
theorem dX7_firingsAreSound_49 : decode cX7_firingsAreSound 49 = .ok (.ireturn, 1) := by decide +kernel
set_option maxRecDepth 20000 in
theorem ggX7_someFiringHas_Jx4a65c_size_8abf5 : GoodIn wsX7_someFiringHas wsJx4a65c_size_8abf5 := goodIn_r _ [7, 8, 38, 39, 40] (by decide +kernel) (by decide +kernel)
set_option maxRecDepth 20000 in
theorem gX7_someFiringHas_Jx4a65c_size_8abf5 : GoodIn wsX7_someFiringHas (wsV RX7 53 RJx4a65c yJx4a65c_size_8abf5 wsJx4a65c_size_8abf5) := goodIn_app (goodIn_of _ (by decide +kernel)) ggX7_someFiringHas_Jx4a65c_size_8abf5
set_option maxRecDepth 20000 in
theorem ggX7_someFiringHas_Jx4a65c_get_915e3 : GoodIn wsX7_someFiringHas wsJx4a65c_get_915e3 := goodIn_r _ [12, 8, 13, 14, 15, 16, 17, 18, 19, 20, 21, 22, 23, 6, 24, 25, 38, 39, 40] (by decide +kernel) (by decide +kernel)
set_option maxRecDepth 20000 in
theorem gX7_someFiringHas_Jx4a65c_get_915e3 : GoodIn wsX7_someFiringHas (wsV RX7 120 RJx4a65c yJx4a65c_get_915e3 wsJx4a65c_get_915e3) := goodIn_app (goodIn_of _ (by decide +kernel)) ggX7_someFiringHas_Jx4a65c_get_915e3
set_option maxRecDepth 20000 in
theorem ggX7_someFiringHas_X2_hasLine : GoodIn wsX7_someFiringHas wsX2_hasLine := goodIn_ca (goodIn_r _ [29, 30, 41, 42, 43, 44, 45] (by decide +kernel) (by decide +kernel)) (goodIn_sub (fun _ h => List.mem_cons_of_mem _ (List.mem_append_right _ h)) (by decide +kernel))
set_option maxRecDepth 20000 in
theorem gX7_someFiringHas_X2_hasLine_n239 : GoodIn wsX7_someFiringHas (wsX2_hasLine) := ggX7_someFiringHas_X2_hasLine
theorem dX7_someFiringHas_0 : decode cX7_someFiringHas 0 = .ok (.iconst 0, 1) := by decide +kernel
theorem dX7_someFiringHas_1 : decode cX7_someFiringHas 1 = .ok (.istore_n 2, 1) := by decide +kernel
theorem dX7_someFiringHas_2 : decode cX7_someFiringHas 2 = .ok (.iload_n 2, 1) := by decide +kernel
theorem dX7_someFiringHas_3 : decode cX7_someFiringHas 3 = .ok (.aload_n 0, 1) := by decide +kernel
theorem dX7_someFiringHas_4 : decode cX7_someFiringHas 4 = .ok (.getfield 22, 3) := by decide +kernel
theorem dX7_someFiringHas_7 : decode cX7_someFiringHas 7 = .ok (.invokevirtual 53, 3) := by decide +kernel
theorem dX7_someFiringHas_10 : decode cX7_someFiringHas 10 = .ok (.if_icmp .ge 29, 3) := by decide +kernel
theorem dX7_someFiringHas_13 : decode cX7_someFiringHas 13 = .ok (.aload_n 0, 1) := by decide +kernel
theorem dX7_someFiringHas_14 : decode cX7_someFiringHas 14 = .ok (.getfield 22, 3) := by decide +kernel
theorem dX7_someFiringHas_17 : decode cX7_someFiringHas 17 = .ok (.iload_n 2, 1) := by decide +kernel
theorem dX7_someFiringHas_18 : decode cX7_someFiringHas 18 = .ok (.invokevirtual 120, 3) := by decide +kernel
theorem dX7_someFiringHas_21 : decode cX7_someFiringHas 21 = .ok (.checkcast 228, 3) := by decide +kernel
theorem dX7_someFiringHas_24 : decode cX7_someFiringHas 24 = .ok (.iload_n 1, 1) := by decide +kernel
theorem dX7_someFiringHas_25 : decode cX7_someFiringHas 25 = .ok (.invokevirtual 239, 3) := by decide +kernel
theorem dX7_someFiringHas_28 : decode cX7_someFiringHas 28 = .ok (.ifCond .eq 5, 3) := by decide +kernel
theorem dX7_someFiringHas_31 : decode cX7_someFiringHas 31 = .ok (.iconst 1, 1) := by decide +kernel
theorem dX7_someFiringHas_32 : decode cX7_someFiringHas 32 = .ok (.ireturn, 1) := by decide +kernel
theorem dX7_someFiringHas_33 : decode cX7_someFiringHas 33 = .ok (.iinc 2 1, 3) := by decide +kernel
theorem dX7_someFiringHas_36 : decode cX7_someFiringHas 36 = .ok (.goto (-34), 3) := by decide +kernel
theorem dX7_someFiringHas_39 : decode cX7_someFiringHas 39 = .ok (.iconst 0, 1) := by decide +kernel
theorem dX7_someFiringHas_40 : decode cX7_someFiringHas 40 = .ok (.ireturn, 1) := by decide +kernel
set_option maxRecDepth 20000 in
theorem ggX7_patternsAreSound_Jx4a65c_size_8abf5 : GoodIn wsX7_patternsAreSound wsJx4a65c_size_8abf5 := goodIn_r _ [7, 8, 58, 59, 60] (by decide +kernel) (by decide +kernel)
set_option maxRecDepth 20000 in
theorem gX7_patternsAreSound_Jx4a65c_size_8abf5 : GoodIn wsX7_patternsAreSound (wsV RX7 53 RJx4a65c yJx4a65c_size_8abf5 wsJx4a65c_size_8abf5) := goodIn_app (goodIn_of _ (by decide +kernel)) ggX7_patternsAreSound_Jx4a65c_size_8abf5
set_option maxRecDepth 20000 in
theorem ggX7_patternsAreSound_Jx4a65c_get_915e3 : GoodIn wsX7_patternsAreSound wsJx4a65c_get_915e3 := goodIn_r _ [12, 8, 13, 14, 15, 16, 17, 18, 19, 20, 21, 22, 23, 6, 24, 25, 58, 59, 60] (by decide +kernel) (by decide +kernel)
set_option maxRecDepth 20000 in
theorem gX7_patternsAreSound_Jx4a65c_get_915e3 : GoodIn wsX7_patternsAreSound (wsV RX7 120 RJx4a65c yJx4a65c_get_915e3 wsJx4a65c_get_915e3) := goodIn_app (goodIn_of _ (by decide +kernel)) ggX7_patternsAreSound_Jx4a65c_get_915e3
set_option maxRecDepth 20000 in
theorem ggX7_patternsAreSound_X4_suits : GoodIn wsX7_patternsAreSound wsX4_suits := goodIn_r _ [29, 30, 31, 32, 33, 34, 35, 36, 37, 38, 54, 55, 56, 57, 61, 62, 63] (by decide +kernel) (by decide +kernel)
set_option maxRecDepth 20000 in
theorem gX7_patternsAreSound_X4_suits_n313 : GoodIn wsX7_patternsAreSound (wsX4_suits) := ggX7_patternsAreSound_X4_suits
theorem dX7_patternsAreSound_0 : decode cX7_patternsAreSound 0 = .ok (.iconst 0, 1) := by decide +kernel
theorem dX7_patternsAreSound_1 : decode cX7_patternsAreSound 1 = .ok (.istore_n 1, 1) := by decide +kernel
theorem dX7_patternsAreSound_2 : decode cX7_patternsAreSound 2 = .ok (.iload_n 1, 1) := by decide +kernel
theorem dX7_patternsAreSound_3 : decode cX7_patternsAreSound 3 = .ok (.aload_n 0, 1) := by decide +kernel
theorem dX7_patternsAreSound_4 : decode cX7_patternsAreSound 4 = .ok (.getfield 10, 3) := by decide +kernel
theorem dX7_patternsAreSound_7 : decode cX7_patternsAreSound 7 = .ok (.invokevirtual 53, 3) := by decide +kernel
theorem dX7_patternsAreSound_10 : decode cX7_patternsAreSound 10 = .ok (.if_icmp .ge 51, 3) := by decide +kernel
theorem dX7_patternsAreSound_13 : decode cX7_patternsAreSound 13 = .ok (.aload_n 0, 1) := by decide +kernel
theorem dX7_patternsAreSound_14 : decode cX7_patternsAreSound 14 = .ok (.getfield 10, 3) := by decide +kernel
theorem dX7_patternsAreSound_17 : decode cX7_patternsAreSound 17 = .ok (.iload_n 1, 1) := by decide +kernel
theorem dX7_patternsAreSound_18 : decode cX7_patternsAreSound 18 = .ok (.invokevirtual 120, 3) := by decide +kernel
theorem dX7_patternsAreSound_21 : decode cX7_patternsAreSound 21 = .ok (.checkcast 74, 3) := by decide +kernel
theorem dX7_patternsAreSound_24 : decode cX7_patternsAreSound 24 = .ok (.astore_n 2, 1) := by decide +kernel
theorem dX7_patternsAreSound_25 : decode cX7_patternsAreSound 25 = .ok (.aload_n 2, 1) := by decide +kernel
theorem dX7_patternsAreSound_26 : decode cX7_patternsAreSound 26 = .ok (.getfield 107, 3) := by decide +kernel
theorem dX7_patternsAreSound_29 : decode cX7_patternsAreSound 29 = .ok (.getfield 127, 3) := by decide +kernel
theorem dX7_patternsAreSound_32 : decode cX7_patternsAreSound 32 = .ok (.ifCond .ne 21, 3) := by decide +kernel
theorem dX7_patternsAreSound_35 : decode cX7_patternsAreSound 35 = .ok (.aload_n 2, 1) := by decide +kernel
theorem dX7_patternsAreSound_36 : decode cX7_patternsAreSound 36 = .ok (.getfield 107, 3) := by decide +kernel
theorem dX7_patternsAreSound_39 : decode cX7_patternsAreSound 39 = .ok (.aload_n 2, 1) := by decide +kernel
theorem dX7_patternsAreSound_40 : decode cX7_patternsAreSound 40 = .ok (.getfield 157, 3) := by decide +kernel
theorem dX7_patternsAreSound_43 : decode cX7_patternsAreSound 43 = .ok (.aload_n 2, 1) := by decide +kernel
theorem dX7_patternsAreSound_44 : decode cX7_patternsAreSound 44 = .ok (.getfield 145, 3) := by decide +kernel
theorem dX7_patternsAreSound_47 : decode cX7_patternsAreSound 47 = .ok (.invokevirtual 313, 3) := by decide +kernel
theorem dX7_patternsAreSound_50 : decode cX7_patternsAreSound 50 = .ok (.ifCond .ne 5, 3) := by decide +kernel
theorem dX7_patternsAreSound_53 : decode cX7_patternsAreSound 53 = .ok (.iconst 0, 1) := by decide +kernel
theorem dX7_patternsAreSound_54 : decode cX7_patternsAreSound 54 = .ok (.ireturn, 1) := by decide +kernel
theorem dX7_patternsAreSound_55 : decode cX7_patternsAreSound 55 = .ok (.iinc 1 1, 3) := by decide +kernel
theorem dX7_patternsAreSound_58 : decode cX7_patternsAreSound 58 = .ok (.goto (-56), 3) := by decide +kernel
theorem dX7_patternsAreSound_61 : decode cX7_patternsAreSound 61 = .ok (.iconst 1, 1) := by decide +kernel
theorem dX7_patternsAreSound_62 : decode cX7_patternsAreSound 62 = .ok (.ireturn, 1) := by decide +kernel
theorem dX8_init_0 : decode cX8_init 0 = .ok (.aload_n 0, 1) := by decide +kernel
theorem dX8_init_1 : decode cX8_init 1 = .ok (.invokespecial 1, 3) := by decide +kernel
theorem dX8_init_4 : decode cX8_init 4 = .ok (.aload_n 0, 1) := by decide +kernel
theorem dX8_init_5 : decode cX8_init 5 = .ok (.sipush 200, 3) := by decide +kernel
theorem dX8_init_8 : decode cX8_init 8 = .ok (.newarray .int, 2) := by decide +kernel
theorem dX8_init_10 : decode cX8_init 10 = .ok (.putfield 7, 3) := by decide +kernel
theorem dX8_init_13 : decode cX8_init 13 = .ok (.aload_n 0, 1) := by decide +kernel
theorem dX8_init_14 : decode cX8_init 14 = .ok (.sipush 200, 3) := by decide +kernel
theorem dX8_init_17 : decode cX8_init 17 = .ok (.newarray .int, 2) := by decide +kernel
theorem dX8_init_19 : decode cX8_init 19 = .ok (.putfield 13, 3) := by decide +kernel
theorem dX8_init_22 : decode cX8_init 22 = .ok (.aload_n 0, 1) := by decide +kernel
theorem dX8_init_23 : decode cX8_init 23 = .ok (.sipush 600, 3) := by decide +kernel
theorem dX8_init_26 : decode cX8_init 26 = .ok (.newarray .int, 2) := by decide +kernel
theorem dX8_init_28 : decode cX8_init 28 = .ok (.putfield 16, 3) := by decide +kernel
theorem dX8_init_31 : decode cX8_init 31 = .ok (.aload_n 0, 1) := by decide +kernel
theorem dX8_init_32 : decode cX8_init 32 = .ok (.sipush 200, 3) := by decide +kernel
theorem dX8_init_35 : decode cX8_init 35 = .ok (.newarray .int, 2) := by decide +kernel
theorem dX8_init_37 : decode cX8_init 37 = .ok (.putfield 19, 3) := by decide +kernel
theorem dX8_init_40 : decode cX8_init 40 = .ok (.aload_n 0, 1) := by decide +kernel
theorem dX8_init_41 : decode cX8_init 41 = .ok (.sipush 200, 3) := by decide +kernel
theorem dX8_init_44 : decode cX8_init 44 = .ok (.newarray .int, 2) := by decide +kernel
theorem dX8_init_46 : decode cX8_init 46 = .ok (.putfield 22, 3) := by decide +kernel
theorem dX8_init_49 : decode cX8_init 49 = .ok (.aload_n 0, 1) := by decide +kernel
theorem dX8_init_50 : decode cX8_init 50 = .ok (.sipush 200, 3) := by decide +kernel
theorem dX8_init_53 : decode cX8_init 53 = .ok (.newarray .char, 2) := by decide +kernel
theorem dX8_init_55 : decode cX8_init 55 = .ok (.putfield 25, 3) := by decide +kernel
theorem dX8_init_58 : decode cX8_init 58 = .ok (.aload_n 0, 1) := by decide +kernel
theorem dX8_init_59 : decode cX8_init 59 = .ok (.sipush 200, 3) := by decide +kernel
theorem dX8_init_62 : decode cX8_init 62 = .ok (.newarray .int, 2) := by decide +kernel
theorem dX8_init_64 : decode cX8_init 64 = .ok (.putfield 29, 3) := by decide +kernel
theorem dX8_init_67 : decode cX8_init 67 = .ok (.aload_n 0, 1) := by decide +kernel
theorem dX8_init_68 : decode cX8_init 68 = .ok (.sipush 200, 3) := by decide +kernel
theorem dX8_init_71 : decode cX8_init 71 = .ok (.newarray .int, 2) := by decide +kernel
theorem dX8_init_73 : decode cX8_init 73 = .ok (.putfield 32, 3) := by decide +kernel
theorem dX8_init_76 : decode cX8_init 76 = .ok (.aload_n 0, 1) := by decide +kernel
theorem dX8_init_77 : decode cX8_init 77 = .ok (.sipush 600, 3) := by decide +kernel
theorem dX8_init_80 : decode cX8_init 80 = .ok (.newarray .int, 2) := by decide +kernel
theorem dX8_init_82 : decode cX8_init 82 = .ok (.putfield 35, 3) := by decide +kernel
theorem dX8_init_85 : decode cX8_init 85 = .ok (.aload_n 0, 1) := by decide +kernel
theorem dX8_init_86 : decode cX8_init 86 = .ok (.sipush 200, 3) := by decide +kernel
theorem dX8_init_89 : decode cX8_init 89 = .ok (.newarray .boolean, 2) := by decide +kernel
theorem dX8_init_91 : decode cX8_init 91 = .ok (.putfield 38, 3) := by decide +kernel
theorem dX8_init_94 : decode cX8_init 94 = .ok (.aload_n 0, 1) := by decide +kernel
theorem dX8_init_95 : decode cX8_init 95 = .ok (.bipush 6, 2) := by decide +kernel
theorem dX8_init_97 : decode cX8_init 97 = .ok (.newarray .int, 2) := by decide +kernel
theorem dX8_init_99 : decode cX8_init 99 = .ok (.putfield 42, 3) := by decide +kernel
theorem dX8_init_102 : decode cX8_init 102 = .ok (.aload_n 0, 1) := by decide +kernel
theorem dX8_init_103 : decode cX8_init 103 = .ok (.bipush 6, 2) := by decide +kernel
theorem dX8_init_105 : decode cX8_init 105 = .ok (.newarray .int, 2) := by decide +kernel
theorem dX8_init_107 : decode cX8_init 107 = .ok (.putfield 45, 3) := by decide +kernel
theorem dX8_init_110 : decode cX8_init 110 = .ok (.aload_n 0, 1) := by decide +kernel
theorem dX8_init_111 : decode cX8_init 111 = .ok (.bipush 6, 2) := by decide +kernel
theorem dX8_init_113 : decode cX8_init 113 = .ok (.newarray .int, 2) := by decide +kernel
theorem dX8_init_115 : decode cX8_init 115 = .ok (.putfield 48, 3) := by decide +kernel
theorem dX8_init_118 : decode cX8_init 118 = .ok (.aload_n 0, 1) := by decide +kernel
theorem dX8_init_119 : decode cX8_init 119 = .ok (.bipush 6, 2) := by decide +kernel
theorem dX8_init_121 : decode cX8_init 121 = .ok (.newarray .int, 2) := by decide +kernel
theorem dX8_init_123 : decode cX8_init 123 = .ok (.putfield 51, 3) := by decide +kernel
theorem dX8_init_126 : decode cX8_init 126 = .ok (.aload_n 0, 1) := by decide +kernel
theorem dX8_init_127 : decode cX8_init 127 = .ok (.bipush 6, 2) := by decide +kernel
theorem dX8_init_129 : decode cX8_init 129 = .ok (.newarray .int, 2) := by decide +kernel
theorem dX8_init_131 : decode cX8_init 131 = .ok (.putfield 54, 3) := by decide +kernel
theorem dX8_init_134 : decode cX8_init 134 = .ok (.aload_n 0, 1) := by decide +kernel
theorem dX8_init_135 : decode cX8_init 135 = .ok (.bipush 6, 2) := by decide +kernel
theorem dX8_init_137 : decode cX8_init 137 = .ok (.newarray .int, 2) := by decide +kernel
theorem dX8_init_139 : decode cX8_init 139 = .ok (.putfield 57, 3) := by decide +kernel
theorem dX8_init_142 : decode cX8_init 142 = .ok (.aload_n 0, 1) := by decide +kernel
theorem dX8_init_143 : decode cX8_init 143 = .ok (.bipush 6, 2) := by decide +kernel
theorem dX8_init_145 : decode cX8_init 145 = .ok (.newarray .int, 2) := by decide +kernel
theorem dX8_init_147 : decode cX8_init 147 = .ok (.putfield 60, 3) := by decide +kernel
theorem dX8_init_150 : decode cX8_init 150 = .ok (.aload_n 0, 1) := by decide +kernel
theorem dX8_init_151 : decode cX8_init 151 = .ok (.bipush 6, 2) := by decide +kernel
theorem dX8_init_153 : decode cX8_init 153 = .ok (.newarray .char, 2) := by decide +kernel
theorem dX8_init_155 : decode cX8_init 155 = .ok (.putfield 63, 3) := by decide +kernel
theorem dX8_init_158 : decode cX8_init 158 = .ok (.aload_n 0, 1) := by decide +kernel
theorem dX8_init_159 : decode cX8_init 159 = .ok (.bipush 6, 2) := by decide +kernel
theorem dX8_init_161 : decode cX8_init 161 = .ok (.newarray .int, 2) := by decide +kernel
theorem dX8_init_163 : decode cX8_init 163 = .ok (.putfield 66, 3) := by decide +kernel
theorem dX8_init_166 : decode cX8_init 166 = .ok (.aload_n 0, 1) := by decide +kernel
theorem dX8_init_167 : decode cX8_init 167 = .ok (.bipush 6, 2) := by decide +kernel
theorem dX8_init_169 : decode cX8_init 169 = .ok (.newarray .int, 2) := by decide +kernel
theorem dX8_init_171 : decode cX8_init 171 = .ok (.putfield 69, 3) := by decide +kernel
theorem dX8_init_174 : decode cX8_init 174 = .ok (.aload_n 0, 1) := by decide +kernel
theorem dX8_init_175 : decode cX8_init 175 = .ok (.sipush 1300, 3) := by decide +kernel
theorem dX8_init_178 : decode cX8_init 178 = .ok (.newarray .int, 2) := by decide +kernel
theorem dX8_init_180 : decode cX8_init 180 = .ok (.putfield 72, 3) := by decide +kernel
theorem dX8_init_183 : decode cX8_init 183 = .ok (.aload_n 0, 1) := by decide +kernel
theorem dX8_init_184 : decode cX8_init 184 = .ok (.sipush 1300, 3) := by decide +kernel
theorem dX8_init_187 : decode cX8_init 187 = .ok (.newarray .int, 2) := by decide +kernel
theorem dX8_init_189 : decode cX8_init 189 = .ok (.putfield 75, 3) := by decide +kernel
theorem dX8_init_192 : decode cX8_init 192 = .ok (.aload_n 0, 1) := by decide +kernel
theorem dX8_init_193 : decode cX8_init 193 = .ok (.sipush 1300, 3) := by decide +kernel
theorem dX8_init_196 : decode cX8_init 196 = .ok (.newarray .boolean, 2) := by decide +kernel
theorem dX8_init_198 : decode cX8_init 198 = .ok (.putfield 78, 3) := by decide +kernel
theorem dX8_init_201 : decode cX8_init 201 = .ok (.aload_n 0, 1) := by decide +kernel
theorem dX8_init_202 : decode cX8_init 202 = .ok (.sipush 5200, 3) := by decide +kernel
theorem dX8_init_205 : decode cX8_init 205 = .ok (.newarray .long, 2) := by decide +kernel
theorem dX8_init_207 : decode cX8_init 207 = .ok (.putfield 81, 3) := by decide +kernel
theorem dX8_init_210 : decode cX8_init 210 = .ok (.aload_n 0, 1) := by decide +kernel
theorem dX8_init_211 : decode cX8_init 211 = .ok (.iconst 4, 1) := by decide +kernel
theorem dX8_init_212 : decode cX8_init 212 = .ok (.newarray .int, 2) := by decide +kernel
theorem dX8_init_214 : decode cX8_init 214 = .ok (.dup, 1) := by decide +kernel
theorem dX8_init_215 : decode cX8_init 215 = .ok (.iconst 0, 1) := by decide +kernel
theorem dX8_init_216 : decode cX8_init 216 = .ok (.sipush 9999, 3) := by decide +kernel
theorem dX8_init_219 : decode cX8_init 219 = .ok (.iastore, 1) := by decide +kernel
theorem dX8_init_220 : decode cX8_init 220 = .ok (.dup, 1) := by decide +kernel
theorem dX8_init_221 : decode cX8_init 221 = .ok (.iconst 1, 1) := by decide +kernel
