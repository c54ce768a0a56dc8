theorem dX7_addAlert_90 : decode cX7_addAlert 90 = .ok (.ldc 193, 2) := by decide +kernel
theorem dX7_addAlert_92 : decode cX7_addAlert 92 = .ok (.invokespecial 61, 3) := by decide +kernel
theorem dX7_addAlert_95 : decode cX7_addAlert 95 = .ok (.athrow, 1) := by decide +kernel
theorem dX7_addAlert_96 : decode cX7_addAlert 96 = .ok (.aload_n 0, 1) := by decide +kernel
theorem dX7_addAlert_97 : decode cX7_addAlert 97 = .ok (.getfield 19, 3) := by decide +kernel
theorem dX7_addAlert_100 : decode cX7_addAlert 100 = .ok (.invokevirtual 53, 3) := by decide +kernel
theorem dX7_addAlert_103 : decode cX7_addAlert 103 = .ok (.istore 8, 2) := by decide +kernel
theorem dX7_addAlert_105 : decode cX7_addAlert 105 = .ok (.new 195, 3) := by decide +kernel
theorem dX7_addAlert_108 : decode cX7_addAlert 108 = .ok (.dup, 1) := by decide +kernel
theorem dX7_addAlert_109 : decode cX7_addAlert 109 = .ok (.iload 8, 2) := by decide +kernel
theorem dX7_addAlert_111 : decode cX7_addAlert 111 = .ok (.new 164, 3) := by decide +kernel
theorem dX7_addAlert_114 : decode cX7_addAlert 114 = .ok (.dup, 1) := by decide +kernel
theorem dX7_addAlert_115 : decode cX7_addAlert 115 = .ok (.iload_n 1, 1) := by decide +kernel
theorem dX7_addAlert_116 : decode cX7_addAlert 116 = .ok (.iload_n 2, 1) := by decide +kernel
theorem dX7_addAlert_117 : decode cX7_addAlert 117 = .ok (.iload_n 3, 1) := by decide +kernel
theorem dX7_addAlert_118 : decode cX7_addAlert 118 = .ok (.iload 4, 2) := by decide +kernel
theorem dX7_addAlert_120 : decode cX7_addAlert 120 = .ok (.invokespecial 166, 3) := by decide +kernel
theorem dX7_addAlert_123 : decode cX7_addAlert 123 = .ok (.iload 5, 2) := by decide +kernel
theorem dX7_addAlert_125 : decode cX7_addAlert 125 = .ok (.iload 6, 2) := by decide +kernel
theorem dX7_addAlert_127 : decode cX7_addAlert 127 = .ok (.iload 7, 2) := by decide +kernel
theorem dX7_addAlert_129 : decode cX7_addAlert 129 = .ok (.invokespecial 197, 3) := by decide +kernel
theorem dX7_addAlert_132 : decode cX7_addAlert 132 = .ok (.astore 9, 2) := by decide +kernel
theorem dX7_addAlert_134 : decode cX7_addAlert 134 = .ok (.aload_n 0, 1) := by decide +kernel
theorem dX7_addAlert_135 : decode cX7_addAlert 135 = .ok (.getfield 19, 3) := by decide +kernel
theorem dX7_addAlert_138 : decode cX7_addAlert 138 = .ok (.aload 9, 2) := by decide +kernel
theorem dX7_addAlert_140 : decode cX7_addAlert 140 = .ok (.invokevirtual 83, 3) := by decide +kernel
theorem dX7_addAlert_143 : decode cX7_addAlert 143 = .ok (.pop, 1) := by decide +kernel
theorem dX7_addAlert_144 : decode cX7_addAlert 144 = .ok (.iconst 0, 1) := by decide +kernel
theorem dX7_addAlert_145 : decode cX7_addAlert 145 = .ok (.istore 10, 2) := by decide +kernel
theorem dX7_addAlert_147 : decode cX7_addAlert 147 = .ok (.iload 10, 2) := by decide +kernel
theorem dX7_addAlert_149 : decode cX7_addAlert 149 = .ok (.aload_n 0, 1) := by decide +kernel
theorem dX7_addAlert_150 : decode cX7_addAlert 150 = .ok (.getfield 10, 3) := by decide +kernel
theorem dX7_addAlert_153 : decode cX7_addAlert 153 = .ok (.invokevirtual 53, 3) := by decide +kernel
theorem dX7_addAlert_156 : decode cX7_addAlert 156 = .ok (.if_icmp .ge 27, 3) := by decide +kernel
theorem dX7_addAlert_159 : decode cX7_addAlert 159 = .ok (.aload_n 0, 1) := by decide +kernel
theorem dX7_addAlert_160 : decode cX7_addAlert 160 = .ok (.aload 9, 2) := by decide +kernel
theorem dX7_addAlert_162 : decode cX7_addAlert 162 = .ok (.aload_n 0, 1) := by decide +kernel
theorem dX7_addAlert_163 : decode cX7_addAlert 163 = .ok (.getfield 10, 3) := by decide +kernel
theorem dX7_addAlert_166 : decode cX7_addAlert 166 = .ok (.iload 10, 2) := by decide +kernel
theorem dX7_addAlert_168 : decode cX7_addAlert 168 = .ok (.invokevirtual 120, 3) := by decide +kernel
theorem dX7_addAlert_171 : decode cX7_addAlert 171 = .ok (.checkcast 74, 3) := by decide +kernel
theorem dX7_addAlert_174 : decode cX7_addAlert 174 = .ok (.invokevirtual 200, 3) := by decide +kernel
theorem dX7_addAlert_177 : decode cX7_addAlert 177 = .ok (.iinc 10 1, 3) := by decide +kernel
theorem dX7_addAlert_180 : decode cX7_addAlert 180 = .ok (.goto (-33), 3) := by decide +kernel
theorem dX7_addAlert_183 : decode cX7_addAlert 183 = .ok (.aload_n 0, 1) := by decide +kernel
theorem dX7_addAlert_184 : decode cX7_addAlert 184 = .ok (.aload 9, 2) := by decide +kernel
theorem dX7_addAlert_186 : decode cX7_addAlert 186 = .ok (.invokevirtual 204, 3) := by decide +kernel
theorem dX7_addAlert_189 : decode cX7_addAlert 189 = .ok (.iload 8, 2) := by decide +kernel
theorem dX7_addAlert_191 : decode cX7_addAlert 191 = .ok (.ireturn, 1) := by decide +kernel
set_option maxRecDepth 20000 in
theorem ggX7_alertState_X7_alertNumbered : GoodIn wsX7_alertState wsX7_alertNumbered := goodIn_ca (goodIn_r _ [5, 6, 7, 8, 9, 10, 11, 12, 13, 14, 15, 16, 17, 18, 19, 20, 21, 22, 23, 24, 25, 26, 27, 28, 29, 30, 31, 32, 42, 43, 44, 45, 46, 47, 48, 49, 50, 51] (by decide +kernel) (by decide +kernel)) (goodIn_sub (fun _ h => List.mem_cons_of_mem _ (List.mem_append_right _ h)) (by decide +kernel))
set_option maxRecDepth 20000 in
theorem gX7_alertState_X7_alertNumbered : GoodIn wsX7_alertState (wsV RX7 208 RX7 yX7_alertNumbered wsX7_alertNumbered) := goodIn_app (goodIn_of _ (by decide +kernel)) ggX7_alertState_X7_alertNumbered
theorem dX7_alertState_0 : decode cX7_alertState 0 = .ok (.aload_n 0, 1) := by decide +kernel
theorem dX7_alertState_1 : decode cX7_alertState 1 = .ok (.iload_n 1, 1) := by decide +kernel
theorem dX7_alertState_2 : decode cX7_alertState 2 = .ok (.invokevirtual 208, 3) := by decide +kernel
theorem dX7_alertState_5 : decode cX7_alertState 5 = .ok (.getfield 212, 3) := by decide +kernel
theorem dX7_alertState_8 : decode cX7_alertState 8 = .ok (.ireturn, 1) := by decide +kernel
set_option maxRecDepth 20000 in
theorem ggX7_counted_X7_alertNumbered : GoodIn wsX7_counted wsX7_alertNumbered := goodIn_ca (goodIn_r _ [5, 6, 7, 8, 9, 10, 11, 12, 13, 14, 15, 16, 17, 18, 19, 20, 21, 22, 23, 24, 25, 26, 27, 28, 29, 30, 31, 32, 42, 43, 44, 45, 46, 47, 48, 49, 50, 51] (by decide +kernel) (by decide +kernel)) (goodIn_sub (fun _ h => List.mem_cons_of_mem _ (List.mem_append_right _ h)) (by decide +kernel))
set_option maxRecDepth 20000 in
theorem gX7_counted_X7_alertNumbered : GoodIn wsX7_counted (wsV RX7 208 RX7 yX7_alertNumbered wsX7_alertNumbered) := goodIn_app (goodIn_of _ (by decide +kernel)) ggX7_counted_X7_alertNumbered
theorem dX7_counted_0 : decode cX7_counted 0 = .ok (.aload_n 0, 1) := by decide +kernel
theorem dX7_counted_1 : decode cX7_counted 1 = .ok (.iload_n 1, 1) := by decide +kernel
theorem dX7_counted_2 : decode cX7_counted 2 = .ok (.invokevirtual 208, 3) := by decide +kernel
theorem dX7_counted_5 : decode cX7_counted 5 = .ok (.getfield 213, 3) := by decide +kernel
theorem dX7_counted_8 : decode cX7_counted 8 = .ok (.ireturn, 1) := by decide +kernel
set_option maxRecDepth 20000 in
theorem ggX7_countedAnew_X7_alertNumbered : GoodIn wsX7_countedAnew wsX7_alertNumbered := goodIn_ca (goodIn_r _ [5, 6, 7, 8, 9, 10, 11, 12, 13, 14, 15, 16, 17, 18, 19, 20, 21, 22, 23, 24, 25, 26, 27, 28, 29, 30, 31, 32, 66, 67, 68, 69, 70, 71, 72, 73, 74, 75] (by decide +kernel) (by decide +kernel)) (goodIn_sub (fun _ h => List.mem_cons_of_mem _ (List.mem_append_right _ h)) (by decide +kernel))
set_option maxRecDepth 20000 in
theorem gX7_countedAnew_X7_alertNumbered : GoodIn wsX7_countedAnew (wsV RX7 208 RX7 yX7_alertNumbered wsX7_alertNumbered) := goodIn_app (goodIn_of _ (by decide +kernel)) ggX7_countedAnew_X7_alertNumbered
set_option maxRecDepth 20000 in
theorem ggX7_countedAnew_X7_countFromAllLines : GoodIn wsX7_countedAnew wsX7_countFromAllLines := goodIn_r _ [36, 37, 38, 39, 10, 11, 12, 13, 14, 15, 16, 17, 18, 19, 20, 21, 22, 23, 24, 25, 26, 27, 28, 29, 30, 31, 32, 40, 41, 42, 43, 44, 45, 46, 47, 48, 49, 50, 51, 52, 53, 54, 55, 56, 57, 58, 59, 60, 61, 62, 63, 64, 65, 66, 67, 68, 69, 70, 71, 72, 73, 74, 75, 76, 77, 78, 79, 80, 81, 82, 83, 84, 85, 86, 87, 88, 89, 90, 91, 92, 93, 94, 95, 96, 97, 98, 99] (by decide +kernel) (by decide +kernel)
set_option maxRecDepth 20000 in
theorem gX7_countedAnew_X7_countFromAllLines : GoodIn wsX7_countedAnew (wsV RX7 216 RX7 yX7_countFromAllLines wsX7_countFromAllLines) := goodIn_app (goodIn_of _ (by decide +kernel)) ggX7_countedAnew_X7_countFromAllLines
theorem dX7_countedAnew_0 : decode cX7_countedAnew 0 = .ok (.aload_n 0, 1) := by decide +kernel
theorem dX7_countedAnew_1 : decode cX7_countedAnew 1 = .ok (.aload_n 0, 1) := by decide +kernel
theorem dX7_countedAnew_2 : decode cX7_countedAnew 2 = .ok (.iload_n 1, 1) := by decide +kernel
theorem dX7_countedAnew_3 : decode cX7_countedAnew 3 = .ok (.invokevirtual 208, 3) := by decide +kernel
theorem dX7_countedAnew_6 : decode cX7_countedAnew 6 = .ok (.invokevirtual 216, 3) := by decide +kernel
theorem dX7_countedAnew_9 : decode cX7_countedAnew 9 = .ok (.ireturn, 1) := by decide +kernel
set_option maxRecDepth 20000 in
theorem ggX7_heldFor_X7_alertNumbered : GoodIn wsX7_heldFor wsX7_alertNumbered := goodIn_ca (goodIn_r _ [5, 6, 7, 8, 9, 10, 11, 12, 13, 14, 15, 16, 17, 18, 19, 20, 21, 22, 23, 24, 25, 26, 27, 28, 29, 30, 31, 32, 42, 43, 44, 45, 46, 47, 48, 49, 50, 51] (by decide +kernel) (by decide +kernel)) (goodIn_sub (fun _ h => List.mem_cons_of_mem _ (List.mem_append_right _ h)) (by decide +kernel))
set_option maxRecDepth 20000 in
theorem gX7_heldFor_X7_alertNumbered : GoodIn wsX7_heldFor (wsV RX7 208 RX7 yX7_alertNumbered wsX7_alertNumbered) := goodIn_app (goodIn_of _ (by decide +kernel)) ggX7_heldFor_X7_alertNumbered
theorem dX7_heldFor_0 : decode cX7_heldFor 0 = .ok (.aload_n 0, 1) := by decide +kernel
theorem dX7_heldFor_1 : decode cX7_heldFor 1 = .ok (.iload_n 1, 1) := by decide +kernel
theorem dX7_heldFor_2 : decode cX7_heldFor 2 = .ok (.invokevirtual 208, 3) := by decide +kernel
theorem dX7_heldFor_5 : decode cX7_heldFor 5 = .ok (.getfield 220, 3) := by decide +kernel
theorem dX7_heldFor_8 : decode cX7_heldFor 8 = .ok (.ireturn, 1) := by decide +kernel
set_option maxRecDepth 20000 in
theorem ggX7_firings_Jx4a65c_size_8abf5 : GoodIn wsX7_firings wsJx4a65c_size_8abf5 := goodIn_r _ [6, 7, 15, 16, 17] (by decide +kernel) (by decide +kernel)
set_option maxRecDepth 20000 in
theorem gX7_firings_Jx4a65c_size_8abf5 : GoodIn wsX7_firings (wsV RX7 53 RJx4a65c yJx4a65c_size_8abf5 wsJx4a65c_size_8abf5) := goodIn_app (goodIn_of _ (by decide +kernel)) ggX7_firings_Jx4a65c_size_8abf5
theorem dX7_firings_0 : decode cX7_firings 0 = .ok (.aload_n 0, 1) := by decide +kernel
theorem dX7_firings_1 : decode cX7_firings 1 = .ok (.getfield 22, 3) := by decide +kernel
theorem dX7_firings_4 : decode cX7_firings 4 = .ok (.invokevirtual 53, 3) := by decide +kernel
theorem dX7_firings_7 : decode cX7_firings 7 = .ok (.ireturn, 1) := by decide +kernel
set_option maxRecDepth 20000 in
theorem ggX7_alertOf_X7_firingNumbered : GoodIn wsX7_alertOf wsX7_firingNumbered := goodIn_ca (goodIn_r _ [5, 6, 7, 8, 9, 10, 11, 12, 13, 14, 15, 16, 17, 18, 19, 20, 21, 22, 23, 24, 25, 26, 27, 28, 29, 30, 31, 32, 47, 48, 49, 50, 51, 52, 53, 54, 55, 56] (by decide +kernel) (by decide +kernel)) (goodIn_sub (fun _ h => List.mem_cons_of_mem _ (List.mem_append_right _ h)) (by decide +kernel))
set_option maxRecDepth 20000 in
theorem gX7_alertOf_X7_firingNumbered : GoodIn wsX7_alertOf (wsV RX7 223 RX7 yX7_firingNumbered wsX7_firingNumbered) := goodIn_app (goodIn_of _ (by decide +kernel)) ggX7_alertOf_X7_firingNumbered
theorem dX7_alertOf_0 : decode cX7_alertOf 0 = .ok (.aload_n 0, 1) := by decide +kernel
theorem dX7_alertOf_1 : decode cX7_alertOf 1 = .ok (.iload_n 1, 1) := by decide +kernel
theorem dX7_alertOf_2 : decode cX7_alertOf 2 = .ok (.invokevirtual 223, 3) := by decide +kernel
theorem dX7_alertOf_5 : decode cX7_alertOf 5 = .ok (.getfield 227, 3) := by decide +kernel
theorem dX7_alertOf_8 : decode cX7_alertOf 8 = .ok (.getfield 233, 3) := by decide +kernel
theorem dX7_alertOf_11 : decode cX7_alertOf 11 = .ok (.ireturn, 1) := by decide +kernel
set_option maxRecDepth 20000 in
theorem ggX7_firedAt_X7_firingNumbered : GoodIn wsX7_firedAt wsX7_firingNumbered := goodIn_ca (goodIn_r _ [5, 6, 7, 8, 9, 10, 11, 12, 13, 14, 15, 16, 17, 18, 19, 20, 21, 22, 23, 24, 25, 26, 27, 28, 29, 30, 31, 32, 38, 39, 40, 41, 42, 43, 44, 45, 46, 47] (by decide +kernel) (by decide +kernel)) (goodIn_sub (fun _ h => List.mem_cons_of_mem _ (List.mem_append_right _ h)) (by decide +kernel))
set_option maxRecDepth 20000 in
theorem gX7_firedAt_X7_firingNumbered : GoodIn wsX7_firedAt (wsV RX7 223 RX7 yX7_firingNumbered wsX7_firingNumbered) := goodIn_app (goodIn_of _ (by decide +kernel)) ggX7_firedAt_X7_firingNumbered
theorem dX7_firedAt_0 : decode cX7_firedAt 0 = .ok (.aload_n 0, 1) := by decide +kernel
theorem dX7_firedAt_1 : decode cX7_firedAt 1 = .ok (.iload_n 1, 1) := by decide +kernel
theorem dX7_firedAt_2 : decode cX7_firedAt 2 = .ok (.invokevirtual 223, 3) := by decide +kernel
theorem dX7_firedAt_5 : decode cX7_firedAt 5 = .ok (.getfield 234, 3) := by decide +kernel
theorem dX7_firedAt_8 : decode cX7_firedAt 8 = .ok (.ireturn, 1) := by decide +kernel
set_option maxRecDepth 20000 in
theorem ggX7_ground_X7_firingNumbered : GoodIn wsX7_ground wsX7_firingNumbered := goodIn_ca (goodIn_r _ [5, 6, 7, 8, 9, 10, 11, 12, 13, 14, 15, 16, 17, 18, 19, 20, 21, 22, 23, 24, 25, 26, 27, 28, 29, 30, 31, 32, 38, 39, 40, 41, 42, 43, 44, 45, 46, 47] (by decide +kernel) (by decide +kernel)) (goodIn_sub (fun _ h => List.mem_cons_of_mem _ (List.mem_append_right _ h)) (by decide +kernel))
set_option maxRecDepth 20000 in
theorem gX7_ground_X7_firingNumbered : GoodIn wsX7_ground (wsV RX7 223 RX7 yX7_firingNumbered wsX7_firingNumbered) := goodIn_app (goodIn_of _ (by decide +kernel)) ggX7_ground_X7_firingNumbered
theorem dX7_ground_0 : decode cX7_ground 0 = .ok (.aload_n 0, 1) := by decide +kernel
theorem dX7_ground_1 : decode cX7_ground 1 = .ok (.iload_n 1, 1) := by decide +kernel
theorem dX7_ground_2 : decode cX7_ground 2 = .ok (.invokevirtual 223, 3) := by decide +kernel
theorem dX7_ground_5 : decode cX7_ground 5 = .ok (.getfield 237, 3) := by decide +kernel
theorem dX7_ground_8 : decode cX7_ground 8 = .ok (.ireturn, 1) := by decide +kernel
set_option maxRecDepth 20000 in
theorem ggX7_standsOn_X7_firingNumbered : GoodIn wsX7_standsOn wsX7_firingNumbered := goodIn_ca (goodIn_r _ [5, 6, 7, 8, 9, 10, 11, 12, 13, 14, 15, 16, 17, 18, 19, 20, 21, 22, 23, 24, 25, 26, 27, 28, 29, 30, 31, 32, 44, 45, 46, 47, 48, 49, 50, 51, 52, 53] (by decide +kernel) (by decide +kernel)) (goodIn_sub (fun _ h => List.mem_cons_of_mem _ (List.mem_append_left _ (List.mem_append_right _ h))) (by decide +kernel))
set_option maxRecDepth 20000 in
theorem gX7_standsOn_X7_firingNumbered : GoodIn wsX7_standsOn (wsV RX7 223 RX7 yX7_firingNumbered wsX7_firingNumbered) := goodIn_app (goodIn_of _ (by decide +kernel)) ggX7_standsOn_X7_firingNumbered
set_option maxRecDepth 20000 in
theorem ggX7_standsOn_X7_lineNumbered : GoodIn wsX7_standsOn wsX7_lineNumbered := goodIn_ca (goodIn_r _ [36, 6, 7, 37, 38, 10, 11, 12, 13, 14, 15, 16, 17, 18, 19, 20, 21, 22, 23, 24, 25, 26, 27, 28, 29, 30, 31, 32, 44, 45, 46, 47, 48, 49, 50, 51, 52, 53] (by decide +kernel) (by decide +kernel)) (goodIn_sub (fun _ h => List.mem_cons_of_mem _ (List.mem_append_left _ (List.mem_append_right _ h))) (by decide +kernel))
set_option maxRecDepth 20000 in
theorem gX7_standsOn_X7_lineNumbered : GoodIn wsX7_standsOn (wsV RX7 99 RX7 yX7_lineNumbered wsX7_lineNumbered) := goodIn_app (goodIn_of _ (by decide +kernel)) ggX7_standsOn_X7_lineNumbered
set_option maxRecDepth 20000 in
theorem ggX7_standsOn_X2_hasLine : GoodIn wsX7_standsOn wsX2_hasLine := goodIn_ca (goodIn_r _ [42, 43, 54, 55, 56, 57, 58] (by decide +kernel) (by decide +kernel)) (goodIn_sub (fun _ h => List.mem_cons_of_mem _ (List.mem_append_right _ h)) (by decide +kernel))
set_option maxRecDepth 20000 in
theorem gX7_standsOn_X2_hasLine_n239 : GoodIn wsX7_standsOn (wsX2_hasLine) := ggX7_standsOn_X2_hasLine
theorem dX7_standsOn_0 : decode cX7_standsOn 0 = .ok (.aload_n 0, 1) := by decide +kernel
theorem dX7_standsOn_1 : decode cX7_standsOn 1 = .ok (.iload_n 1, 1) := by decide +kernel
theorem dX7_standsOn_2 : decode cX7_standsOn 2 = .ok (.invokevirtual 223, 3) := by decide +kernel
theorem dX7_standsOn_5 : decode cX7_standsOn 5 = .ok (.astore_n 3, 1) := by decide +kernel
theorem dX7_standsOn_6 : decode cX7_standsOn 6 = .ok (.aload_n 0, 1) := by decide +kernel
theorem dX7_standsOn_7 : decode cX7_standsOn 7 = .ok (.iload_n 2, 1) := by decide +kernel
theorem dX7_standsOn_8 : decode cX7_standsOn 8 = .ok (.invokevirtual 99, 3) := by decide +kernel
theorem dX7_standsOn_11 : decode cX7_standsOn 11 = .ok (.pop, 1) := by decide +kernel
theorem dX7_standsOn_12 : decode cX7_standsOn 12 = .ok (.aload_n 3, 1) := by decide +kernel
theorem dX7_standsOn_13 : decode cX7_standsOn 13 = .ok (.iload_n 2, 1) := by decide +kernel
theorem dX7_standsOn_14 : decode cX7_standsOn 14 = .ok (.invokevirtual 239, 3) := by decide +kernel
theorem dX7_standsOn_17 : decode cX7_standsOn 17 = .ok (.ireturn, 1) := by decide +kernel
set_option maxRecDepth 20000 in
theorem ggX7_release_X7_firingNumbered : GoodIn wsX7_release wsX7_firingNumbered := goodIn_ca (goodIn_r _ [9, 10, 11, 12, 13, 14, 15, 16, 17, 18, 19, 20, 21, 22, 23, 24, 25, 26, 27, 28, 29, 30, 31, 32, 33, 34, 35, 36, 83, 84, 85, 86, 87, 88, 89, 90, 91, 92] (by decide +kernel) (by decide +kernel)) (goodIn_sub (fun _ h => List.mem_cons_of_mem _ (List.mem_append_left _ (List.mem_append_right _ h))) (by decide +kernel))
set_option maxRecDepth 20000 in
theorem gX7_release_X7_firingNumbered : GoodIn wsX7_release (wsV RX7 223 RX7 yX7_firingNumbered wsX7_firingNumbered) := goodIn_app (goodIn_of _ (by decide +kernel)) ggX7_release_X7_firingNumbered
set_option maxRecDepth 20000 in
theorem ggX7_release_X7_giveUpLines : GoodIn wsX7_release wsX7_giveUpLines := goodIn_ca (goodIn_r _ [40, 41, 42, 14, 15, 16, 17, 18, 19, 43, 44, 45, 46, 47, 20, 21, 22, 23, 24, 25, 26, 27, 28, 29, 30, 31, 32, 33, 34, 35, 36, 48, 49, 50, 51, 83, 84, 85, 86, 87, 88, 89, 93, 94, 95, 96, 97, 98, 99, 100, 90, 91, 92, 69, 70, 71, 72, 73] (by decide +kernel) (by decide +kernel)) (goodIn_sub (fun _ h => List.mem_cons_of_mem _ (List.mem_append_right _ h)) (by decide +kernel))
set_option maxRecDepth 20000 in
theorem gX7_release_X7_giveUpLines : GoodIn wsX7_release (wsV RX7 256 RX7 yX7_giveUpLines wsX7_giveUpLines) := goodIn_app (goodIn_of _ (by decide +kernel)) ggX7_release_X7_giveUpLines
set_option maxRecDepth 20000 in
theorem ggX7_release_X7_lookAtAllSources : GoodIn wsX7_release wsX7_lookAtAllSources := goodIn_ca (goodIn_r _ [55, 56, 57, 58, 8, 59, 60, 61, 62, 63, 64, 41, 42, 14, 15, 16, 17, 18, 19, 20, 21, 22, 23, 24, 25, 26, 27, 28, 29, 30, 31, 32, 33, 34, 35, 36, 65, 66, 67, 68, 83, 84, 85, 86, 87, 88, 89, 93, 94, 95, 96, 97, 98, 99, 100, 90, 91, 92] (by decide +kernel) (by decide +kernel)) (goodIn_sub (fun _ h => List.mem_cons_of_mem _ (List.mem_append_right _ h)) (by decide +kernel))
set_option maxRecDepth 20000 in
theorem gX7_release_X7_lookAtAllSources : GoodIn wsX7_release (wsV RX7 260 RX7 yX7_lookAtAllSources wsX7_lookAtAllSources) := goodIn_app (goodIn_of _ (by decide +kernel)) ggX7_release_X7_lookAtAllSources
theorem dX7_release_0 : decode cX7_release 0 = .ok (.aload_n 0, 1) := by decide +kernel
theorem dX7_release_1 : decode cX7_release 1 = .ok (.iload_n 1, 1) := by decide +kernel
theorem dX7_release_2 : decode cX7_release 2 = .ok (.invokevirtual 223, 3) := by decide +kernel
theorem dX7_release_5 : decode cX7_release 5 = .ok (.astore_n 2, 1) := by decide +kernel
theorem dX7_release_6 : decode cX7_release 6 = .ok (.aload_n 2, 1) := by decide +kernel
theorem dX7_release_7 : decode cX7_release 7 = .ok (.getfield 242, 3) := by decide +kernel
theorem dX7_release_10 : decode cX7_release 10 = .ok (.ifCond .eq 13, 3) := by decide +kernel
theorem dX7_release_13 : decode cX7_release 13 = .ok (.new 57, 3) := by decide +kernel
theorem dX7_release_16 : decode cX7_release 16 = .ok (.dup, 1) := by decide +kernel
theorem dX7_release_17 : decode cX7_release 17 = .ok (.ldc 245, 2) := by decide +kernel
theorem dX7_release_19 : decode cX7_release 19 = .ok (.invokespecial 61, 3) := by decide +kernel
theorem dX7_release_22 : decode cX7_release 22 = .ok (.athrow, 1) := by decide +kernel
theorem dX7_release_23 : decode cX7_release 23 = .ok (.aload_n 2, 1) := by decide +kernel
theorem dX7_release_24 : decode cX7_release 24 = .ok (.getfield 227, 3) := by decide +kernel
theorem dX7_release_27 : decode cX7_release 27 = .ok (.getfield 212, 3) := by decide +kernel
theorem dX7_release_30 : decode cX7_release 30 = .ok (.bipush 113, 2) := by decide +kernel
theorem dX7_release_32 : decode cX7_release 32 = .ok (.if_icmp .eq 24, 3) := by decide +kernel
theorem dX7_release_35 : decode cX7_release 35 = .ok (.aload_n 2, 1) := by decide +kernel
theorem dX7_release_36 : decode cX7_release 36 = .ok (.getfield 227, 3) := by decide +kernel
theorem dX7_release_39 : decode cX7_release 39 = .ok (.getfield 247, 3) := by decide +kernel
theorem dX7_release_42 : decode cX7_release 42 = .ok (.aload_n 2, 1) := by decide +kernel
theorem dX7_release_43 : decode cX7_release 43 = .ok (.if_acmp .ne 13, 3) := by decide +kernel
theorem dX7_release_46 : decode cX7_release 46 = .ok (.new 251, 3) := by decide +kernel
theorem dX7_release_49 : decode cX7_release 49 = .ok (.dup, 1) := by decide +kernel
theorem dX7_release_50 : decode cX7_release 50 = .ok (.ldc 253, 2) := by decide +kernel
theorem dX7_release_52 : decode cX7_release 52 = .ok (.invokespecial 255, 3) := by decide +kernel
theorem dX7_release_55 : decode cX7_release 55 = .ok (.athrow, 1) := by decide +kernel
theorem dX7_release_56 : decode cX7_release 56 = .ok (.aload_n 2, 1) := by decide +kernel
theorem dX7_release_57 : decode cX7_release 57 = .ok (.iconst 1, 1) := by decide +kernel
theorem dX7_release_58 : decode cX7_release 58 = .ok (.putfield 242, 3) := by decide +kernel
theorem dX7_release_61 : decode cX7_release 61 = .ok (.aload_n 0, 1) := by decide +kernel
theorem dX7_release_62 : decode cX7_release 62 = .ok (.aload_n 2, 1) := by decide +kernel
theorem dX7_release_63 : decode cX7_release 63 = .ok (.invokevirtual 256, 3) := by decide +kernel
theorem dX7_release_66 : decode cX7_release 66 = .ok (.aload_n 0, 1) := by decide +kernel
theorem dX7_release_67 : decode cX7_release 67 = .ok (.invokevirtual 260, 3) := by decide +kernel
theorem dX7_release_70 : decode cX7_release 70 = .ok (.ireturn, 1) := by decide +kernel
set_option maxRecDepth 20000 in
theorem ggX7_isGuarded_X7_lineNumbered : GoodIn wsX7_isGuarded wsX7_lineNumbered := goodIn_ca (goodIn_r _ [5, 6, 7, 8, 9, 10, 11, 12, 13, 14, 15, 16, 17, 18, 19, 20, 21, 22, 23, 24, 25, 26, 27, 28, 29, 30, 31, 32, 41, 42, 43, 44, 45, 46, 47, 48, 49, 50] (by decide +kernel) (by decide +kernel)) (goodIn_sub (fun _ h => List.mem_cons_of_mem _ (List.mem_append_right _ h)) (by decide +kernel))
set_option maxRecDepth 20000 in
theorem gX7_isGuarded_X7_lineNumbered : GoodIn wsX7_isGuarded (wsV RX7 99 RX7 yX7_lineNumbered wsX7_lineNumbered) := goodIn_app (goodIn_of _ (by decide +kernel)) ggX7_isGuarded_X7_lineNumbered
theorem dX7_isGuarded_0 : decode cX7_isGuarded 0 = .ok (.aload_n 0, 1) := by decide +kernel
theorem dX7_isGuarded_1 : decode cX7_isGuarded 1 = .ok (.iload_n 1, 1) := by decide +kernel
theorem dX7_isGuarded_2 : decode cX7_isGuarded 2 = .ok (.invokevirtual 99, 3) := by decide +kernel
theorem dX7_isGuarded_5 : decode cX7_isGuarded 5 = .ok (.getfield 263, 3) := by decide +kernel
theorem dX7_isGuarded_8 : decode cX7_isGuarded 8 = .ok (.ifCond .le 7, 3) := by decide +kernel
theorem dX7_isGuarded_11 : decode cX7_isGuarded 11 = .ok (.iconst 1, 1) := by decide +kernel
theorem dX7_isGuarded_12 : decode cX7_isGuarded 12 = .ok (.goto 4, 3) := by decide +kernel
theorem dX7_isGuarded_15 : decode cX7_isGuarded 15 = .ok (.iconst 0, 1) := by decide +kernel
theorem dX7_isGuarded_16 : decode cX7_isGuarded 16 = .ok (.ireturn, 1) := by decide +kernel
set_option maxRecDepth 20000 in
theorem ggX7_pass_X7_isWithin : GoodIn wsX7_pass wsX7_isWithin := goodIn_r _ [9] (by decide +kernel) (by decide +kernel)
set_option maxRecDepth 20000 in
theorem gX7_pass_X7_isWithin : GoodIn wsX7_pass (va_wsS RX7 42 yX7_isWithin wsX7_isWithin) := goodIn_app (goodIn_of _ (by decide +kernel)) ggX7_pass_X7_isWithin
set_option maxRecDepth 20000 in
theorem ggX7_pass_X7_passOneTick : GoodIn wsX7_pass wsX7_passOneTick := goodIn_ca (goodIn_r _ [13, 5, 14, 15, 16, 17, 18, 19, 20, 21, 22, 23, 24, 25, 26, 27, 28, 29, 30, 31, 32, 33, 34, 35, 36, 37, 38, 39, 40, 41, 8, 42, 43, 44, 45, 46, 47, 48, 49, 50, 51, 52, 53, 54, 55, 56, 57, 58, 59, 60, 61, 62, 63, 64, 65, 66, 67, 68, 69, 70, 71, 72, 73, 74, 75, 76, 77, 78, 79, 80, 81, 82, 83, 84, 85, 86, 87, 88, 89, 90, 91, 92, 93, 94, 95, 96, 97, 98, 99, 100, 101, 102, 103, 104, 105, 106, 107, 108, 109, 110, 111, 112, 113, 114, 115, 116, 117, 118, 119, 120, 121, 122, 123, 124, 125, 126, 127, 128, 129, 130, 131, 132, 133, 134, 135, 136, 137, 138, 139, 140, 141, 142, 143, 144, 145, 146, 147, 148, 149, 150, 151, 152, 153, 154, 155, 156, 157, 158, 159, 160, 161, 162, 163, 164, 165, 166, 167, 168, 169, 170, 171, 172, 173, 174, 175, 176, 177, 178, 179, 180, 181, 182, 183, 184, 185, 186, 187, 188, 189, 190, 191, 192, 193, 194, 195, 196, 197, 198, 199, 200, 201, 202, 203, 204, 205, 206, 207, 208, 209, 210, 211, 212, 213, 214, 215, 216, 217, 218, 219, 220, 221, 222, 223, 224, 225, 226, 227] (by decide +kernel) (by decide +kernel)) (goodIn_sub (fun _ h => List.mem_cons_of_mem _ (List.mem_append_right _ h)) (by decide +kernel))
set_option maxRecDepth 20000 in
theorem gX7_pass_X7_passOneTick : GoodIn wsX7_pass (wsV RX7 270 RX7 yX7_passOneTick wsX7_passOneTick) := goodIn_app (goodIn_of _ (by decide +kernel)) ggX7_pass_X7_passOneTick
theorem dX7_pass_0 : decode cX7_pass 0 = .ok (.iload_n 1, 1) := by decide +kernel
theorem dX7_pass_1 : decode cX7_pass 1 = .ok (.iconst 1, 1) := by decide +kernel
theorem dX7_pass_2 : decode cX7_pass 2 = .ok (.bipush 50, 2) := by decide +kernel
theorem dX7_pass_4 : decode cX7_pass 4 = .ok (.invokestatic 42, 3) := by decide +kernel
theorem dX7_pass_7 : decode cX7_pass 7 = .ok (.ifCond .ne 14, 3) := by decide +kernel
theorem dX7_pass_10 : decode cX7_pass 10 = .ok (.new 46, 3) := by decide +kernel
theorem dX7_pass_13 : decode cX7_pass 13 = .ok (.dup, 1) := by decide +kernel
theorem dX7_pass_14 : decode cX7_pass 14 = .ok (.ldc_w 266, 3) := by decide +kernel
theorem dX7_pass_17 : decode cX7_pass 17 = .ok (.invokespecial 50, 3) := by decide +kernel
theorem dX7_pass_20 : decode cX7_pass 20 = .ok (.athrow, 1) := by decide +kernel
theorem dX7_pass_21 : decode cX7_pass 21 = .ok (.aload_n 0, 1) := by decide +kernel
theorem dX7_pass_22 : decode cX7_pass 22 = .ok (.getfield 76, 3) := by decide +kernel
theorem dX7_pass_25 : decode cX7_pass 25 = .ok (.iload_n 1, 1) := by decide +kernel
theorem dX7_pass_26 : decode cX7_pass 26 = .ok (.iadd, 1) := by decide +kernel
theorem dX7_pass_27 : decode cX7_pass 27 = .ok (.sipush 5000, 3) := by decide +kernel
theorem dX7_pass_30 : decode cX7_pass 30 = .ok (.if_icmp .le 14, 3) := by decide +kernel
theorem dX7_pass_33 : decode cX7_pass 33 = .ok (.new 57, 3) := by decide +kernel
theorem dX7_pass_36 : decode cX7_pass 36 = .ok (.dup, 1) := by decide +kernel
theorem dX7_pass_37 : decode cX7_pass 37 = .ok (.ldc_w 268, 3) := by decide +kernel
theorem dX7_pass_40 : decode cX7_pass 40 = .ok (.invokespecial 61, 3) := by decide +kernel
theorem dX7_pass_43 : decode cX7_pass 43 = .ok (.athrow, 1) := by decide +kernel
theorem dX7_pass_44 : decode cX7_pass 44 = .ok (.iconst 0, 1) := by decide +kernel
theorem dX7_pass_45 : decode cX7_pass 45 = .ok (.istore_n 2, 1) := by decide +kernel
theorem dX7_pass_46 : decode cX7_pass 46 = .ok (.iconst 0, 1) := by decide +kernel
theorem dX7_pass_47 : decode cX7_pass 47 = .ok (.istore_n 3, 1) := by decide +kernel
theorem dX7_pass_48 : decode cX7_pass 48 = .ok (.iload_n 3, 1) := by decide +kernel
theorem dX7_pass_49 : decode cX7_pass 49 = .ok (.iload_n 1, 1) := by decide +kernel
theorem dX7_pass_50 : decode cX7_pass 50 = .ok (.if_icmp .ge 16, 3) := by decide +kernel
theorem dX7_pass_53 : decode cX7_pass 53 = .ok (.iload_n 2, 1) := by decide +kernel
theorem dX7_pass_54 : decode cX7_pass 54 = .ok (.aload_n 0, 1) := by decide +kernel
theorem dX7_pass_55 : decode cX7_pass 55 = .ok (.invokevirtual 270, 3) := by decide +kernel
theorem dX7_pass_58 : decode cX7_pass 58 = .ok (.iadd, 1) := by decide +kernel
theorem dX7_pass_59 : decode cX7_pass 59 = .ok (.istore_n 2, 1) := by decide +kernel
theorem dX7_pass_60 : decode cX7_pass 60 = .ok (.iinc 3 1, 3) := by decide +kernel
theorem dX7_pass_63 : decode cX7_pass 63 = .ok (.goto (-15), 3) := by decide +kernel
theorem dX7_pass_66 : decode cX7_pass 66 = .ok (.iload_n 2, 1) := by decide +kernel
theorem dX7_pass_67 : decode cX7_pass 67 = .ok (.ireturn, 1) := by decide +kernel
theorem dX7_tick_0 : decode cX7_tick 0 = .ok (.aload_n 0, 1) := by decide +kernel
theorem dX7_tick_1 : decode cX7_tick 1 = .ok (.getfield 76, 3) := by decide +kernel
theorem dX7_tick_4 : decode cX7_tick 4 = .ok (.ireturn, 1) := by decide +kernel
set_option maxRecDepth 20000 in
theorem ggX7_bytes_Jx4a65c_size_8abf5 : GoodIn wsX7_bytes wsJx4a65c_size_8abf5 := goodIn_r _ [7, 8, 41, 42, 43] (by decide +kernel) (by decide +kernel)
set_option maxRecDepth 20000 in
theorem gX7_bytes_Jx4a65c_size_8abf5 : GoodIn wsX7_bytes (wsV RX7 53 RJx4a65c yJx4a65c_size_8abf5 wsJx4a65c_size_8abf5) := goodIn_app (goodIn_of _ (by decide +kernel)) ggX7_bytes_Jx4a65c_size_8abf5
set_option maxRecDepth 20000 in
theorem ggX7_bytes_Jx4a65c_get_915e3 : GoodIn wsX7_bytes wsJx4a65c_get_915e3 := goodIn_r _ [12, 8, 13, 14, 15, 16, 17, 18, 19, 20, 21, 22, 23, 6, 24, 25, 41, 42, 43] (by decide +kernel) (by decide +kernel)
set_option maxRecDepth 20000 in
theorem gX7_bytes_Jx4a65c_get_915e3 : GoodIn wsX7_bytes (wsV RX7 120 RJx4a65c yJx4a65c_get_915e3 wsJx4a65c_get_915e3) := goodIn_app (goodIn_of _ (by decide +kernel)) ggX7_bytes_Jx4a65c_get_915e3
theorem dX7_bytes_0 : decode cX7_bytes 0 = .ok (.lconst 0, 1) := by decide +kernel
theorem dX7_bytes_1 : decode cX7_bytes 1 = .ok (.lstore_n 1, 1) := by decide +kernel
theorem dX7_bytes_2 : decode cX7_bytes 2 = .ok (.iconst 0, 1) := by decide +kernel
theorem dX7_bytes_3 : decode cX7_bytes 3 = .ok (.istore_n 3, 1) := by decide +kernel
theorem dX7_bytes_4 : decode cX7_bytes 4 = .ok (.iload_n 3, 1) := by decide +kernel
theorem dX7_bytes_5 : decode cX7_bytes 5 = .ok (.aload_n 0, 1) := by decide +kernel
theorem dX7_bytes_6 : decode cX7_bytes 6 = .ok (.getfield 10, 3) := by decide +kernel
theorem dX7_bytes_9 : decode cX7_bytes 9 = .ok (.invokevirtual 53, 3) := by decide +kernel
theorem dX7_bytes_12 : decode cX7_bytes 12 = .ok (.if_icmp .ge 27, 3) := by decide +kernel
theorem dX7_bytes_15 : decode cX7_bytes 15 = .ok (.lload_n 1, 1) := by decide +kernel
theorem dX7_bytes_16 : decode cX7_bytes 16 = .ok (.aload_n 0, 1) := by decide +kernel
theorem dX7_bytes_17 : decode cX7_bytes 17 = .ok (.getfield 10, 3) := by decide +kernel
theorem dX7_bytes_20 : decode cX7_bytes 20 = .ok (.iload_n 3, 1) := by decide +kernel
theorem dX7_bytes_21 : decode cX7_bytes 21 = .ok (.invokevirtual 120, 3) := by decide +kernel
theorem dX7_bytes_24 : decode cX7_bytes 24 = .ok (.checkcast 74, 3) := by decide +kernel
theorem dX7_bytes_27 : decode cX7_bytes 27 = .ok (.getfield 273, 3) := by decide +kernel
theorem dX7_bytes_30 : decode cX7_bytes 30 = .ok (.i2l, 1) := by decide +kernel
theorem dX7_bytes_31 : decode cX7_bytes 31 = .ok (.ladd, 1) := by decide +kernel
theorem dX7_bytes_32 : decode cX7_bytes 32 = .ok (.lstore_n 1, 1) := by decide +kernel
theorem dX7_bytes_33 : decode cX7_bytes 33 = .ok (.iinc 3 1, 3) := by decide +kernel
theorem dX7_bytes_36 : decode cX7_bytes 36 = .ok (.goto (-32), 3) := by decide +kernel
theorem dX7_bytes_39 : decode cX7_bytes 39 = .ok (.lload_n 1, 1) := by decide +kernel
theorem dX7_bytes_40 : decode cX7_bytes 40 = .ok (.lreturn, 1) := by decide +kernel
set_option maxRecDepth 20000 in
theorem ggX7_droppedShare_Jx4a65c_size_8abf5 : GoodIn wsX7_droppedShare wsJx4a65c_size_8abf5 := goodIn_r _ [9, 10, 43, 44, 45] (by decide +kernel) (by decide +kernel)
set_option maxRecDepth 20000 in
theorem gX7_droppedShare_Jx4a65c_size_8abf5 : GoodIn wsX7_droppedShare (wsV RX7 53 RJx4a65c yJx4a65c_size_8abf5 wsJx4a65c_size_8abf5) := goodIn_app (goodIn_of _ (by decide +kernel)) ggX7_droppedShare_Jx4a65c_size_8abf5
set_option maxRecDepth 20000 in
theorem ggX7_droppedShare_Jx4a65c_get_915e3 : GoodIn wsX7_droppedShare wsJx4a65c_get_915e3 := goodIn_r _ [14, 10, 15, 16, 17, 18, 19, 20, 21, 22, 23, 24, 25, 8, 26, 27, 43, 44, 45] (by decide +kernel) (by decide +kernel)
set_option maxRecDepth 20000 in
theorem gX7_droppedShare_Jx4a65c_get_915e3 : GoodIn wsX7_droppedShare (wsV RX7 120 RJx4a65c yJx4a65c_get_915e3 wsJx4a65c_get_915e3) := goodIn_app (goodIn_of _ (by decide +kernel)) ggX7_droppedShare_Jx4a65c_get_915e3
theorem dX7_droppedShare_0 : decode cX7_droppedShare 0 = .ok (.aload_n 0, 1) := by decide +kernel
theorem dX7_droppedShare_1 : decode cX7_droppedShare 1 = .ok (.getfield 10, 3) := by decide +kernel
theorem dX7_droppedShare_4 : decode cX7_droppedShare 4 = .ok (.invokevirtual 53, 3) := by decide +kernel
theorem dX7_droppedShare_7 : decode cX7_droppedShare 7 = .ok (.istore_n 1, 1) := by decide +kernel
theorem dX7_droppedShare_8 : decode cX7_droppedShare 8 = .ok (.iload_n 1, 1) := by decide +kernel
theorem dX7_droppedShare_9 : decode cX7_droppedShare 9 = .ok (.ifCond .ne 14, 3) := by decide +kernel
theorem dX7_droppedShare_12 : decode cX7_droppedShare 12 = .ok (.new 276, 3) := by decide +kernel
theorem dX7_droppedShare_15 : decode cX7_droppedShare 15 = .ok (.dup, 1) := by decide +kernel
theorem dX7_droppedShare_16 : decode cX7_droppedShare 16 = .ok (.ldc_w 278, 3) := by decide +kernel
theorem dX7_droppedShare_19 : decode cX7_droppedShare 19 = .ok (.invokespecial 280, 3) := by decide +kernel
theorem dX7_droppedShare_22 : decode cX7_droppedShare 22 = .ok (.athrow, 1) := by decide +kernel
theorem dX7_droppedShare_23 : decode cX7_droppedShare 23 = .ok (.iconst 0, 1) := by decide +kernel
theorem dX7_droppedShare_24 : decode cX7_droppedShare 24 = .ok (.istore_n 2, 1) := by decide +kernel
theorem dX7_droppedShare_25 : decode cX7_droppedShare 25 = .ok (.iconst 0, 1) := by decide +kernel
theorem dX7_droppedShare_26 : decode cX7_droppedShare 26 = .ok (.istore_n 3, 1) := by decide +kernel
theorem dX7_droppedShare_27 : decode cX7_droppedShare 27 = .ok (.iload_n 3, 1) := by decide +kernel
theorem dX7_droppedShare_28 : decode cX7_droppedShare 28 = .ok (.iload_n 1, 1) := by decide +kernel
theorem dX7_droppedShare_29 : decode cX7_droppedShare 29 = .ok (.if_icmp .ge 31, 3) := by decide +kernel
theorem dX7_droppedShare_32 : decode cX7_droppedShare 32 = .ok (.aload_n 0, 1) := by decide +kernel
theorem dX7_droppedShare_33 : decode cX7_droppedShare 33 = .ok (.getfield 10, 3) := by decide +kernel
theorem dX7_droppedShare_36 : decode cX7_droppedShare 36 = .ok (.iload_n 3, 1) := by decide +kernel
theorem dX7_droppedShare_37 : decode cX7_droppedShare 37 = .ok (.invokevirtual 120, 3) := by decide +kernel
theorem dX7_droppedShare_40 : decode cX7_droppedShare 40 = .ok (.checkcast 74, 3) := by decide +kernel
theorem dX7_droppedShare_43 : decode cX7_droppedShare 43 = .ok (.getfield 103, 3) := by decide +kernel
theorem dX7_droppedShare_46 : decode cX7_droppedShare 46 = .ok (.bipush 100, 2) := by decide +kernel
theorem dX7_droppedShare_48 : decode cX7_droppedShare 48 = .ok (.if_icmp .ne 6, 3) := by decide +kernel
theorem dX7_droppedShare_51 : decode cX7_droppedShare 51 = .ok (.iinc 2 1, 3) := by decide +kernel
theorem dX7_droppedShare_54 : decode cX7_droppedShare 54 = .ok (.iinc 3 1, 3) := by decide +kernel
theorem dX7_droppedShare_57 : decode cX7_droppedShare 57 = .ok (.goto (-30), 3) := by decide +kernel
theorem dX7_droppedShare_60 : decode cX7_droppedShare 60 = .ok (.iload_n 2, 1) := by decide +kernel
theorem dX7_droppedShare_61 : decode cX7_droppedShare 61 = .ok (.i2f, 1) := by decide +kernel
theorem dX7_droppedShare_62 : decode cX7_droppedShare 62 = .ok (.iload_n 1, 1) := by decide +kernel
theorem dX7_droppedShare_63 : decode cX7_droppedShare 63 = .ok (.i2f, 1) := by decide +kernel
theorem dX7_droppedShare_64 : decode cX7_droppedShare 64 = .ok (.fdiv, 1) := by decide +kernel
theorem dX7_droppedShare_65 : decode cX7_droppedShare 65 = .ok (.freturn, 1) := by decide +kernel
set_option maxRecDepth 20000 in
theorem ggX7_isSound_X7_countsAreSound : GoodIn wsX7_isSound wsX7_countsAreSound := goodIn_r _ [5, 6, 7, 8, 9, 10, 11, 12, 13, 14, 15, 16, 17, 18, 19, 20, 21, 22, 23, 24, 25, 26, 27, 28, 29, 30, 31, 32, 33, 4, 34, 35, 36, 37, 38, 39, 40, 41, 42, 43, 44, 45, 46, 47, 48, 49, 50, 51, 52, 53, 54, 55, 56, 57, 58, 59, 60, 61, 62, 63, 89, 90, 91, 92, 93, 94, 95, 96, 97, 98, 99, 100, 101, 102, 103, 104, 105, 106, 107, 108, 109, 110, 111, 112, 113, 114, 115, 116, 117, 118, 119, 120, 121, 122] (by decide +kernel) (by decide +kernel)
set_option maxRecDepth 20000 in
theorem gX7_isSound_X7_countsAreSound : GoodIn wsX7_isSound (wsV RX7 286 RX7 yX7_countsAreSound wsX7_countsAreSound) := goodIn_app (goodIn_of _ (by decide +kernel)) ggX7_isSound_X7_countsAreSound
set_option maxRecDepth 20000 in
theorem ggX7_isSound_X7_firingsAreSound : GoodIn wsX7_isSound wsX7_firingsAreSound := goodIn_ca (goodIn_r _ [67, 35, 36, 8, 9, 10, 11, 12, 13, 14, 15, 16, 17, 18, 19, 20, 21, 22, 23, 24, 25, 26, 27, 28, 29, 30, 68, 69, 70, 4, 71, 72, 73, 74, 75, 76, 77, 78, 89, 90, 91, 92, 93, 94, 95, 108, 109, 110, 111, 112, 113, 114, 115, 105, 106, 107, 123, 124, 125, 126, 127] (by decide +kernel) (by decide +kernel)) (goodIn_sub (fun _ h => List.mem_cons_of_mem _ (List.mem_append_right _ h)) (by decide +kernel))
set_option maxRecDepth 20000 in
theorem gX7_isSound_X7_firingsAreSound : GoodIn wsX7_isSound (wsV RX7 290 RX7 yX7_firingsAreSound wsX7_firingsAreSound) := goodIn_app (goodIn_of _ (by decide +kernel)) ggX7_isSound_X7_firingsAreSound
set_option maxRecDepth 20000 in
theorem ggX7_isSound_X7_patternsAreSound : GoodIn wsX7_isSound wsX7_patternsAreSound := goodIn_r _ [82, 35, 36, 8, 9, 10, 11, 12, 13, 14, 15, 16, 17, 18, 19, 20, 21, 22, 23, 24, 25, 26, 27, 28, 29, 30, 83, 84, 85, 86, 87, 88, 57, 58, 59, 60, 61, 62, 63, 89, 90, 91, 92, 93, 94, 95, 108, 109, 110, 111, 112, 113, 114, 115, 128, 129, 130, 131, 105, 106, 107, 120, 121, 122] (by decide +kernel) (by decide +kernel)
set_option maxRecDepth 20000 in
theorem gX7_isSound_X7_patternsAreSound : GoodIn wsX7_isSound (wsV RX7 293 RX7 yX7_patternsAreSound wsX7_patternsAreSound) := goodIn_app (goodIn_of _ (by decide +kernel)) ggX7_isSound_X7_patternsAreSound
theorem dX7_isSound_0 : decode cX7_isSound 0 = .ok (.aload_n 0, 1) := by decide +kernel
theorem dX7_isSound_1 : decode cX7_isSound 1 = .ok (.invokevirtual 286, 3) := by decide +kernel
theorem dX7_isSound_4 : decode cX7_isSound 4 = .ok (.ifCond .eq 21, 3) := by decide +kernel
theorem dX7_isSound_7 : decode cX7_isSound 7 = .ok (.aload_n 0, 1) := by decide +kernel
theorem dX7_isSound_8 : decode cX7_isSound 8 = .ok (.invokevirtual 290, 3) := by decide +kernel
theorem dX7_isSound_11 : decode cX7_isSound 11 = .ok (.ifCond .eq 14, 3) := by decide +kernel
theorem dX7_isSound_14 : decode cX7_isSound 14 = .ok (.aload_n 0, 1) := by decide +kernel
theorem dX7_isSound_15 : decode cX7_isSound 15 = .ok (.invokevirtual 293, 3) := by decide +kernel
theorem dX7_isSound_18 : decode cX7_isSound 18 = .ok (.ifCond .eq 7, 3) := by decide +kernel
theorem dX7_isSound_21 : decode cX7_isSound 21 = .ok (.iconst 1, 1) := by decide +kernel
theorem dX7_isSound_22 : decode cX7_isSound 22 = .ok (.goto 4, 3) := by decide +kernel
theorem dX7_isSound_25 : decode cX7_isSound 25 = .ok (.iconst 0, 1) := by decide +kernel
theorem dX7_isSound_26 : decode cX7_isSound 26 = .ok (.ireturn, 1) := by decide +kernel
theorem dX7_isWithin_0 : decode cX7_isWithin 0 = .ok (.iload_n 0, 1) := by decide +kernel
theorem dX7_isWithin_1 : decode cX7_isWithin 1 = .ok (.iload_n 1, 1) := by decide +kernel
theorem dX7_isWithin_2 : decode cX7_isWithin 2 = .ok (.if_icmp .lt 12, 3) := by decide +kernel
theorem dX7_isWithin_5 : decode cX7_isWithin 5 = .ok (.iload_n 0, 1) := by decide +kernel
theorem dX7_isWithin_6 : decode cX7_isWithin 6 = .ok (.iload_n 2, 1) := by decide +kernel
theorem dX7_isWithin_7 : decode cX7_isWithin 7 = .ok (.if_icmp .gt 7, 3) := by decide +kernel
theorem dX7_isWithin_10 : decode cX7_isWithin 10 = .ok (.iconst 1, 1) := by decide +kernel
theorem dX7_isWithin_11 : decode cX7_isWithin 11 = .ok (.goto 4, 3) := by decide +kernel
theorem dX7_isWithin_14 : decode cX7_isWithin 14 = .ok (.iconst 0, 1) := by decide +kernel
theorem dX7_isWithin_15 : decode cX7_isWithin 15 = .ok (.ireturn, 1) := by decide +kernel
set_option maxRecDepth 20000 in
theorem ggX7_isSource_X7_isWithin : GoodIn wsX7_isSource wsX7_isWithin := goodIn_r _ [4] (by decide +kernel) (by decide +kernel)
set_option maxRecDepth 20000 in
theorem gX7_isSource_X7_isWithin : GoodIn wsX7_isSource (va_wsS RX7 42 yX7_isWithin wsX7_isWithin) := goodIn_app (goodIn_of _ (by decide +kernel)) ggX7_isSource_X7_isWithin
theorem dX7_isSource_0 : decode cX7_isSource 0 = .ok (.iload_n 0, 1) := by decide +kernel
theorem dX7_isSource_1 : decode cX7_isSource 1 = .ok (.iconst 0, 1) := by decide +kernel
theorem dX7_isSource_2 : decode cX7_isSource 2 = .ok (.iconst 3, 1) := by decide +kernel
theorem dX7_isSource_3 : decode cX7_isSource 3 = .ok (.invokestatic 42, 3) := by decide +kernel
theorem dX7_isSource_6 : decode cX7_isSource 6 = .ok (.ireturn, 1) := by decide +kernel
set_option maxRecDepth 20000 in
theorem ggX7_isRank_X7_isWithin : GoodIn wsX7_isRank wsX7_isWithin := goodIn_r _ [4] (by decide +kernel) (by decide +kernel)
set_option maxRecDepth 20000 in
theorem gX7_isRank_X7_isWithin : GoodIn wsX7_isRank (va_wsS RX7 42 yX7_isWithin wsX7_isWithin) := goodIn_app (goodIn_of _ (by decide +kernel)) ggX7_isRank_X7_isWithin
theorem dX7_isRank_0 : decode cX7_isRank 0 = .ok (.iload_n 0, 1) := by decide +kernel
theorem dX7_isRank_1 : decode cX7_isRank 1 = .ok (.iconst 0, 1) := by decide +kernel
theorem dX7_isRank_2 : decode cX7_isRank 2 = .ok (.iconst 4, 1) := by decide +kernel
theorem dX7_isRank_3 : decode cX7_isRank 3 = .ok (.invokestatic 42, 3) := by decide +kernel
theorem dX7_isRank_6 : decode cX7_isRank 6 = .ok (.ireturn, 1) := by decide +kernel
set_option maxRecDepth 20000 in
theorem ggX7_isWord_X7_isWithin : GoodIn wsX7_isWord wsX7_isWithin := goodIn_r _ [4] (by decide +kernel) (by decide +kernel)
set_option maxRecDepth 20000 in
theorem gX7_isWord_X7_isWithin : GoodIn wsX7_isWord (va_wsS RX7 42 yX7_isWithin wsX7_isWithin) := goodIn_app (goodIn_of _ (by decide +kernel)) ggX7_isWord_X7_isWithin
theorem dX7_isWord_0 : decode cX7_isWord 0 = .ok (.iload_n 0, 1) := by decide +kernel
theorem dX7_isWord_1 : decode cX7_isWord 1 = .ok (.iconst 0, 1) := by decide +kernel
theorem dX7_isWord_2 : decode cX7_isWord 2 = .ok (.bipush 99, 2) := by decide +kernel
theorem dX7_isWord_4 : decode cX7_isWord 4 = .ok (.invokestatic 42, 3) := by decide +kernel
theorem dX7_isWord_7 : decode cX7_isWord 7 = .ok (.ireturn, 1) := by decide +kernel
set_option maxRecDepth 20000 in
theorem ggX7_checkSource_X7_isSource : GoodIn wsX7_checkSource wsX7_isSource := goodIn_r _ [6, 7, 8, 5, 9] (by decide +kernel) (by decide +kernel)
set_option maxRecDepth 20000 in
theorem gX7_checkSource_X7_isSource : GoodIn wsX7_checkSource (va_wsS RX7 32 yX7_isSource wsX7_isSource) := goodIn_app (goodIn_of _ (by decide +kernel)) ggX7_checkSource_X7_isSource
theorem dX7_checkSource_0 : decode cX7_checkSource 0 = .ok (.iload_n 0, 1) := by decide +kernel
theorem dX7_checkSource_1 : decode cX7_checkSource 1 = .ok (.invokestatic 32, 3) := by decide +kernel
theorem dX7_checkSource_4 : decode cX7_checkSource 4 = .ok (.ifCond .ne 14, 3) := by decide +kernel
theorem dX7_checkSource_7 : decode cX7_checkSource 7 = .ok (.new 46, 3) := by decide +kernel
theorem dX7_checkSource_10 : decode cX7_checkSource 10 = .ok (.dup, 1) := by decide +kernel
theorem dX7_checkSource_11 : decode cX7_checkSource 11 = .ok (.ldc_w 296, 3) := by decide +kernel
theorem dX7_checkSource_14 : decode cX7_checkSource 14 = .ok (.invokespecial 50, 3) := by decide +kernel
theorem dX7_checkSource_17 : decode cX7_checkSource 17 = .ok (.athrow, 1) := by decide +kernel
theorem dX7_checkSource_18 : decode cX7_checkSource 18 = .ok (.return_, 1) := by decide +kernel
set_option maxRecDepth 20000 in
theorem ggX7_checkPlace_X7_isWithin : GoodIn wsX7_checkPlace wsX7_isWithin := goodIn_r _ [6] (by decide +kernel) (by decide +kernel)
set_option maxRecDepth 20000 in
theorem gX7_checkPlace_X7_isWithin : GoodIn wsX7_checkPlace (va_wsS RX7 42 yX7_isWithin wsX7_isWithin) := goodIn_app (goodIn_of _ (by decide +kernel)) ggX7_checkPlace_X7_isWithin
theorem dX7_checkPlace_0 : decode cX7_checkPlace 0 = .ok (.iload_n 0, 1) := by decide +kernel
theorem dX7_checkPlace_1 : decode cX7_checkPlace 1 = .ok (.iconst 0, 1) := by decide +kernel
theorem dX7_checkPlace_2 : decode cX7_checkPlace 2 = .ok (.iconst 2, 1) := by decide +kernel
theorem dX7_checkPlace_3 : decode cX7_checkPlace 3 = .ok (.invokestatic 42, 3) := by decide +kernel
theorem dX7_checkPlace_6 : decode cX7_checkPlace 6 = .ok (.ifCond .ne 14, 3) := by decide +kernel
theorem dX7_checkPlace_9 : decode cX7_checkPlace 9 = .ok (.new 46, 3) := by decide +kernel
theorem dX7_checkPlace_12 : decode cX7_checkPlace 12 = .ok (.dup, 1) := by decide +kernel
theorem dX7_checkPlace_13 : decode cX7_checkPlace 13 = .ok (.ldc_w 298, 3) := by decide +kernel
theorem dX7_checkPlace_16 : decode cX7_checkPlace 16 = .ok (.invokespecial 50, 3) := by decide +kernel
theorem dX7_checkPlace_19 : decode cX7_checkPlace 19 = .ok (.athrow, 1) := by decide +kernel
theorem dX7_checkPlace_20 : decode cX7_checkPlace 20 = .ok (.return_, 1) := by decide +kernel
set_option maxRecDepth 20000 in
theorem ggX7_lineNumbered_Jx4a65c_size_8abf5 : GoodIn wsX7_lineNumbered wsJx4a65c_size_8abf5 := goodIn_r _ [9, 10, 35, 36, 37] (by decide +kernel) (by decide +kernel)
set_option maxRecDepth 20000 in
theorem gX7_lineNumbered_Jx4a65c_size_8abf5 : GoodIn wsX7_lineNumbered (wsV RX7 53 RJx4a65c yJx4a65c_size_8abf5 wsJx4a65c_size_8abf5) := goodIn_app (goodIn_of _ (by decide +kernel)) ggX7_lineNumbered_Jx4a65c_size_8abf5
set_option maxRecDepth 20000 in
theorem ggX7_lineNumbered_Jx4a65c_get_915e3 : GoodIn wsX7_lineNumbered wsJx4a65c_get_915e3 := goodIn_r _ [14, 10, 15, 16, 17, 18, 19, 20, 21, 22, 23, 24, 25, 8, 26, 27, 35, 36, 37] (by decide +kernel) (by decide +kernel)
set_option maxRecDepth 20000 in
theorem gX7_lineNumbered_Jx4a65c_get_915e3 : GoodIn wsX7_lineNumbered (wsV RX7 120 RJx4a65c yJx4a65c_get_915e3 wsJx4a65c_get_915e3) := goodIn_app (goodIn_of _ (by decide +kernel)) ggX7_lineNumbered_Jx4a65c_get_915e3
theorem dX7_lineNumbered_0 : decode cX7_lineNumbered 0 = .ok (.iload_n 1, 1) := by decide +kernel
theorem dX7_lineNumbered_1 : decode cX7_lineNumbered 1 = .ok (.ifCond .lt 14, 3) := by decide +kernel
theorem dX7_lineNumbered_4 : decode cX7_lineNumbered 4 = .ok (.iload_n 1, 1) := by decide +kernel
theorem dX7_lineNumbered_5 : decode cX7_lineNumbered 5 = .ok (.aload_n 0, 1) := by decide +kernel
theorem dX7_lineNumbered_6 : decode cX7_lineNumbered 6 = .ok (.getfield 10, 3) := by decide +kernel
theorem dX7_lineNumbered_9 : decode cX7_lineNumbered 9 = .ok (.invokevirtual 53, 3) := by decide +kernel
theorem dX7_lineNumbered_12 : decode cX7_lineNumbered 12 = .ok (.if_icmp .lt 14, 3) := by decide +kernel
theorem dX7_lineNumbered_15 : decode cX7_lineNumbered 15 = .ok (.new 178, 3) := by decide +kernel
theorem dX7_lineNumbered_18 : decode cX7_lineNumbered 18 = .ok (.dup, 1) := by decide +kernel
theorem dX7_lineNumbered_19 : decode cX7_lineNumbered 19 = .ok (.ldc_w 300, 3) := by decide +kernel
theorem dX7_lineNumbered_22 : decode cX7_lineNumbered 22 = .ok (.invokespecial 182, 3) := by decide +kernel
theorem dX7_lineNumbered_25 : decode cX7_lineNumbered 25 = .ok (.athrow, 1) := by decide +kernel
theorem dX7_lineNumbered_26 : decode cX7_lineNumbered 26 = .ok (.aload_n 0, 1) := by decide +kernel
theorem dX7_lineNumbered_27 : decode cX7_lineNumbered 27 = .ok (.getfield 10, 3) := by decide +kernel
theorem dX7_lineNumbered_30 : decode cX7_lineNumbered 30 = .ok (.iload_n 1, 1) := by decide +kernel
theorem dX7_lineNumbered_31 : decode cX7_lineNumbered 31 = .ok (.invokevirtual 120, 3) := by decide +kernel
theorem dX7_lineNumbered_34 : decode cX7_lineNumbered 34 = .ok (.checkcast 74, 3) := by decide +kernel
theorem dX7_lineNumbered_37 : decode cX7_lineNumbered 37 = .ok (.areturn, 1) := by decide +kernel
set_option maxRecDepth 20000 in
theorem ggX7_patternNumbered_Jx4a65c_size_8abf5 : GoodIn wsX7_patternNumbered wsJx4a65c_size_8abf5 := goodIn_r _ [9, 10, 39, 40, 41] (by decide +kernel) (by decide +kernel)
set_option maxRecDepth 20000 in
theorem gX7_patternNumbered_Jx4a65c_size_8abf5 : GoodIn wsX7_patternNumbered (wsV RX7 53 RJx4a65c yJx4a65c_size_8abf5 wsJx4a65c_size_8abf5) := goodIn_app (goodIn_of _ (by decide +kernel)) ggX7_patternNumbered_Jx4a65c_size_8abf5
set_option maxRecDepth 20000 in
theorem ggX7_patternNumbered_Jx4a65c_get_915e3 : GoodIn wsX7_patternNumbered wsJx4a65c_get_915e3 := goodIn_r _ [14, 10, 15, 16, 17, 18, 19, 20, 21, 22, 23, 24, 25, 8, 26, 27, 39, 40, 41] (by decide +kernel) (by decide +kernel)
set_option maxRecDepth 20000 in
theorem gX7_patternNumbered_Jx4a65c_get_915e3 : GoodIn wsX7_patternNumbered (wsV RX7 120 RJx4a65c yJx4a65c_get_915e3 wsJx4a65c_get_915e3) := goodIn_app (goodIn_of _ (by decide +kernel)) ggX7_patternNumbered_Jx4a65c_get_915e3
theorem dX7_patternNumbered_0 : decode cX7_patternNumbered 0 = .ok (.iload_n 1, 1) := by decide +kernel
theorem dX7_patternNumbered_1 : decode cX7_patternNumbered 1 = .ok (.ifCond .lt 14, 3) := by decide +kernel
theorem dX7_patternNumbered_4 : decode cX7_patternNumbered 4 = .ok (.iload_n 1, 1) := by decide +kernel
theorem dX7_patternNumbered_5 : decode cX7_patternNumbered 5 = .ok (.aload_n 0, 1) := by decide +kernel
theorem dX7_patternNumbered_6 : decode cX7_patternNumbered 6 = .ok (.getfield 16, 3) := by decide +kernel
theorem dX7_patternNumbered_9 : decode cX7_patternNumbered 9 = .ok (.invokevirtual 53, 3) := by decide +kernel
theorem dX7_patternNumbered_12 : decode cX7_patternNumbered 12 = .ok (.if_icmp .lt 14, 3) := by decide +kernel
theorem dX7_patternNumbered_15 : decode cX7_patternNumbered 15 = .ok (.new 178, 3) := by decide +kernel
theorem dX7_patternNumbered_18 : decode cX7_patternNumbered 18 = .ok (.dup, 1) := by decide +kernel
theorem dX7_patternNumbered_19 : decode cX7_patternNumbered 19 = .ok (.ldc_w 302, 3) := by decide +kernel
theorem dX7_patternNumbered_22 : decode cX7_patternNumbered 22 = .ok (.invokespecial 182, 3) := by decide +kernel
theorem dX7_patternNumbered_25 : decode cX7_patternNumbered 25 = .ok (.athrow, 1) := by decide +kernel
theorem dX7_patternNumbered_26 : decode cX7_patternNumbered 26 = .ok (.aload_n 0, 1) := by decide +kernel
theorem dX7_patternNumbered_27 : decode cX7_patternNumbered 27 = .ok (.getfield 16, 3) := by decide +kernel
theorem dX7_patternNumbered_30 : decode cX7_patternNumbered 30 = .ok (.iload_n 1, 1) := by decide +kernel
theorem dX7_patternNumbered_31 : decode cX7_patternNumbered 31 = .ok (.invokevirtual 120, 3) := by decide +kernel
theorem dX7_patternNumbered_34 : decode cX7_patternNumbered 34 = .ok (.checkcast 112, 3) := by decide +kernel
theorem dX7_patternNumbered_37 : decode cX7_patternNumbered 37 = .ok (.astore_n 2, 1) := by decide +kernel
theorem dX7_patternNumbered_38 : decode cX7_patternNumbered 38 = .ok (.aload_n 2, 1) := by decide +kernel
theorem dX7_patternNumbered_39 : decode cX7_patternNumbered 39 = .ok (.getfield 127, 3) := by decide +kernel
theorem dX7_patternNumbered_42 : decode cX7_patternNumbered 42 = .ok (.ifCond .eq 14, 3) := by decide +kernel
theorem dX7_patternNumbered_45 : decode cX7_patternNumbered 45 = .ok (.new 178, 3) := by decide +kernel
theorem dX7_patternNumbered_48 : decode cX7_patternNumbered 48 = .ok (.dup, 1) := by decide +kernel
theorem dX7_patternNumbered_49 : decode cX7_patternNumbered 49 = .ok (.ldc_w 304, 3) := by decide +kernel
theorem dX7_patternNumbered_52 : decode cX7_patternNumbered 52 = .ok (.invokespecial 182, 3) := by decide +kernel
theorem dX7_patternNumbered_55 : decode cX7_patternNumbered 55 = .ok (.athrow, 1) := by decide +kernel
theorem dX7_patternNumbered_56 : decode cX7_patternNumbered 56 = .ok (.aload_n 2, 1) := by decide +kernel
theorem dX7_patternNumbered_57 : decode cX7_patternNumbered 57 = .ok (.areturn, 1) := by decide +kernel
set_option maxRecDepth 20000 in
theorem ggX7_alertNumbered_Jx4a65c_size_8abf5 : GoodIn wsX7_alertNumbered wsJx4a65c_size_8abf5 := goodIn_r _ [9, 10, 35, 36, 37] (by decide +kernel) (by decide +kernel)
set_option maxRecDepth 20000 in
theorem gX7_alertNumbered_Jx4a65c_size_8abf5 : GoodIn wsX7_alertNumbered (wsV RX7 53 RJx4a65c yJx4a65c_size_8abf5 wsJx4a65c_size_8abf5) := goodIn_app (goodIn_of _ (by decide +kernel)) ggX7_alertNumbered_Jx4a65c_size_8abf5
set_option maxRecDepth 20000 in
theorem ggX7_alertNumbered_Jx4a65c_get_915e3 : GoodIn wsX7_alertNumbered wsJx4a65c_get_915e3 := goodIn_r _ [14, 10, 15, 16, 17, 18, 19, 20, 21, 22, 23, 24, 25, 8, 26, 27, 35, 36, 37] (by decide +kernel) (by decide +kernel)
set_option maxRecDepth 20000 in
theorem gX7_alertNumbered_Jx4a65c_get_915e3 : GoodIn wsX7_alertNumbered (wsV RX7 120 RJx4a65c yJx4a65c_get_915e3 wsJx4a65c_get_915e3) := goodIn_app (goodIn_of _ (by decide +kernel)) ggX7_alertNumbered_Jx4a65c_get_915e3
theorem dX7_alertNumbered_0 : decode cX7_alertNumbered 0 = .ok (.iload_n 1, 1) := by decide +kernel
theorem dX7_alertNumbered_1 : decode cX7_alertNumbered 1 = .ok (.ifCond .lt 14, 3) := by decide +kernel
theorem dX7_alertNumbered_4 : decode cX7_alertNumbered 4 = .ok (.iload_n 1, 1) := by decide +kernel
theorem dX7_alertNumbered_5 : decode cX7_alertNumbered 5 = .ok (.aload_n 0, 1) := by decide +kernel
theorem dX7_alertNumbered_6 : decode cX7_alertNumbered 6 = .ok (.getfield 19, 3) := by decide +kernel
theorem dX7_alertNumbered_9 : decode cX7_alertNumbered 9 = .ok (.invokevirtual 53, 3) := by decide +kernel
theorem dX7_alertNumbered_12 : decode cX7_alertNumbered 12 = .ok (.if_icmp .lt 14, 3) := by decide +kernel
theorem dX7_alertNumbered_15 : decode cX7_alertNumbered 15 = .ok (.new 306, 3) := by decide +kernel
theorem dX7_alertNumbered_18 : decode cX7_alertNumbered 18 = .ok (.dup, 1) := by decide +kernel
theorem dX7_alertNumbered_19 : decode cX7_alertNumbered 19 = .ok (.ldc_w 308, 3) := by decide +kernel
theorem dX7_alertNumbered_22 : decode cX7_alertNumbered 22 = .ok (.invokespecial 310, 3) := by decide +kernel
theorem dX7_alertNumbered_25 : decode cX7_alertNumbered 25 = .ok (.athrow, 1) := by decide +kernel
theorem dX7_alertNumbered_26 : decode cX7_alertNumbered 26 = .ok (.aload_n 0, 1) := by decide +kernel
theorem dX7_alertNumbered_27 : decode cX7_alertNumbered 27 = .ok (.getfield 19, 3) := by decide +kernel
theorem dX7_alertNumbered_30 : decode cX7_alertNumbered 30 = .ok (.iload_n 1, 1) := by decide +kernel
theorem dX7_alertNumbered_31 : decode cX7_alertNumbered 31 = .ok (.invokevirtual 120, 3) := by decide +kernel
theorem dX7_alertNumbered_34 : decode cX7_alertNumbered 34 = .ok (.checkcast 195, 3) := by decide +kernel
theorem dX7_alertNumbered_37 : decode cX7_alertNumbered 37 = .ok (.areturn, 1) := by decide +kernel
set_option maxRecDepth 20000 in
theorem ggX7_firingNumbered_Jx4a65c_size_8abf5 : GoodIn wsX7_firingNumbered wsJx4a65c_size_8abf5 := goodIn_r _ [9, 10, 35, 36, 37] (by decide +kernel) (by decide +kernel)
set_option maxRecDepth 20000 in
theorem gX7_firingNumbered_Jx4a65c_size_8abf5 : GoodIn wsX7_firingNumbered (wsV RX7 53 RJx4a65c yJx4a65c_size_8abf5 wsJx4a65c_size_8abf5) := goodIn_app (goodIn_of _ (by decide +kernel)) ggX7_firingNumbered_Jx4a65c_size_8abf5
set_option maxRecDepth 20000 in
theorem ggX7_firingNumbered_Jx4a65c_get_915e3 : GoodIn wsX7_firingNumbered wsJx4a65c_get_915e3 := goodIn_r _ [14, 10, 15, 16, 17, 18, 19, 20, 21, 22, 23, 24, 25, 8, 26, 27, 35, 36, 37] (by decide +kernel) (by decide +kernel)
set_option maxRecDepth 20000 in
theorem gX7_firingNumbered_Jx4a65c_get_915e3 : GoodIn wsX7_firingNumbered (wsV RX7 120 RJx4a65c yJx4a65c_get_915e3 wsJx4a65c_get_915e3) := goodIn_app (goodIn_of _ (by decide +kernel)) ggX7_firingNumbered_Jx4a65c_get_915e3
theorem dX7_firingNumbered_0 : decode cX7_firingNumbered 0 = .ok (.iload_n 1, 1) := by decide +kernel
theorem dX7_firingNumbered_1 : decode cX7_firingNumbered 1 = .ok (.ifCond .lt 14, 3) := by decide +kernel
theorem dX7_firingNumbered_4 : decode cX7_firingNumbered 4 = .ok (.iload_n 1, 1) := by decide +kernel
theorem dX7_firingNumbered_5 : decode cX7_firingNumbered 5 = .ok (.aload_n 0, 1) := by decide +kernel
theorem dX7_firingNumbered_6 : decode cX7_firingNumbered 6 = .ok (.getfield 22, 3) := by decide +kernel
theorem dX7_firingNumbered_9 : decode cX7_firingNumbered 9 = .ok (.invokevirtual 53, 3) := by decide +kernel
theorem dX7_firingNumbered_12 : decode cX7_firingNumbered 12 = .ok (.if_icmp .lt 14, 3) := by decide +kernel
theorem dX7_firingNumbered_15 : decode cX7_firingNumbered 15 = .ok (.new 178, 3) := by decide +kernel
theorem dX7_firingNumbered_18 : decode cX7_firingNumbered 18 = .ok (.dup, 1) := by decide +kernel
theorem dX7_firingNumbered_19 : decode cX7_firingNumbered 19 = .ok (.ldc_w 311, 3) := by decide +kernel
theorem dX7_firingNumbered_22 : decode cX7_firingNumbered 22 = .ok (.invokespecial 182, 3) := by decide +kernel
theorem dX7_firingNumbered_25 : decode cX7_firingNumbered 25 = .ok (.athrow, 1) := by decide +kernel
theorem dX7_firingNumbered_26 : decode cX7_firingNumbered 26 = .ok (.aload_n 0, 1) := by decide +kernel
theorem dX7_firingNumbered_27 : decode cX7_firingNumbered 27 = .ok (.getfield 22, 3) := by decide +kernel
theorem dX7_firingNumbered_30 : decode cX7_firingNumbered 30 = .ok (.iload_n 1, 1) := by decide +kernel
theorem dX7_firingNumbered_31 : decode cX7_firingNumbered 31 = .ok (.invokevirtual 120, 3) := by decide +kernel
theorem dX7_firingNumbered_34 : decode cX7_firingNumbered 34 = .ok (.checkcast 228, 3) := by decide +kernel
theorem dX7_firingNumbered_37 : decode cX7_firingNumbered 37 = .ok (.areturn, 1) := by decide +kernel
set_option maxRecDepth 20000 in
theorem ggX7_patternFor_Jx4a65c_size_8abf5 : GoodIn wsX7_patternFor wsJx4a65c_size_8abf5 := goodIn_r _ [7, 8, 50, 51, 52] (by decide +kernel) (by decide +kernel)
set_option maxRecDepth 20000 in
theorem gX7_patternFor_Jx4a65c_size_8abf5 : GoodIn wsX7_patternFor (wsV RX7 53 RJx4a65c yJx4a65c_size_8abf5 wsJx4a65c_size_8abf5) := goodIn_app (goodIn_of _ (by decide +kernel)) ggX7_patternFor_Jx4a65c_size_8abf5
set_option maxRecDepth 20000 in
theorem ggX7_patternFor_Jx4a65c_get_915e3 : GoodIn wsX7_patternFor wsJx4a65c_get_915e3 := goodIn_r _ [12, 8, 13, 14, 15, 16, 17, 18, 19, 20, 21, 22, 23, 6, 24, 25, 50, 51, 52] (by decide +kernel) (by decide +kernel)
set_option maxRecDepth 20000 in
theorem gX7_patternFor_Jx4a65c_get_915e3 : GoodIn wsX7_patternFor (wsV RX7 120 RJx4a65c yJx4a65c_get_915e3 wsJx4a65c_get_915e3) := goodIn_app (goodIn_of _ (by decide +kernel)) ggX7_patternFor_Jx4a65c_get_915e3
set_option maxRecDepth 20000 in
theorem ggX7_patternFor_X4_suits : GoodIn wsX7_patternFor wsX4_suits := goodIn_r _ [29, 30, 31, 32, 33, 34, 35, 36, 37, 38, 46, 47, 48, 49, 53, 54, 55] (by decide +kernel) (by decide +kernel)
set_option maxRecDepth 20000 in
theorem gX7_patternFor_X4_suits_n313 : GoodIn wsX7_patternFor (wsX4_suits) := ggX7_patternFor_X4_suits
theorem dX7_patternFor_0 : decode cX7_patternFor 0 = .ok (.iconst 0, 1) := by decide +kernel
theorem dX7_patternFor_1 : decode cX7_patternFor 1 = .ok (.istore_n 3, 1) := by decide +kernel
theorem dX7_patternFor_2 : decode cX7_patternFor 2 = .ok (.iload_n 3, 1) := by decide +kernel
theorem dX7_patternFor_3 : decode cX7_patternFor 3 = .ok (.aload_n 0, 1) := by decide +kernel
theorem dX7_patternFor_4 : decode cX7_patternFor 4 = .ok (.getfield 16, 3) := by decide +kernel
theorem dX7_patternFor_7 : decode cX7_patternFor 7 = .ok (.invokevirtual 53, 3) := by decide +kernel
theorem dX7_patternFor_10 : decode cX7_patternFor 10 = .ok (.if_icmp .ge 43, 3) := by decide +kernel
theorem dX7_patternFor_13 : decode cX7_patternFor 13 = .ok (.aload_n 0, 1) := by decide +kernel
theorem dX7_patternFor_14 : decode cX7_patternFor 14 = .ok (.getfield 16, 3) := by decide +kernel
theorem dX7_patternFor_17 : decode cX7_patternFor 17 = .ok (.iload_n 3, 1) := by decide +kernel
theorem dX7_patternFor_18 : decode cX7_patternFor 18 = .ok (.invokevirtual 120, 3) := by decide +kernel
theorem dX7_patternFor_21 : decode cX7_patternFor 21 = .ok (.checkcast 112, 3) := by decide +kernel
theorem dX7_patternFor_24 : decode cX7_patternFor 24 = .ok (.astore 4, 2) := by decide +kernel
theorem dX7_patternFor_26 : decode cX7_patternFor 26 = .ok (.aload 4, 2) := by decide +kernel
theorem dX7_patternFor_28 : decode cX7_patternFor 28 = .ok (.getfield 127, 3) := by decide +kernel
theorem dX7_patternFor_31 : decode cX7_patternFor 31 = .ok (.ifCond .ne 16, 3) := by decide +kernel
theorem dX7_patternFor_34 : decode cX7_patternFor 34 = .ok (.aload 4, 2) := by decide +kernel
theorem dX7_patternFor_36 : decode cX7_patternFor 36 = .ok (.iload_n 1, 1) := by decide +kernel
theorem dX7_patternFor_37 : decode cX7_patternFor 37 = .ok (.aload_n 2, 1) := by decide +kernel
theorem dX7_patternFor_38 : decode cX7_patternFor 38 = .ok (.invokevirtual 313, 3) := by decide +kernel
theorem dX7_patternFor_41 : decode cX7_patternFor 41 = .ok (.ifCond .eq 6, 3) := by decide +kernel
theorem dX7_patternFor_44 : decode cX7_patternFor 44 = .ok (.aload 4, 2) := by decide +kernel
theorem dX7_patternFor_46 : decode cX7_patternFor 46 = .ok (.areturn, 1) := by decide +kernel
theorem dX7_patternFor_47 : decode cX7_patternFor 47 = .ok (.iinc 3 1, 3) := by decide +kernel
theorem dX7_patternFor_50 : decode cX7_patternFor 50 = .ok (.goto (-48), 3) := by decide +kernel
theorem dX7_patternFor_53 : decode cX7_patternFor 53 = .ok (.aconst_null, 1) := by decide +kernel
theorem dX7_patternFor_54 : decode cX7_patternFor 54 = .ok (.areturn, 1) := by decide +kernel
set_option maxRecDepth 20000 in
theorem ggX7_learn_X6_init : GoodIn wsX7_learn wsX6_init := goodIn_r _ [9, 10, 11, 12, 13, 14, 15, 82, 83, 84] (by decide +kernel) (by decide +kernel)
set_option maxRecDepth 20000 in
theorem gX7_learn_X6_init_n64 : GoodIn wsX7_learn (wsX6_init) := ggX7_learn_X6_init
set_option maxRecDepth 20000 in
theorem ggX7_learn_Jx4a65c_size_8abf5 : GoodIn wsX7_learn wsJx4a65c_size_8abf5 := goodIn_r _ [20, 21, 96, 97, 98] (by decide +kernel) (by decide +kernel)
set_option maxRecDepth 20000 in
theorem gX7_learn_Jx4a65c_size_8abf5 : GoodIn wsX7_learn (wsV RX7 53 RJx4a65c yJx4a65c_size_8abf5 wsJx4a65c_size_8abf5) := goodIn_app (goodIn_of _ (by decide +kernel)) ggX7_learn_Jx4a65c_size_8abf5
set_option maxRecDepth 20000 in
theorem ggX7_learn_X4_init : GoodIn wsX7_learn wsX4_init := goodIn_r _ [23, 24, 11, 12, 25, 26, 27, 85, 86, 87, 88] (by decide +kernel) (by decide +kernel)
set_option maxRecDepth 20000 in
theorem gX7_learn_X4_init_n326 : GoodIn wsX7_learn (wsX4_init) := ggX7_learn_X4_init
set_option maxRecDepth 20000 in
theorem ggX7_learn_Jx4a65c_add_9ea2d : GoodIn wsX7_learn wsJx4a65c_add_9ea2d := goodIn_r _ [31, 32, 33, 34, 21, 35, 36, 37, 19, 38, 39, 40, 41, 42, 43, 44, 45, 46, 47, 48, 49, 50, 51, 52, 53, 54, 55, 56, 57, 58, 59, 60, 61, 62, 63, 64, 65, 66, 67, 68, 69, 70, 71, 72, 73, 74, 75, 76, 77, 78, 79, 80, 81, 96, 97, 98] (by decide +kernel) (by decide +kernel)
set_option maxRecDepth 20000 in
theorem gX7_learn_Jx4a65c_add_9ea2d : GoodIn wsX7_learn (wsV RX7 83 RJx4a65c yJx4a65c_add_9ea2d wsJx4a65c_add_9ea2d) := goodIn_app (goodIn_of _ (by decide +kernel)) ggX7_learn_Jx4a65c_add_9ea2d
theorem dX7_learn_0 : decode cX7_learn 0 = .ok (.new 62, 3) := by decide +kernel
theorem dX7_learn_3 : decode cX7_learn 3 = .ok (.dup, 1) := by decide +kernel
theorem dX7_learn_4 : decode cX7_learn 4 = .ok (.aload_n 2, 1) := by decide +kernel
theorem dX7_learn_5 : decode cX7_learn 5 = .ok (.getfield 317, 3) := by decide +kernel
theorem dX7_learn_8 : decode cX7_learn 8 = .ok (.aload_n 2, 1) := by decide +kernel
theorem dX7_learn_9 : decode cX7_learn 9 = .ok (.getfield 320, 3) := by decide +kernel
theorem dX7_learn_12 : decode cX7_learn 12 = .ok (.aload_n 2, 1) := by decide +kernel
theorem dX7_learn_13 : decode cX7_learn 13 = .ok (.getfield 323, 3) := by decide +kernel
theorem dX7_learn_16 : decode cX7_learn 16 = .ok (.invokespecial 64, 3) := by decide +kernel
theorem dX7_learn_19 : decode cX7_learn 19 = .ok (.astore_n 3, 1) := by decide +kernel
theorem dX7_learn_20 : decode cX7_learn 20 = .ok (.new 112, 3) := by decide +kernel
theorem dX7_learn_23 : decode cX7_learn 23 = .ok (.dup, 1) := by decide +kernel
theorem dX7_learn_24 : decode cX7_learn 24 = .ok (.aload_n 0, 1) := by decide +kernel
theorem dX7_learn_25 : decode cX7_learn 25 = .ok (.getfield 16, 3) := by decide +kernel
theorem dX7_learn_28 : decode cX7_learn 28 = .ok (.invokevirtual 53, 3) := by decide +kernel
theorem dX7_learn_31 : decode cX7_learn 31 = .ok (.iload_n 1, 1) := by decide +kernel
theorem dX7_learn_32 : decode cX7_learn 32 = .ok (.aload_n 3, 1) := by decide +kernel
theorem dX7_learn_33 : decode cX7_learn 33 = .ok (.invokespecial 326, 3) := by decide +kernel
theorem dX7_learn_36 : decode cX7_learn 36 = .ok (.astore 4, 2) := by decide +kernel
theorem dX7_learn_38 : decode cX7_learn 38 = .ok (.aload_n 0, 1) := by decide +kernel
theorem dX7_learn_39 : decode cX7_learn 39 = .ok (.getfield 16, 3) := by decide +kernel
theorem dX7_learn_42 : decode cX7_learn 42 = .ok (.aload 4, 2) := by decide +kernel
theorem dX7_learn_44 : decode cX7_learn 44 = .ok (.invokevirtual 83, 3) := by decide +kernel
theorem dX7_learn_47 : decode cX7_learn 47 = .ok (.pop, 1) := by decide +kernel
theorem dX7_learn_48 : decode cX7_learn 48 = .ok (.aload 4, 2) := by decide +kernel
theorem dX7_learn_50 : decode cX7_learn 50 = .ok (.areturn, 1) := by decide +kernel
set_option maxRecDepth 20000 in
theorem ggX7_mergeFrom_Jx4a65c_size_8abf5 : GoodIn wsX7_mergeFrom wsJx4a65c_size_8abf5 := goodIn_r _ [6, 7, 62, 63, 64] (by decide +kernel) (by decide +kernel)
set_option maxRecDepth 20000 in
theorem gX7_mergeFrom_Jx4a65c_size_8abf5 : GoodIn wsX7_mergeFrom (wsV RX7 53 RJx4a65c yJx4a65c_size_8abf5 wsJx4a65c_size_8abf5) := goodIn_app (goodIn_of _ (by decide +kernel)) ggX7_mergeFrom_Jx4a65c_size_8abf5
set_option maxRecDepth 20000 in
theorem ggX7_mergeFrom_X7_partnerOf : GoodIn wsX7_mergeFrom wsX7_partnerOf := goodIn_r _ [12, 1, 13, 2, 3, 4, 5, 6, 7, 14, 15, 16, 17, 18, 19, 20, 21, 22, 23, 24, 25, 26, 27, 28, 29, 30, 31, 32, 33, 34, 35, 36, 37, 38, 39, 40, 41, 51, 52, 53, 54, 55, 56, 57, 58, 59, 60, 61, 62, 63, 64, 65, 66, 67] (by decide +kernel) (by decide +kernel)
set_option maxRecDepth 20000 in
theorem gX7_mergeFrom_X7_partnerOf : GoodIn wsX7_mergeFrom (wsV RX7 329 RX7 yX7_partnerOf wsX7_partnerOf) := goodIn_app (goodIn_of _ (by decide +kernel)) ggX7_mergeFrom_X7_partnerOf
set_option maxRecDepth 20000 in
theorem ggX7_mergeFrom_X7_merge : GoodIn wsX7_mergeFrom wsX7_merge := goodIn_r _ [45, 46, 47, 36, 32, 37, 38, 39, 40, 41, 48, 49, 50, 2, 3, 4, 5, 6, 7, 14, 15, 16, 17, 18, 19, 20, 21, 22, 23, 24, 25, 26, 27, 28, 29, 30, 58, 59, 60, 61, 51, 52, 53, 54, 55, 56, 57, 68, 69, 70, 71, 72, 73, 74, 75, 65, 66, 67, 62, 63, 64] (by decide +kernel) (by decide +kernel)
set_option maxRecDepth 20000 in
theorem gX7_mergeFrom_X7_merge : GoodIn wsX7_mergeFrom (wsV RX7 333 RX7 yX7_merge wsX7_merge) := goodIn_app (goodIn_of _ (by decide +kernel)) ggX7_mergeFrom_X7_merge
theorem dX7_mergeFrom_0 : decode cX7_mergeFrom 0 = .ok (.aload_n 1, 1) := by decide +kernel
theorem dX7_mergeFrom_1 : decode cX7_mergeFrom 1 = .ok (.astore_n 2, 1) := by decide +kernel
theorem dX7_mergeFrom_2 : decode cX7_mergeFrom 2 = .ok (.iconst 0, 1) := by decide +kernel
theorem dX7_mergeFrom_3 : decode cX7_mergeFrom 3 = .ok (.istore_n 3, 1) := by decide +kernel
theorem dX7_mergeFrom_4 : decode cX7_mergeFrom 4 = .ok (.iload_n 3, 1) := by decide +kernel
theorem dX7_mergeFrom_5 : decode cX7_mergeFrom 5 = .ok (.aload_n 0, 1) := by decide +kernel
theorem dX7_mergeFrom_6 : decode cX7_mergeFrom 6 = .ok (.getfield 16, 3) := by decide +kernel
theorem dX7_mergeFrom_9 : decode cX7_mergeFrom 9 = .ok (.invokevirtual 53, 3) := by decide +kernel
theorem dX7_mergeFrom_12 : decode cX7_mergeFrom 12 = .ok (.if_icmp .ge 54, 3) := by decide +kernel
theorem dX7_mergeFrom_15 : decode cX7_mergeFrom 15 = .ok (.aload_n 0, 1) := by decide +kernel
theorem dX7_mergeFrom_16 : decode cX7_mergeFrom 16 = .ok (.aload_n 2, 1) := by decide +kernel
theorem dX7_mergeFrom_17 : decode cX7_mergeFrom 17 = .ok (.invokevirtual 329, 3) := by decide +kernel
theorem dX7_mergeFrom_20 : decode cX7_mergeFrom 20 = .ok (.astore 4, 2) := by decide +kernel
theorem dX7_mergeFrom_22 : decode cX7_mergeFrom 22 = .ok (.aload 4, 2) := by decide +kernel
theorem dX7_mergeFrom_24 : decode cX7_mergeFrom 24 = .ok (.ifnonnull 4, 3) := by decide +kernel
theorem dX7_mergeFrom_27 : decode cX7_mergeFrom 27 = .ok (.return_, 1) := by decide +kernel
theorem dX7_mergeFrom_28 : decode cX7_mergeFrom 28 = .ok (.aload 4, 2) := by decide +kernel
theorem dX7_mergeFrom_30 : decode cX7_mergeFrom 30 = .ok (.getfield 111, 3) := by decide +kernel
theorem dX7_mergeFrom_33 : decode cX7_mergeFrom 33 = .ok (.aload_n 2, 1) := by decide +kernel
theorem dX7_mergeFrom_34 : decode cX7_mergeFrom 34 = .ok (.getfield 111, 3) := by decide +kernel
theorem dX7_mergeFrom_37 : decode cX7_mergeFrom 37 = .ok (.if_icmp .ge 16, 3) := by decide +kernel
theorem dX7_mergeFrom_40 : decode cX7_mergeFrom 40 = .ok (.aload_n 0, 1) := by decide +kernel
theorem dX7_mergeFrom_41 : decode cX7_mergeFrom 41 = .ok (.aload 4, 2) := by decide +kernel
theorem dX7_mergeFrom_43 : decode cX7_mergeFrom 43 = .ok (.aload_n 2, 1) := by decide +kernel
theorem dX7_mergeFrom_44 : decode cX7_mergeFrom 44 = .ok (.invokevirtual 333, 3) := by decide +kernel
theorem dX7_mergeFrom_47 : decode cX7_mergeFrom 47 = .ok (.aload 4, 2) := by decide +kernel
theorem dX7_mergeFrom_49 : decode cX7_mergeFrom 49 = .ok (.astore_n 2, 1) := by decide +kernel
theorem dX7_mergeFrom_50 : decode cX7_mergeFrom 50 = .ok (.goto 10, 3) := by decide +kernel
theorem dX7_mergeFrom_53 : decode cX7_mergeFrom 53 = .ok (.aload_n 0, 1) := by decide +kernel
theorem dX7_mergeFrom_54 : decode cX7_mergeFrom 54 = .ok (.aload_n 2, 1) := by decide +kernel
theorem dX7_mergeFrom_55 : decode cX7_mergeFrom 55 = .ok (.aload 4, 2) := by decide +kernel
theorem dX7_mergeFrom_57 : decode cX7_mergeFrom 57 = .ok (.invokevirtual 333, 3) := by decide +kernel
theorem dX7_mergeFrom_60 : decode cX7_mergeFrom 60 = .ok (.iinc 3 1, 3) := by decide +kernel
theorem dX7_mergeFrom_63 : decode cX7_mergeFrom 63 = .ok (.goto (-59), 3) := by decide +kernel
theorem dX7_mergeFrom_66 : decode cX7_mergeFrom 66 = .ok (.return_, 1) := by decide +kernel
set_option maxRecDepth 20000 in
theorem ggX7_partnerOf_Jx4a65c_size_8abf5 : GoodIn wsX7_partnerOf wsJx4a65c_size_8abf5 := goodIn_r _ [7, 8, 48, 49, 50] (by decide +kernel) (by decide +kernel)
set_option maxRecDepth 20000 in
theorem gX7_partnerOf_Jx4a65c_size_8abf5 : GoodIn wsX7_partnerOf (wsV RX7 53 RJx4a65c yJx4a65c_size_8abf5 wsJx4a65c_size_8abf5) := goodIn_app (goodIn_of _ (by decide +kernel)) ggX7_partnerOf_Jx4a65c_size_8abf5
set_option maxRecDepth 20000 in
theorem ggX7_partnerOf_Jx4a65c_get_915e3 : GoodIn wsX7_partnerOf wsJx4a65c_get_915e3 := goodIn_r _ [12, 8, 13, 14, 15, 16, 17, 18, 19, 20, 21, 22, 23, 6, 24, 25, 48, 49, 50] (by decide +kernel) (by decide +kernel)
set_option maxRecDepth 20000 in
theorem gX7_partnerOf_Jx4a65c_get_915e3 : GoodIn wsX7_partnerOf (wsV RX7 120 RJx4a65c yJx4a65c_get_915e3 wsJx4a65c_get_915e3) := goodIn_app (goodIn_of _ (by decide +kernel)) ggX7_partnerOf_Jx4a65c_get_915e3
set_option maxRecDepth 20000 in
theorem ggX7_partnerOf_X6_differences : GoodIn wsX7_partnerOf wsX6_differences := goodIn_r _ [29, 30, 31, 32, 27, 33, 34, 35, 36, 51, 52, 53] (by decide +kernel) (by decide +kernel)
set_option maxRecDepth 20000 in
theorem gX7_partnerOf_X6_differences_n337 : GoodIn wsX7_partnerOf (wsX6_differences) := ggX7_partnerOf_X6_differences
theorem dX7_partnerOf_0 : decode cX7_partnerOf 0 = .ok (.iconst 0, 1) := by decide +kernel
theorem dX7_partnerOf_1 : decode cX7_partnerOf 1 = .ok (.istore_n 2, 1) := by decide +kernel
theorem dX7_partnerOf_2 : decode cX7_partnerOf 2 = .ok (.iload_n 2, 1) := by decide +kernel
theorem dX7_partnerOf_3 : decode cX7_partnerOf 3 = .ok (.aload_n 0, 1) := by decide +kernel
theorem dX7_partnerOf_4 : decode cX7_partnerOf 4 = .ok (.getfield 16, 3) := by decide +kernel
theorem dX7_partnerOf_7 : decode cX7_partnerOf 7 = .ok (.invokevirtual 53, 3) := by decide +kernel
theorem dX7_partnerOf_10 : decode cX7_partnerOf 10 = .ok (.if_icmp .ge 56, 3) := by decide +kernel
theorem dX7_partnerOf_13 : decode cX7_partnerOf 13 = .ok (.aload_n 0, 1) := by decide +kernel
theorem dX7_partnerOf_14 : decode cX7_partnerOf 14 = .ok (.getfield 16, 3) := by decide +kernel
theorem dX7_partnerOf_17 : decode cX7_partnerOf 17 = .ok (.iload_n 2, 1) := by decide +kernel
theorem dX7_partnerOf_18 : decode cX7_partnerOf 18 = .ok (.invokevirtual 120, 3) := by decide +kernel
theorem dX7_partnerOf_21 : decode cX7_partnerOf 21 = .ok (.checkcast 112, 3) := by decide +kernel
theorem dX7_partnerOf_24 : decode cX7_partnerOf 24 = .ok (.astore_n 3, 1) := by decide +kernel
theorem dX7_partnerOf_25 : decode cX7_partnerOf 25 = .ok (.aload_n 3, 1) := by decide +kernel
theorem dX7_partnerOf_26 : decode cX7_partnerOf 26 = .ok (.getfield 127, 3) := by decide +kernel
theorem dX7_partnerOf_29 : decode cX7_partnerOf 29 = .ok (.ifCond .ne 31, 3) := by decide +kernel
theorem dX7_partnerOf_32 : decode cX7_partnerOf 32 = .ok (.aload_n 3, 1) := by decide +kernel
theorem dX7_partnerOf_33 : decode cX7_partnerOf 33 = .ok (.getfield 124, 3) := by decide +kernel
theorem dX7_partnerOf_36 : decode cX7_partnerOf 36 = .ok (.aload_n 1, 1) := by decide +kernel
theorem dX7_partnerOf_37 : decode cX7_partnerOf 37 = .ok (.getfield 124, 3) := by decide +kernel
theorem dX7_partnerOf_40 : decode cX7_partnerOf 40 = .ok (.if_icmp .ne 20, 3) := by decide +kernel
theorem dX7_partnerOf_43 : decode cX7_partnerOf 43 = .ok (.aload_n 3, 1) := by decide +kernel
theorem dX7_partnerOf_44 : decode cX7_partnerOf 44 = .ok (.getfield 138, 3) := by decide +kernel
theorem dX7_partnerOf_47 : decode cX7_partnerOf 47 = .ok (.aload_n 1, 1) := by decide +kernel
theorem dX7_partnerOf_48 : decode cX7_partnerOf 48 = .ok (.getfield 138, 3) := by decide +kernel
theorem dX7_partnerOf_51 : decode cX7_partnerOf 51 = .ok (.invokevirtual 337, 3) := by decide +kernel
theorem dX7_partnerOf_54 : decode cX7_partnerOf 54 = .ok (.iconst 1, 1) := by decide +kernel
theorem dX7_partnerOf_55 : decode cX7_partnerOf 55 = .ok (.if_icmp .ne 5, 3) := by decide +kernel
theorem dX7_partnerOf_58 : decode cX7_partnerOf 58 = .ok (.aload_n 3, 1) := by decide +kernel
theorem dX7_partnerOf_59 : decode cX7_partnerOf 59 = .ok (.areturn, 1) := by decide +kernel
theorem dX7_partnerOf_60 : decode cX7_partnerOf 60 = .ok (.iinc 2 1, 3) := by decide +kernel
theorem dX7_partnerOf_63 : decode cX7_partnerOf 63 = .ok (.goto (-61), 3) := by decide +kernel
theorem dX7_partnerOf_66 : decode cX7_partnerOf 66 = .ok (.aconst_null, 1) := by decide +kernel
theorem dX7_partnerOf_67 : decode cX7_partnerOf 67 = .ok (.areturn, 1) := by decide +kernel
set_option maxRecDepth 20000 in
theorem ggX7_merge_X6_at : GoodIn wsX7_merge wsX6_at := goodIn_r _ [6, 7, 8, 9, 55, 56, 57] (by decide +kernel) (by decide +kernel)
set_option maxRecDepth 20000 in
theorem gX7_merge_X6_at_n142 : GoodIn wsX7_merge (wsX6_at) := ggX7_merge_X6_at
set_option maxRecDepth 20000 in
theorem ggX7_merge_X6_put : GoodIn wsX7_merge wsX6_put := goodIn_r _ [12, 7, 8, 9, 55, 56, 57] (by decide +kernel) (by decide +kernel)
set_option maxRecDepth 20000 in
theorem gX7_merge_X6_put_n341 : GoodIn wsX7_merge (wsX6_put) := ggX7_merge_X6_put
set_option maxRecDepth 20000 in
theorem ggX7_merge_Jx4a65c_size_8abf5 : GoodIn wsX7_merge wsJx4a65c_size_8abf5 := goodIn_r _ [17, 18, 58, 59, 60] (by decide +kernel) (by decide +kernel)
set_option maxRecDepth 20000 in
theorem gX7_merge_Jx4a65c_size_8abf5 : GoodIn wsX7_merge (wsV RX7 53 RJx4a65c yJx4a65c_size_8abf5 wsJx4a65c_size_8abf5) := goodIn_app (goodIn_of _ (by decide +kernel)) ggX7_merge_Jx4a65c_size_8abf5
set_option maxRecDepth 20000 in
theorem ggX7_merge_Jx4a65c_get_915e3 : GoodIn wsX7_merge wsJx4a65c_get_915e3 := goodIn_r _ [22, 18, 23, 24, 25, 26, 27, 28, 29, 30, 31, 32, 33, 16, 34, 35, 58, 59, 60] (by decide +kernel) (by decide +kernel)
set_option maxRecDepth 20000 in
theorem gX7_merge_Jx4a65c_get_915e3 : GoodIn wsX7_merge (wsV RX7 120 RJx4a65c yJx4a65c_get_915e3 wsJx4a65c_get_915e3) := goodIn_app (goodIn_of _ (by decide +kernel)) ggX7_merge_Jx4a65c_get_915e3
theorem dX7_merge_0 : decode cX7_merge 0 = .ok (.iconst 0, 1) := by decide +kernel
theorem dX7_merge_1 : decode cX7_merge 1 = .ok (.istore_n 3, 1) := by decide +kernel
theorem dX7_merge_2 : decode cX7_merge 2 = .ok (.iload_n 3, 1) := by decide +kernel
theorem dX7_merge_3 : decode cX7_merge 3 = .ok (.iconst 3, 1) := by decide +kernel
theorem dX7_merge_4 : decode cX7_merge 4 = .ok (.if_icmp .ge 37, 3) := by decide +kernel
theorem dX7_merge_7 : decode cX7_merge 7 = .ok (.aload_n 1, 1) := by decide +kernel
theorem dX7_merge_8 : decode cX7_merge 8 = .ok (.getfield 138, 3) := by decide +kernel
theorem dX7_merge_11 : decode cX7_merge 11 = .ok (.iload_n 3, 1) := by decide +kernel
theorem dX7_merge_12 : decode cX7_merge 12 = .ok (.invokevirtual 142, 3) := by decide +kernel
theorem dX7_merge_15 : decode cX7_merge 15 = .ok (.aload_n 2, 1) := by decide +kernel
theorem dX7_merge_16 : decode cX7_merge 16 = .ok (.getfield 138, 3) := by decide +kernel
theorem dX7_merge_19 : decode cX7_merge 19 = .ok (.iload_n 3, 1) := by decide +kernel
theorem dX7_merge_20 : decode cX7_merge 20 = .ok (.invokevirtual 142, 3) := by decide +kernel
theorem dX7_merge_23 : decode cX7_merge 23 = .ok (.if_icmp .eq 12, 3) := by decide +kernel
theorem dX7_merge_26 : decode cX7_merge 26 = .ok (.aload_n 1, 1) := by decide +kernel
theorem dX7_merge_27 : decode cX7_merge 27 = .ok (.getfield 138, 3) := by decide +kernel
theorem dX7_merge_30 : decode cX7_merge 30 = .ok (.iload_n 3, 1) := by decide +kernel
theorem dX7_merge_31 : decode cX7_merge 31 = .ok (.iconst (-1), 1) := by decide +kernel
theorem dX7_merge_32 : decode cX7_merge 32 = .ok (.invokevirtual 341, 3) := by decide +kernel
theorem dX7_merge_35 : decode cX7_merge 35 = .ok (.iinc 3 1, 3) := by decide +kernel
theorem dX7_merge_38 : decode cX7_merge 38 = .ok (.goto (-36), 3) := by decide +kernel
theorem dX7_merge_41 : decode cX7_merge 41 = .ok (.aload_n 2, 1) := by decide +kernel
theorem dX7_merge_42 : decode cX7_merge 42 = .ok (.iconst 1, 1) := by decide +kernel
theorem dX7_merge_43 : decode cX7_merge 43 = .ok (.putfield 127, 3) := by decide +kernel
theorem dX7_merge_46 : decode cX7_merge 46 = .ok (.iconst 0, 1) := by decide +kernel
theorem dX7_merge_47 : decode cX7_merge 47 = .ok (.istore_n 3, 1) := by decide +kernel
theorem dX7_merge_48 : decode cX7_merge 48 = .ok (.iload_n 3, 1) := by decide +kernel
theorem dX7_merge_49 : decode cX7_merge 49 = .ok (.aload_n 0, 1) := by decide +kernel
theorem dX7_merge_50 : decode cX7_merge 50 = .ok (.getfield 10, 3) := by decide +kernel
theorem dX7_merge_53 : decode cX7_merge 53 = .ok (.invokevirtual 53, 3) := by decide +kernel
theorem dX7_merge_56 : decode cX7_merge 56 = .ok (.if_icmp .ge 37, 3) := by decide +kernel
theorem dX7_merge_59 : decode cX7_merge 59 = .ok (.aload_n 0, 1) := by decide +kernel
theorem dX7_merge_60 : decode cX7_merge 60 = .ok (.getfield 10, 3) := by decide +kernel
theorem dX7_merge_63 : decode cX7_merge 63 = .ok (.iload_n 3, 1) := by decide +kernel
theorem dX7_merge_64 : decode cX7_merge 64 = .ok (.invokevirtual 120, 3) := by decide +kernel
theorem dX7_merge_67 : decode cX7_merge 67 = .ok (.checkcast 74, 3) := by decide +kernel
theorem dX7_merge_70 : decode cX7_merge 70 = .ok (.astore 4, 2) := by decide +kernel
theorem dX7_merge_72 : decode cX7_merge 72 = .ok (.aload 4, 2) := by decide +kernel
theorem dX7_merge_74 : decode cX7_merge 74 = .ok (.getfield 107, 3) := by decide +kernel
theorem dX7_merge_77 : decode cX7_merge 77 = .ok (.aload_n 2, 1) := by decide +kernel
theorem dX7_merge_78 : decode cX7_merge 78 = .ok (.if_acmp .ne 9, 3) := by decide +kernel
theorem dX7_merge_81 : decode cX7_merge 81 = .ok (.aload 4, 2) := by decide +kernel
theorem dX7_merge_83 : decode cX7_merge 83 = .ok (.aload_n 1, 1) := by decide +kernel
theorem dX7_merge_84 : decode cX7_merge 84 = .ok (.putfield 107, 3) := by decide +kernel
theorem dX7_merge_87 : decode cX7_merge 87 = .ok (.iinc 3 1, 3) := by decide +kernel
theorem dX7_merge_90 : decode cX7_merge 90 = .ok (.goto (-42), 3) := by decide +kernel
theorem dX7_merge_93 : decode cX7_merge 93 = .ok (.return_, 1) := by decide +kernel
set_option maxRecDepth 20000 in
theorem ggX7_countFromAllLines_Jx4a65c_size_8abf5 : GoodIn wsX7_countFromAllLines wsJx4a65c_size_8abf5 := goodIn_r _ [8, 9, 60, 61, 62] (by decide +kernel) (by decide +kernel)
set_option maxRecDepth 20000 in
theorem gX7_countFromAllLines_Jx4a65c_size_8abf5 : GoodIn wsX7_countFromAllLines (wsV RX7 53 RJx4a65c yJx4a65c_size_8abf5 wsJx4a65c_size_8abf5) := goodIn_app (goodIn_of _ (by decide +kernel)) ggX7_countFromAllLines_Jx4a65c_size_8abf5
set_option maxRecDepth 20000 in
theorem ggX7_countFromAllLines_Jx4a65c_get_915e3 : GoodIn wsX7_countFromAllLines wsJx4a65c_get_915e3 := goodIn_r _ [13, 9, 14, 15, 16, 17, 18, 19, 20, 21, 22, 23, 24, 7, 25, 26, 60, 61, 62] (by decide +kernel) (by decide +kernel)
set_option maxRecDepth 20000 in
theorem gX7_countFromAllLines_Jx4a65c_get_915e3 : GoodIn wsX7_countFromAllLines (wsV RX7 120 RJx4a65c yJx4a65c_get_915e3 wsJx4a65c_get_915e3) := goodIn_app (goodIn_of _ (by decide +kernel)) ggX7_countFromAllLines_Jx4a65c_get_915e3
set_option maxRecDepth 20000 in
theorem ggX7_countFromAllLines_X0_counts : GoodIn wsX7_countFromAllLines wsX0_counts := goodIn_r _ [30, 31, 32, 33, 34, 35, 36, 37, 38, 39, 40, 41, 42, 43, 44, 45, 46, 47, 48, 49, 50, 51, 52, 63, 64, 65, 66, 67, 68, 69, 70, 71, 72, 73, 74, 75, 76, 77, 78, 79, 80, 81, 82, 83, 84, 85, 86] (by decide +kernel) (by decide +kernel)
set_option maxRecDepth 20000 in
theorem gX7_countFromAllLines_X0_counts_n345 : GoodIn wsX7_countFromAllLines (wsX0_counts) := ggX7_countFromAllLines_X0_counts
theorem dX7_countFromAllLines_0 : decode cX7_countFromAllLines 0 = .ok (.iconst 0, 1) := by decide +kernel
theorem dX7_countFromAllLines_1 : decode cX7_countFromAllLines 1 = .ok (.istore_n 2, 1) := by decide +kernel
theorem dX7_countFromAllLines_2 : decode cX7_countFromAllLines 2 = .ok (.iconst 0, 1) := by decide +kernel
theorem dX7_countFromAllLines_3 : decode cX7_countFromAllLines 3 = .ok (.istore_n 3, 1) := by decide +kernel
theorem dX7_countFromAllLines_4 : decode cX7_countFromAllLines 4 = .ok (.iload_n 3, 1) := by decide +kernel
theorem dX7_countFromAllLines_5 : decode cX7_countFromAllLines 5 = .ok (.aload_n 0, 1) := by decide +kernel
theorem dX7_countFromAllLines_6 : decode cX7_countFromAllLines 6 = .ok (.getfield 10, 3) := by decide +kernel
theorem dX7_countFromAllLines_9 : decode cX7_countFromAllLines 9 = .ok (.invokevirtual 53, 3) := by decide +kernel
theorem dX7_countFromAllLines_12 : decode cX7_countFromAllLines 12 = .ok (.if_icmp .ge 34, 3) := by decide +kernel
theorem dX7_countFromAllLines_15 : decode cX7_countFromAllLines 15 = .ok (.aload_n 1, 1) := by decide +kernel
theorem dX7_countFromAllLines_16 : decode cX7_countFromAllLines 16 = .ok (.aload_n 0, 1) := by decide +kernel
theorem dX7_countFromAllLines_17 : decode cX7_countFromAllLines 17 = .ok (.getfield 10, 3) := by decide +kernel
theorem dX7_countFromAllLines_20 : decode cX7_countFromAllLines 20 = .ok (.iload_n 3, 1) := by decide +kernel
theorem dX7_countFromAllLines_21 : decode cX7_countFromAllLines 21 = .ok (.invokevirtual 120, 3) := by decide +kernel
theorem dX7_countFromAllLines_24 : decode cX7_countFromAllLines 24 = .ok (.checkcast 74, 3) := by decide +kernel
theorem dX7_countFromAllLines_27 : decode cX7_countFromAllLines 27 = .ok (.aload_n 0, 1) := by decide +kernel
theorem dX7_countFromAllLines_28 : decode cX7_countFromAllLines 28 = .ok (.getfield 76, 3) := by decide +kernel
theorem dX7_countFromAllLines_31 : decode cX7_countFromAllLines 31 = .ok (.invokevirtual 345, 3) := by decide +kernel
theorem dX7_countFromAllLines_34 : decode cX7_countFromAllLines 34 = .ok (.ifCond .eq 6, 3) := by decide +kernel
theorem dX7_countFromAllLines_37 : decode cX7_countFromAllLines 37 = .ok (.iinc 2 1, 3) := by decide +kernel
theorem dX7_countFromAllLines_40 : decode cX7_countFromAllLines 40 = .ok (.iinc 3 1, 3) := by decide +kernel
theorem dX7_countFromAllLines_43 : decode cX7_countFromAllLines 43 = .ok (.goto (-39), 3) := by decide +kernel
theorem dX7_countFromAllLines_46 : decode cX7_countFromAllLines 46 = .ok (.iload_n 2, 1) := by decide +kernel
theorem dX7_countFromAllLines_47 : decode cX7_countFromAllLines 47 = .ok (.ireturn, 1) := by decide +kernel
set_option maxRecDepth 20000 in
theorem ggX7_showToAlerts_Jx4a65c_size_8abf5 : GoodIn wsX7_showToAlerts wsJx4a65c_size_8abf5 := goodIn_r _ [7, 8, 149, 150, 151] (by decide +kernel) (by decide +kernel)
set_option maxRecDepth 20000 in
theorem gX7_showToAlerts_Jx4a65c_size_8abf5 : GoodIn wsX7_showToAlerts (wsV RX7 53 RJx4a65c yJx4a65c_size_8abf5 wsJx4a65c_size_8abf5) := goodIn_app (goodIn_of _ (by decide +kernel)) ggX7_showToAlerts_Jx4a65c_size_8abf5
set_option maxRecDepth 20000 in
theorem ggX7_showToAlerts_Jx4a65c_get_915e3 : GoodIn wsX7_showToAlerts wsJx4a65c_get_915e3 := goodIn_r _ [12, 8, 13, 14, 15, 16, 17, 18, 19, 20, 21, 22, 23, 6, 24, 25, 149, 150, 151] (by decide +kernel) (by decide +kernel)
set_option maxRecDepth 20000 in
theorem gX7_showToAlerts_Jx4a65c_get_915e3 : GoodIn wsX7_showToAlerts (wsV RX7 120 RJx4a65c yJx4a65c_get_915e3 wsJx4a65c_get_915e3) := goodIn_app (goodIn_of _ (by decide +kernel)) ggX7_showToAlerts_Jx4a65c_get_915e3
set_option maxRecDepth 20000 in
theorem ggX7_showToAlerts_X7_countIfDue : GoodIn wsX7_showToAlerts wsX7_countIfDue := goodIn_r _ [30, 31, 32, 33, 34, 35, 36, 37, 38, 39, 40, 41, 42, 43, 44, 45, 46, 47, 48, 49, 50, 51, 52, 53, 54, 55, 56, 57, 142, 143, 144, 145, 146, 147, 148, 152, 153, 154, 155, 156, 157, 158, 159, 160, 161, 162, 163, 164, 165, 166, 167, 168, 169, 170, 171, 172, 173, 174, 175] (by decide +kernel) (by decide +kernel)
set_option maxRecDepth 20000 in
theorem gX7_showToAlerts_X7_countIfDue : GoodIn wsX7_showToAlerts (wsV RX7 200 RX7 yX7_countIfDue wsX7_countIfDue) := goodIn_app (goodIn_of _ (by decide +kernel)) ggX7_showToAlerts_X7_countIfDue
set_option maxRecDepth 20000 in
theorem ggX7_showToAlerts_X7_lookAtAlert : GoodIn wsX7_showToAlerts wsX7_lookAtAlert := goodIn_ca (goodIn_r _ [61, 62, 63, 64, 31, 65, 66, 67, 68, 69, 70, 71, 72, 73, 74, 75, 76, 77, 6, 78, 79, 80, 25, 8, 81, 82, 83, 84, 85, 86, 87, 88, 89, 90, 91, 92, 93, 94, 95, 96, 97, 98, 99, 100, 101, 102, 103, 104, 105, 106, 107, 108, 109, 110, 111, 112, 113, 114, 115, 116, 117, 118, 119, 120, 121, 122, 123, 124, 125, 126, 127, 128, 129, 130, 29, 131, 132, 133, 3, 4, 5, 7, 9, 10, 11, 12, 13, 14, 15, 16, 17, 18, 19, 20, 21, 22, 23, 24, 38, 39, 40, 41, 42, 32, 33, 34, 35, 36, 37, 43, 44, 45, 46, 47, 48, 49, 50, 51, 52, 53, 54, 55, 56, 57, 134, 135, 136, 137, 138, 139, 140, 141, 152, 153, 154, 155, 156, 157, 158, 159, 160, 176, 177, 178, 179, 180, 142, 143, 144, 145, 146, 147, 148, 149, 150, 151, 161, 162, 163, 164, 165, 166, 167, 168, 169, 170, 171, 172, 173, 174, 175] (by decide +kernel) (by decide +kernel)) (goodIn_sub (fun _ h => List.mem_cons_of_mem _ (List.mem_append_right _ h)) (by decide +kernel))
set_option maxRecDepth 20000 in
theorem gX7_showToAlerts_X7_lookAtAlert : GoodIn wsX7_showToAlerts (wsV RX7 204 RX7 yX7_lookAtAlert wsX7_lookAtAlert) := goodIn_app (goodIn_of _ (by decide +kernel)) ggX7_showToAlerts_X7_lookAtAlert
theorem dX7_showToAlerts_0 : decode cX7_showToAlerts 0 = .ok (.iconst 0, 1) := by decide +kernel
theorem dX7_showToAlerts_1 : decode cX7_showToAlerts 1 = .ok (.istore_n 2, 1) := by decide +kernel
theorem dX7_showToAlerts_2 : decode cX7_showToAlerts 2 = .ok (.iload_n 2, 1) := by decide +kernel
theorem dX7_showToAlerts_3 : decode cX7_showToAlerts 3 = .ok (.aload_n 0, 1) := by decide +kernel
theorem dX7_showToAlerts_4 : decode cX7_showToAlerts 4 = .ok (.getfield 19, 3) := by decide +kernel
theorem dX7_showToAlerts_7 : decode cX7_showToAlerts 7 = .ok (.invokevirtual 53, 3) := by decide +kernel
theorem dX7_showToAlerts_10 : decode cX7_showToAlerts 10 = .ok (.if_icmp .ge 32, 3) := by decide +kernel
theorem dX7_showToAlerts_13 : decode cX7_showToAlerts 13 = .ok (.aload_n 0, 1) := by decide +kernel
theorem dX7_showToAlerts_14 : decode cX7_showToAlerts 14 = .ok (.getfield 19, 3) := by decide +kernel
theorem dX7_showToAlerts_17 : decode cX7_showToAlerts 17 = .ok (.iload_n 2, 1) := by decide +kernel
theorem dX7_showToAlerts_18 : decode cX7_showToAlerts 18 = .ok (.invokevirtual 120, 3) := by decide +kernel
theorem dX7_showToAlerts_21 : decode cX7_showToAlerts 21 = .ok (.checkcast 195, 3) := by decide +kernel
theorem dX7_showToAlerts_24 : decode cX7_showToAlerts 24 = .ok (.astore_n 3, 1) := by decide +kernel
theorem dX7_showToAlerts_25 : decode cX7_showToAlerts 25 = .ok (.aload_n 0, 1) := by decide +kernel
theorem dX7_showToAlerts_26 : decode cX7_showToAlerts 26 = .ok (.aload_n 3, 1) := by decide +kernel
theorem dX7_showToAlerts_27 : decode cX7_showToAlerts 27 = .ok (.aload_n 1, 1) := by decide +kernel
theorem dX7_showToAlerts_28 : decode cX7_showToAlerts 28 = .ok (.invokevirtual 200, 3) := by decide +kernel
theorem dX7_showToAlerts_31 : decode cX7_showToAlerts 31 = .ok (.aload_n 0, 1) := by decide +kernel
theorem dX7_showToAlerts_32 : decode cX7_showToAlerts 32 = .ok (.aload_n 3, 1) := by decide +kernel
theorem dX7_showToAlerts_33 : decode cX7_showToAlerts 33 = .ok (.invokevirtual 204, 3) := by decide +kernel
theorem dX7_showToAlerts_36 : decode cX7_showToAlerts 36 = .ok (.iinc 2 1, 3) := by decide +kernel
theorem dX7_showToAlerts_39 : decode cX7_showToAlerts 39 = .ok (.goto (-37), 3) := by decide +kernel
theorem dX7_showToAlerts_42 : decode cX7_showToAlerts 42 = .ok (.return_, 1) := by decide +kernel
set_option maxRecDepth 20000 in
theorem ggX7_countIfDue_X0_counts : GoodIn wsX7_countIfDue wsX0_counts := goodIn_r _ [5, 6, 7, 8, 9, 10, 11, 12, 13, 14, 15, 16, 17, 18, 19, 20, 21, 22, 23, 24, 25, 26, 27, 44, 45, 46, 47, 48, 49, 50, 51, 35, 36, 37, 38, 39, 40, 41, 42, 43, 52, 53, 54, 55, 56, 57, 58] (by decide +kernel) (by decide +kernel)
set_option maxRecDepth 20000 in
theorem gX7_countIfDue_X0_counts_n345 : GoodIn wsX7_countIfDue (wsX0_counts) := ggX7_countIfDue_X0_counts
theorem dX7_countIfDue_0 : decode cX7_countIfDue 0 = .ok (.aload_n 1, 1) := by decide +kernel
theorem dX7_countIfDue_1 : decode cX7_countIfDue 1 = .ok (.aload_n 2, 1) := by decide +kernel
theorem dX7_countIfDue_2 : decode cX7_countIfDue 2 = .ok (.aload_n 0, 1) := by decide +kernel
theorem dX7_countIfDue_3 : decode cX7_countIfDue 3 = .ok (.getfield 76, 3) := by decide +kernel
theorem dX7_countIfDue_6 : decode cX7_countIfDue 6 = .ok (.invokevirtual 345, 3) := by decide +kernel
theorem dX7_countIfDue_9 : decode cX7_countIfDue 9 = .ok (.ifCond .eq 23, 3) := by decide +kernel
theorem dX7_countIfDue_12 : decode cX7_countIfDue 12 = .ok (.aload_n 1, 1) := by decide +kernel
theorem dX7_countIfDue_13 : decode cX7_countIfDue 13 = .ok (.dup, 1) := by decide +kernel
theorem dX7_countIfDue_14 : decode cX7_countIfDue 14 = .ok (.getfield 213, 3) := by decide +kernel
theorem dX7_countIfDue_17 : decode cX7_countIfDue 17 = .ok (.iconst 1, 1) := by decide +kernel
theorem dX7_countIfDue_18 : decode cX7_countIfDue 18 = .ok (.iadd, 1) := by decide +kernel
theorem dX7_countIfDue_19 : decode cX7_countIfDue 19 = .ok (.putfield 213, 3) := by decide +kernel
theorem dX7_countIfDue_22 : decode cX7_countIfDue 22 = .ok (.aload_n 2, 1) := by decide +kernel
theorem dX7_countIfDue_23 : decode cX7_countIfDue 23 = .ok (.dup, 1) := by decide +kernel
theorem dX7_countIfDue_24 : decode cX7_countIfDue 24 = .ok (.getfield 263, 3) := by decide +kernel
theorem dX7_countIfDue_27 : decode cX7_countIfDue 27 = .ok (.iconst 1, 1) := by decide +kernel
theorem dX7_countIfDue_28 : decode cX7_countIfDue 28 = .ok (.iadd, 1) := by decide +kernel
theorem dX7_countIfDue_29 : decode cX7_countIfDue 29 = .ok (.putfield 263, 3) := by decide +kernel
theorem dX7_countIfDue_32 : decode cX7_countIfDue 32 = .ok (.return_, 1) := by decide +kernel
set_option maxRecDepth 20000 in
theorem ggX7_lookAtAlert_X2_init : GoodIn wsX7_lookAtAlert wsX2_init := goodIn_r _ [7, 8, 9, 10, 11, 12, 13, 14, 141, 142, 143, 144, 145] (by decide +kernel) (by decide +kernel)
set_option maxRecDepth 20000 in
theorem gX7_lookAtAlert_X2_init_n352 : GoodIn wsX7_lookAtAlert (wsX2_init) := ggX7_lookAtAlert_X2_init
set_option maxRecDepth 20000 in
theorem ggX7_lookAtAlert_Jx4a65c_add_9ea2d : GoodIn wsX7_lookAtAlert wsJx4a65c_add_9ea2d := goodIn_r _ [19, 20, 21, 22, 23, 24, 25, 26, 18, 27, 28, 29, 30, 31, 32, 33, 34, 35, 36, 37, 38, 39, 40, 41, 42, 43, 44, 45, 46, 47, 48, 49, 50, 51, 52, 53, 54, 55, 56, 57, 58, 59, 60, 61, 62, 63, 64, 65, 66, 67, 68, 69, 70, 153, 154, 155] (by decide +kernel) (by decide +kernel)
set_option maxRecDepth 20000 in
theorem gX7_lookAtAlert_Jx4a65c_add_9ea2d : GoodIn wsX7_lookAtAlert (wsV RX7 83 RJx4a65c yJx4a65c_add_9ea2d wsJx4a65c_add_9ea2d) := goodIn_app (goodIn_of _ (by decide +kernel)) ggX7_lookAtAlert_Jx4a65c_add_9ea2d
set_option maxRecDepth 20000 in
theorem ggX7_lookAtAlert_X7_standOnCounted : GoodIn wsX7_lookAtAlert wsX7_standOnCounted := goodIn_ca (goodIn_r _ [75, 76, 77, 4, 78, 79, 80, 18, 81, 23, 82, 83, 84, 85, 86, 87, 88, 89, 90, 91, 92, 93, 94, 95, 96, 97, 22, 98, 99, 100, 101, 102, 103, 104, 105, 106, 107, 108, 109, 110, 111, 112, 113, 114, 115, 116, 117, 118, 119, 120, 121, 122, 123, 124, 3, 125, 126, 12, 127, 128, 129, 130, 131, 141, 142, 143, 144, 145, 146, 147, 148, 149, 150, 151, 152, 132, 133, 134, 135, 136, 137, 138, 139, 140, 156, 157, 158, 159, 160, 161, 162, 163, 153, 154, 155, 164, 165, 166, 167, 168, 169, 170] (by decide +kernel) (by decide +kernel)) (goodIn_sub (fun _ h => List.mem_cons_of_mem _ (List.mem_append_right _ h)) (by decide +kernel))
set_option maxRecDepth 20000 in
theorem gX7_lookAtAlert_X7_standOnCounted : GoodIn wsX7_lookAtAlert (wsV RX7 355 RX7 yX7_standOnCounted wsX7_standOnCounted) := goodIn_app (goodIn_of _ (by decide +kernel)) ggX7_lookAtAlert_X7_standOnCounted
theorem dX7_lookAtAlert_0 : decode cX7_lookAtAlert 0 = .ok (.aload_n 1, 1) := by decide +kernel
theorem dX7_lookAtAlert_1 : decode cX7_lookAtAlert 1 = .ok (.getfield 213, 3) := by decide +kernel
theorem dX7_lookAtAlert_4 : decode cX7_lookAtAlert 4 = .ok (.aload_n 1, 1) := by decide +kernel
theorem dX7_lookAtAlert_5 : decode cX7_lookAtAlert 5 = .ok (.getfield 349, 3) := by decide +kernel
theorem dX7_lookAtAlert_8 : decode cX7_lookAtAlert 8 = .ok (.if_icmp .lt 69, 3) := by decide +kernel
theorem dX7_lookAtAlert_11 : decode cX7_lookAtAlert 11 = .ok (.aload_n 1, 1) := by decide +kernel
theorem dX7_lookAtAlert_12 : decode cX7_lookAtAlert 12 = .ok (.getfield 212, 3) := by decide +kernel
theorem dX7_lookAtAlert_15 : decode cX7_lookAtAlert 15 = .ok (.bipush 113, 2) := by decide +kernel
theorem dX7_lookAtAlert_17 : decode cX7_lookAtAlert 17 = .ok (.if_icmp .eq 10, 3) := by decide +kernel
theorem dX7_lookAtAlert_20 : decode cX7_lookAtAlert 20 = .ok (.aload_n 1, 1) := by decide +kernel
theorem dX7_lookAtAlert_21 : decode cX7_lookAtAlert 21 = .ok (.getfield 247, 3) := by decide +kernel
theorem dX7_lookAtAlert_24 : decode cX7_lookAtAlert 24 = .ok (.ifnonnull 31, 3) := by decide +kernel
theorem dX7_lookAtAlert_27 : decode cX7_lookAtAlert 27 = .ok (.aload_n 1, 1) := by decide +kernel
theorem dX7_lookAtAlert_28 : decode cX7_lookAtAlert 28 = .ok (.new 228, 3) := by decide +kernel
theorem dX7_lookAtAlert_31 : decode cX7_lookAtAlert 31 = .ok (.dup, 1) := by decide +kernel
theorem dX7_lookAtAlert_32 : decode cX7_lookAtAlert 32 = .ok (.aload_n 1, 1) := by decide +kernel
theorem dX7_lookAtAlert_33 : decode cX7_lookAtAlert 33 = .ok (.aload_n 0, 1) := by decide +kernel
theorem dX7_lookAtAlert_34 : decode cX7_lookAtAlert 34 = .ok (.getfield 76, 3) := by decide +kernel
theorem dX7_lookAtAlert_37 : decode cX7_lookAtAlert 37 = .ok (.invokespecial 352, 3) := by decide +kernel
theorem dX7_lookAtAlert_40 : decode cX7_lookAtAlert 40 = .ok (.putfield 247, 3) := by decide +kernel
theorem dX7_lookAtAlert_43 : decode cX7_lookAtAlert 43 = .ok (.aload_n 0, 1) := by decide +kernel
theorem dX7_lookAtAlert_44 : decode cX7_lookAtAlert 44 = .ok (.getfield 22, 3) := by decide +kernel
theorem dX7_lookAtAlert_47 : decode cX7_lookAtAlert 47 = .ok (.aload_n 1, 1) := by decide +kernel
theorem dX7_lookAtAlert_48 : decode cX7_lookAtAlert 48 = .ok (.getfield 247, 3) := by decide +kernel
theorem dX7_lookAtAlert_51 : decode cX7_lookAtAlert 51 = .ok (.invokevirtual 83, 3) := by decide +kernel
theorem dX7_lookAtAlert_54 : decode cX7_lookAtAlert 54 = .ok (.pop, 1) := by decide +kernel
theorem dX7_lookAtAlert_55 : decode cX7_lookAtAlert 55 = .ok (.aload_n 1, 1) := by decide +kernel
theorem dX7_lookAtAlert_56 : decode cX7_lookAtAlert 56 = .ok (.bipush 102, 2) := by decide +kernel
theorem dX7_lookAtAlert_58 : decode cX7_lookAtAlert 58 = .ok (.putfield 212, 3) := by decide +kernel
theorem dX7_lookAtAlert_61 : decode cX7_lookAtAlert 61 = .ok (.aload_n 1, 1) := by decide +kernel
theorem dX7_lookAtAlert_62 : decode cX7_lookAtAlert 62 = .ok (.iconst 0, 1) := by decide +kernel
theorem dX7_lookAtAlert_63 : decode cX7_lookAtAlert 63 = .ok (.putfield 220, 3) := by decide +kernel
theorem dX7_lookAtAlert_66 : decode cX7_lookAtAlert 66 = .ok (.aload_n 0, 1) := by decide +kernel
theorem dX7_lookAtAlert_67 : decode cX7_lookAtAlert 67 = .ok (.aload_n 1, 1) := by decide +kernel
theorem dX7_lookAtAlert_68 : decode cX7_lookAtAlert 68 = .ok (.getfield 247, 3) := by decide +kernel
theorem dX7_lookAtAlert_71 : decode cX7_lookAtAlert 71 = .ok (.invokevirtual 355, 3) := by decide +kernel
theorem dX7_lookAtAlert_74 : decode cX7_lookAtAlert 74 = .ok (.goto 38, 3) := by decide +kernel
theorem dX7_lookAtAlert_77 : decode cX7_lookAtAlert 77 = .ok (.aload_n 1, 1) := by decide +kernel
theorem dX7_lookAtAlert_78 : decode cX7_lookAtAlert 78 = .ok (.getfield 212, 3) := by decide +kernel
theorem dX7_lookAtAlert_81 : decode cX7_lookAtAlert 81 = .ok (.bipush 102, 2) := by decide +kernel
theorem dX7_lookAtAlert_83 : decode cX7_lookAtAlert 83 = .ok (.if_icmp .ne 29, 3) := by decide +kernel
theorem dX7_lookAtAlert_86 : decode cX7_lookAtAlert 86 = .ok (.aload_n 1, 1) := by decide +kernel
theorem dX7_lookAtAlert_87 : decode cX7_lookAtAlert 87 = .ok (.aload_n 1, 1) := by decide +kernel
theorem dX7_lookAtAlert_88 : decode cX7_lookAtAlert 88 = .ok (.getfield 358, 3) := by decide +kernel
theorem dX7_lookAtAlert_91 : decode cX7_lookAtAlert 91 = .ok (.ifCond .le 8, 3) := by decide +kernel
theorem dX7_lookAtAlert_94 : decode cX7_lookAtAlert 94 = .ok (.bipush 104, 2) := by decide +kernel
theorem dX7_lookAtAlert_96 : decode cX7_lookAtAlert 96 = .ok (.goto 5, 3) := by decide +kernel
theorem dX7_lookAtAlert_99 : decode cX7_lookAtAlert 99 = .ok (.bipush 113, 2) := by decide +kernel
theorem dX7_lookAtAlert_101 : decode cX7_lookAtAlert 101 = .ok (.putfield 212, 3) := by decide +kernel
theorem dX7_lookAtAlert_104 : decode cX7_lookAtAlert 104 = .ok (.aload_n 1, 1) := by decide +kernel
theorem dX7_lookAtAlert_105 : decode cX7_lookAtAlert 105 = .ok (.aload_n 1, 1) := by decide +kernel
theorem dX7_lookAtAlert_106 : decode cX7_lookAtAlert 106 = .ok (.getfield 358, 3) := by decide +kernel
theorem dX7_lookAtAlert_109 : decode cX7_lookAtAlert 109 = .ok (.putfield 220, 3) := by decide +kernel
theorem dX7_lookAtAlert_112 : decode cX7_lookAtAlert 112 = .ok (.return_, 1) := by decide +kernel
set_option maxRecDepth 20000 in
theorem ggX7_standOnCounted_Jx4a65c_size_8abf5 : GoodIn wsX7_standOnCounted wsJx4a65c_size_8abf5 := goodIn_r _ [8, 9, 92, 93, 94] (by decide +kernel) (by decide +kernel)
set_option maxRecDepth 20000 in
theorem gX7_standOnCounted_Jx4a65c_size_8abf5 : GoodIn wsX7_standOnCounted (wsV RX7 53 RJx4a65c yJx4a65c_size_8abf5 wsJx4a65c_size_8abf5) := goodIn_app (goodIn_of _ (by decide +kernel)) ggX7_standOnCounted_Jx4a65c_size_8abf5
set_option maxRecDepth 20000 in
theorem ggX7_standOnCounted_Jx4a65c_get_915e3 : GoodIn wsX7_standOnCounted wsJx4a65c_get_915e3 := goodIn_r _ [13, 9, 14, 15, 16, 17, 18, 19, 20, 21, 22, 23, 24, 7, 25, 26, 92, 93, 94] (by decide +kernel) (by decide +kernel)
set_option maxRecDepth 20000 in
theorem gX7_standOnCounted_Jx4a65c_get_915e3 : GoodIn wsX7_standOnCounted (wsV RX7 120 RJx4a65c yJx4a65c_get_915e3 wsJx4a65c_get_915e3) := goodIn_app (goodIn_of _ (by decide +kernel)) ggX7_standOnCounted_Jx4a65c_get_915e3
set_option maxRecDepth 20000 in
theorem ggX7_standOnCounted_X3_cameWithin : GoodIn wsX7_standOnCounted wsX3_cameWithin := goodIn_r _ [30, 31, 84, 85, 86, 87, 88, 89, 90, 91] (by decide +kernel) (by decide +kernel)
set_option maxRecDepth 20000 in
theorem gX7_standOnCounted_X3_cameWithin_n364 : GoodIn wsX7_standOnCounted (wsX3_cameWithin) := ggX7_standOnCounted_X3_cameWithin
set_option maxRecDepth 20000 in
theorem ggX7_standOnCounted_X0_counts : GoodIn wsX7_standOnCounted wsX0_counts := goodIn_r _ [35, 36, 37, 27, 28, 29, 30, 31, 38, 39, 40, 41, 42, 43, 44, 45, 46, 47, 48, 49, 50, 51, 52, 84, 85, 86, 87, 88, 89, 90, 91, 75, 76, 77, 78, 79, 80, 81, 82, 83, 95, 96, 97, 98, 99, 100, 101] (by decide +kernel) (by decide +kernel)
set_option maxRecDepth 20000 in
theorem gX7_standOnCounted_X0_counts_n345 : GoodIn wsX7_standOnCounted (wsX0_counts) := ggX7_standOnCounted_X0_counts
set_option maxRecDepth 20000 in
theorem ggX7_standOnCounted_X2_hasLine : GoodIn wsX7_standOnCounted wsX2_hasLine := goodIn_ca (goodIn_r _ [56, 57, 63, 64, 65, 66, 67] (by decide +kernel) (by decide +kernel)) (goodIn_sub (fun _ h => List.mem_cons_of_mem _ (List.mem_append_right _ h)) (by decide +kernel))
set_option maxRecDepth 20000 in
theorem gX7_standOnCounted_X2_hasLine_n239 : GoodIn wsX7_standOnCounted (wsX2_hasLine) := ggX7_standOnCounted_X2_hasLine
set_option maxRecDepth 20000 in
theorem ggX7_standOnCounted_X2_putLine : GoodIn wsX7_standOnCounted wsX2_putLine := goodIn_ca (goodIn_r _ [60, 57, 61, 62, 53, 55, 54, 56, 63, 64, 65, 66, 67] (by decide +kernel) (by decide +kernel)) (goodIn_sub (fun _ h => List.mem_cons_of_mem _ (List.mem_append_right _ h)) (by decide +kernel))
set_option maxRecDepth 20000 in
theorem gX7_standOnCounted_X2_putLine_n368 : GoodIn wsX7_standOnCounted (wsX2_putLine) := ggX7_standOnCounted_X2_putLine
theorem dX7_standOnCounted_0 : decode cX7_standOnCounted 0 = .ok (.aload_n 1, 1) := by decide +kernel
theorem dX7_standOnCounted_1 : decode cX7_standOnCounted 1 = .ok (.getfield 227, 3) := by decide +kernel
theorem dX7_standOnCounted_4 : decode cX7_standOnCounted 4 = .ok (.astore_n 2, 1) := by decide +kernel
theorem dX7_standOnCounted_5 : decode cX7_standOnCounted 5 = .ok (.aload_n 0, 1) := by decide +kernel
theorem dX7_standOnCounted_6 : decode cX7_standOnCounted 6 = .ok (.getfield 10, 3) := by decide +kernel
theorem dX7_standOnCounted_9 : decode cX7_standOnCounted 9 = .ok (.invokevirtual 53, 3) := by decide +kernel
theorem dX7_standOnCounted_12 : decode cX7_standOnCounted 12 = .ok (.iconst 1, 1) := by decide +kernel
theorem dX7_standOnCounted_13 : decode cX7_standOnCounted 13 = .ok (.isub, 1) := by decide +kernel
theorem dX7_standOnCounted_14 : decode cX7_standOnCounted 14 = .ok (.istore_n 3, 1) := by decide +kernel
theorem dX7_standOnCounted_15 : decode cX7_standOnCounted 15 = .ok (.iload_n 3, 1) := by decide +kernel
theorem dX7_standOnCounted_16 : decode cX7_standOnCounted 16 = .ok (.ifCond .lt 76, 3) := by decide +kernel
theorem dX7_standOnCounted_19 : decode cX7_standOnCounted 19 = .ok (.aload_n 0, 1) := by decide +kernel
theorem dX7_standOnCounted_20 : decode cX7_standOnCounted 20 = .ok (.getfield 10, 3) := by decide +kernel
theorem dX7_standOnCounted_23 : decode cX7_standOnCounted 23 = .ok (.iload_n 3, 1) := by decide +kernel
theorem dX7_standOnCounted_24 : decode cX7_standOnCounted 24 = .ok (.invokevirtual 120, 3) := by decide +kernel
theorem dX7_standOnCounted_27 : decode cX7_standOnCounted 27 = .ok (.checkcast 74, 3) := by decide +kernel
theorem dX7_standOnCounted_30 : decode cX7_standOnCounted 30 = .ok (.astore 4, 2) := by decide +kernel
theorem dX7_standOnCounted_32 : decode cX7_standOnCounted 32 = .ok (.aload 4, 2) := by decide +kernel
theorem dX7_standOnCounted_34 : decode cX7_standOnCounted 34 = .ok (.aload_n 2, 1) := by decide +kernel
theorem dX7_standOnCounted_35 : decode cX7_standOnCounted 35 = .ok (.getfield 361, 3) := by decide +kernel
theorem dX7_standOnCounted_38 : decode cX7_standOnCounted 38 = .ok (.aload_n 0, 1) := by decide +kernel
theorem dX7_standOnCounted_39 : decode cX7_standOnCounted 39 = .ok (.getfield 76, 3) := by decide +kernel
theorem dX7_standOnCounted_42 : decode cX7_standOnCounted 42 = .ok (.invokevirtual 364, 3) := by decide +kernel
theorem dX7_standOnCounted_45 : decode cX7_standOnCounted 45 = .ok (.ifCond .ne 4, 3) := by decide +kernel
theorem dX7_standOnCounted_48 : decode cX7_standOnCounted 48 = .ok (.return_, 1) := by decide +kernel
theorem dX7_standOnCounted_49 : decode cX7_standOnCounted 49 = .ok (.aload_n 2, 1) := by decide +kernel
theorem dX7_standOnCounted_50 : decode cX7_standOnCounted 50 = .ok (.aload 4, 2) := by decide +kernel
theorem dX7_standOnCounted_52 : decode cX7_standOnCounted 52 = .ok (.aload_n 0, 1) := by decide +kernel
theorem dX7_standOnCounted_53 : decode cX7_standOnCounted 53 = .ok (.getfield 76, 3) := by decide +kernel
theorem dX7_standOnCounted_56 : decode cX7_standOnCounted 56 = .ok (.invokevirtual 345, 3) := by decide +kernel
theorem dX7_standOnCounted_59 : decode cX7_standOnCounted 59 = .ok (.ifCond .eq 27, 3) := by decide +kernel
theorem dX7_standOnCounted_62 : decode cX7_standOnCounted 62 = .ok (.aload_n 1, 1) := by decide +kernel
theorem dX7_standOnCounted_63 : decode cX7_standOnCounted 63 = .ok (.iload_n 3, 1) := by decide +kernel
theorem dX7_standOnCounted_64 : decode cX7_standOnCounted 64 = .ok (.invokevirtual 239, 3) := by decide +kernel
theorem dX7_standOnCounted_67 : decode cX7_standOnCounted 67 = .ok (.ifCond .ne 19, 3) := by decide +kernel
theorem dX7_standOnCounted_70 : decode cX7_standOnCounted 70 = .ok (.aload_n 1, 1) := by decide +kernel
theorem dX7_standOnCounted_71 : decode cX7_standOnCounted 71 = .ok (.iload_n 3, 1) := by decide +kernel
theorem dX7_standOnCounted_72 : decode cX7_standOnCounted 72 = .ok (.invokevirtual 368, 3) := by decide +kernel
theorem dX7_standOnCounted_75 : decode cX7_standOnCounted 75 = .ok (.aload 4, 2) := by decide +kernel
theorem dX7_standOnCounted_77 : decode cX7_standOnCounted 77 = .ok (.dup, 1) := by decide +kernel
theorem dX7_standOnCounted_78 : decode cX7_standOnCounted 78 = .ok (.getfield 263, 3) := by decide +kernel
theorem dX7_standOnCounted_81 : decode cX7_standOnCounted 81 = .ok (.iconst 1, 1) := by decide +kernel
theorem dX7_standOnCounted_82 : decode cX7_standOnCounted 82 = .ok (.iadd, 1) := by decide +kernel
theorem dX7_standOnCounted_83 : decode cX7_standOnCounted 83 = .ok (.putfield 263, 3) := by decide +kernel
theorem dX7_standOnCounted_86 : decode cX7_standOnCounted 86 = .ok (.iinc 3 (-1), 3) := by decide +kernel
theorem dX7_standOnCounted_89 : decode cX7_standOnCounted 89 = .ok (.goto (-74), 3) := by decide +kernel
theorem dX7_standOnCounted_92 : decode cX7_standOnCounted 92 = .ok (.return_, 1) := by decide +kernel
set_option maxRecDepth 20000 in
theorem ggX7_giveUpLines_Jx4a65c_size_8abf5 : GoodIn wsX7_giveUpLines wsJx4a65c_size_8abf5 := goodIn_r _ [7, 8, 50, 51, 52] (by decide +kernel) (by decide +kernel)
set_option maxRecDepth 20000 in
theorem gX7_giveUpLines_Jx4a65c_size_8abf5 : GoodIn wsX7_giveUpLines (wsV RX7 53 RJx4a65c yJx4a65c_size_8abf5 wsJx4a65c_size_8abf5) := goodIn_app (goodIn_of _ (by decide +kernel)) ggX7_giveUpLines_Jx4a65c_size_8abf5
set_option maxRecDepth 20000 in
theorem ggX7_giveUpLines_X2_hasLine : GoodIn wsX7_giveUpLines wsX2_hasLine := goodIn_ca (goodIn_r _ [12, 13, 53, 54, 55, 56, 57] (by decide +kernel) (by decide +kernel)) (goodIn_sub (fun _ h => List.mem_cons_of_mem _ (List.mem_append_right _ h)) (by decide +kernel))
set_option maxRecDepth 20000 in
theorem gX7_giveUpLines_X2_hasLine_n239 : GoodIn wsX7_giveUpLines (wsX2_hasLine) := ggX7_giveUpLines_X2_hasLine
set_option maxRecDepth 20000 in
theorem ggX7_giveUpLines_Jx4a65c_get_915e3 : GoodIn wsX7_giveUpLines wsJx4a65c_get_915e3 := goodIn_r _ [17, 8, 18, 19, 20, 21, 22, 23, 24, 25, 26, 27, 28, 6, 29, 30, 50, 51, 52] (by decide +kernel) (by decide +kernel)
set_option maxRecDepth 20000 in
theorem gX7_giveUpLines_Jx4a65c_get_915e3 : GoodIn wsX7_giveUpLines (wsV RX7 120 RJx4a65c yJx4a65c_get_915e3 wsJx4a65c_get_915e3) := goodIn_app (goodIn_of _ (by decide +kernel)) ggX7_giveUpLines_Jx4a65c_get_915e3
set_option maxRecDepth 20000 in
theorem ggX7_giveUpLines_X2_clearLines : GoodIn wsX7_giveUpLines wsX2_clearLines := goodIn_ca (goodIn_r _ [33, 13, 34, 53, 54, 55, 56, 57] (by decide +kernel) (by decide +kernel)) (goodIn_sub (fun _ h => List.mem_cons_of_mem _ (List.mem_append_right _ h)) (by decide +kernel))
set_option maxRecDepth 20000 in
theorem gX7_giveUpLines_X2_clearLines_n371 : GoodIn wsX7_giveUpLines (wsX2_clearLines) := ggX7_giveUpLines_X2_clearLines
theorem dX7_giveUpLines_0 : decode cX7_giveUpLines 0 = .ok (.iconst 0, 1) := by decide +kernel
theorem dX7_giveUpLines_1 : decode cX7_giveUpLines 1 = .ok (.istore_n 2, 1) := by decide +kernel
theorem dX7_giveUpLines_2 : decode cX7_giveUpLines 2 = .ok (.iload_n 2, 1) := by decide +kernel
theorem dX7_giveUpLines_3 : decode cX7_giveUpLines 3 = .ok (.aload_n 0, 1) := by decide +kernel
theorem dX7_giveUpLines_4 : decode cX7_giveUpLines 4 = .ok (.getfield 10, 3) := by decide +kernel
theorem dX7_giveUpLines_7 : decode cX7_giveUpLines 7 = .ok (.invokevirtual 53, 3) := by decide +kernel
theorem dX7_giveUpLines_10 : decode cX7_giveUpLines 10 = .ok (.if_icmp .ge 37, 3) := by decide +kernel
theorem dX7_giveUpLines_13 : decode cX7_giveUpLines 13 = .ok (.aload_n 1, 1) := by decide +kernel
theorem dX7_giveUpLines_14 : decode cX7_giveUpLines 14 = .ok (.iload_n 2, 1) := by decide +kernel
theorem dX7_giveUpLines_15 : decode cX7_giveUpLines 15 = .ok (.invokevirtual 239, 3) := by decide +kernel
theorem dX7_giveUpLines_18 : decode cX7_giveUpLines 18 = .ok (.ifCond .eq 23, 3) := by decide +kernel
theorem dX7_giveUpLines_21 : decode cX7_giveUpLines 21 = .ok (.aload_n 0, 1) := by decide +kernel
theorem dX7_giveUpLines_22 : decode cX7_giveUpLines 22 = .ok (.getfield 10, 3) := by decide +kernel
theorem dX7_giveUpLines_25 : decode cX7_giveUpLines 25 = .ok (.iload_n 2, 1) := by decide +kernel
theorem dX7_giveUpLines_26 : decode cX7_giveUpLines 26 = .ok (.invokevirtual 120, 3) := by decide +kernel
theorem dX7_giveUpLines_29 : decode cX7_giveUpLines 29 = .ok (.checkcast 74, 3) := by decide +kernel
theorem dX7_giveUpLines_32 : decode cX7_giveUpLines 32 = .ok (.dup, 1) := by decide +kernel
theorem dX7_giveUpLines_33 : decode cX7_giveUpLines 33 = .ok (.getfield 263, 3) := by decide +kernel
theorem dX7_giveUpLines_36 : decode cX7_giveUpLines 36 = .ok (.iconst 1, 1) := by decide +kernel
theorem dX7_giveUpLines_37 : decode cX7_giveUpLines 37 = .ok (.isub, 1) := by decide +kernel
theorem dX7_giveUpLines_38 : decode cX7_giveUpLines 38 = .ok (.putfield 263, 3) := by decide +kernel
theorem dX7_giveUpLines_41 : decode cX7_giveUpLines 41 = .ok (.iinc 2 1, 3) := by decide +kernel
theorem dX7_giveUpLines_44 : decode cX7_giveUpLines 44 = .ok (.goto (-42), 3) := by decide +kernel
theorem dX7_giveUpLines_47 : decode cX7_giveUpLines 47 = .ok (.aload_n 1, 1) := by decide +kernel
theorem dX7_giveUpLines_48 : decode cX7_giveUpLines 48 = .ok (.invokevirtual 371, 3) := by decide +kernel
theorem dX7_giveUpLines_51 : decode cX7_giveUpLines 51 = .ok (.return_, 1) := by decide +kernel
set_option maxRecDepth 20000 in
theorem ggX7_keptBytes_Jx4a65c_size_8abf5 : GoodIn wsX7_keptBytes wsJx4a65c_size_8abf5 := goodIn_r _ [7, 8, 41, 42, 43] (by decide +kernel) (by decide +kernel)
set_option maxRecDepth 20000 in
theorem gX7_keptBytes_Jx4a65c_size_8abf5 : GoodIn wsX7_keptBytes (wsV RX7 53 RJx4a65c yJx4a65c_size_8abf5 wsJx4a65c_size_8abf5) := goodIn_app (goodIn_of _ (by decide +kernel)) ggX7_keptBytes_Jx4a65c_size_8abf5
set_option maxRecDepth 20000 in
theorem ggX7_keptBytes_Jx4a65c_get_915e3 : GoodIn wsX7_keptBytes wsJx4a65c_get_915e3 := goodIn_r _ [12, 8, 13, 14, 15, 16, 17, 18, 19, 20, 21, 22, 23, 6, 24, 25, 41, 42, 43] (by decide +kernel) (by decide +kernel)
set_option maxRecDepth 20000 in
theorem gX7_keptBytes_Jx4a65c_get_915e3 : GoodIn wsX7_keptBytes (wsV RX7 120 RJx4a65c yJx4a65c_get_915e3 wsJx4a65c_get_915e3) := goodIn_app (goodIn_of _ (by decide +kernel)) ggX7_keptBytes_Jx4a65c_get_915e3
theorem dX7_keptBytes_0 : decode cX7_keptBytes 0 = .ok (.iconst 0, 1) := by decide +kernel
theorem dX7_keptBytes_1 : decode cX7_keptBytes 1 = .ok (.istore_n 2, 1) := by decide +kernel
theorem dX7_keptBytes_2 : decode cX7_keptBytes 2 = .ok (.iconst 0, 1) := by decide +kernel
theorem dX7_keptBytes_3 : decode cX7_keptBytes 3 = .ok (.istore_n 3, 1) := by decide +kernel
theorem dX7_keptBytes_4 : decode cX7_keptBytes 4 = .ok (.iload_n 3, 1) := by decide +kernel
theorem dX7_keptBytes_5 : decode cX7_keptBytes 5 = .ok (.aload_n 0, 1) := by decide +kernel
theorem dX7_keptBytes_6 : decode cX7_keptBytes 6 = .ok (.getfield 10, 3) := by decide +kernel
theorem dX7_keptBytes_9 : decode cX7_keptBytes 9 = .ok (.invokevirtual 53, 3) := by decide +kernel
theorem dX7_keptBytes_12 : decode cX7_keptBytes 12 = .ok (.if_icmp .ge 49, 3) := by decide +kernel
theorem dX7_keptBytes_15 : decode cX7_keptBytes 15 = .ok (.aload_n 0, 1) := by decide +kernel
theorem dX7_keptBytes_16 : decode cX7_keptBytes 16 = .ok (.getfield 10, 3) := by decide +kernel
theorem dX7_keptBytes_19 : decode cX7_keptBytes 19 = .ok (.iload_n 3, 1) := by decide +kernel
theorem dX7_keptBytes_20 : decode cX7_keptBytes 20 = .ok (.invokevirtual 120, 3) := by decide +kernel
theorem dX7_keptBytes_23 : decode cX7_keptBytes 23 = .ok (.checkcast 74, 3) := by decide +kernel
theorem dX7_keptBytes_26 : decode cX7_keptBytes 26 = .ok (.astore 4, 2) := by decide +kernel
theorem dX7_keptBytes_28 : decode cX7_keptBytes 28 = .ok (.aload 4, 2) := by decide +kernel
theorem dX7_keptBytes_30 : decode cX7_keptBytes 30 = .ok (.getfield 157, 3) := by decide +kernel
theorem dX7_keptBytes_33 : decode cX7_keptBytes 33 = .ok (.iload_n 1, 1) := by decide +kernel
theorem dX7_keptBytes_34 : decode cX7_keptBytes 34 = .ok (.if_icmp .ne 21, 3) := by decide +kernel
theorem dX7_keptBytes_37 : decode cX7_keptBytes 37 = .ok (.aload 4, 2) := by decide +kernel
theorem dX7_keptBytes_39 : decode cX7_keptBytes 39 = .ok (.getfield 103, 3) := by decide +kernel
theorem dX7_keptBytes_42 : decode cX7_keptBytes 42 = .ok (.bipush 107, 2) := by decide +kernel
theorem dX7_keptBytes_44 : decode cX7_keptBytes 44 = .ok (.if_icmp .ne 11, 3) := by decide +kernel
theorem dX7_keptBytes_47 : decode cX7_keptBytes 47 = .ok (.iload_n 2, 1) := by decide +kernel
theorem dX7_keptBytes_48 : decode cX7_keptBytes 48 = .ok (.aload 4, 2) := by decide +kernel
theorem dX7_keptBytes_50 : decode cX7_keptBytes 50 = .ok (.getfield 273, 3) := by decide +kernel
theorem dX7_keptBytes_53 : decode cX7_keptBytes 53 = .ok (.iadd, 1) := by decide +kernel
theorem dX7_keptBytes_54 : decode cX7_keptBytes 54 = .ok (.istore_n 2, 1) := by decide +kernel
theorem dX7_keptBytes_55 : decode cX7_keptBytes 55 = .ok (.iinc 3 1, 3) := by decide +kernel
theorem dX7_keptBytes_58 : decode cX7_keptBytes 58 = .ok (.goto (-54), 3) := by decide +kernel
theorem dX7_keptBytes_61 : decode cX7_keptBytes 61 = .ok (.iload_n 2, 1) := by decide +kernel
theorem dX7_keptBytes_62 : decode cX7_keptBytes 62 = .ok (.ireturn, 1) := by decide +kernel
set_option maxRecDepth 20000 in
theorem ggX7_lookAtAllSources_X7_lookAtSource : GoodIn wsX7_lookAtAllSources wsX7_lookAtSource := goodIn_ca (goodIn_r _ [5, 6, 7, 8, 9, 4, 10, 11, 12, 13, 14, 15, 16, 17, 18, 19, 20, 21, 22, 23, 24, 25, 26, 27, 28, 29, 30, 31, 32, 33, 34, 35, 36, 37, 38, 39, 40, 41, 42, 43, 44, 45, 46, 47, 48, 49, 50, 51, 52, 53, 54, 55, 56, 57] (by decide +kernel) (by decide +kernel)) (goodIn_sub (fun _ h => List.mem_cons_of_mem _ (List.mem_append_right _ h)) (by decide +kernel))
set_option maxRecDepth 20000 in
theorem gX7_lookAtAllSources_X7_lookAtSource : GoodIn wsX7_lookAtAllSources (wsV RX7 95 RX7 yX7_lookAtSource wsX7_lookAtSource) := goodIn_app (goodIn_of _ (by decide +kernel)) ggX7_lookAtAllSources_X7_lookAtSource
theorem dX7_lookAtAllSources_0 : decode cX7_lookAtAllSources 0 = .ok (.iconst 0, 1) := by decide +kernel
theorem dX7_lookAtAllSources_1 : decode cX7_lookAtAllSources 1 = .ok (.istore_n 1, 1) := by decide +kernel
theorem dX7_lookAtAllSources_2 : decode cX7_lookAtAllSources 2 = .ok (.iconst 0, 1) := by decide +kernel
theorem dX7_lookAtAllSources_3 : decode cX7_lookAtAllSources 3 = .ok (.istore_n 2, 1) := by decide +kernel
theorem dX7_lookAtAllSources_4 : decode cX7_lookAtAllSources 4 = .ok (.iload_n 2, 1) := by decide +kernel
theorem dX7_lookAtAllSources_5 : decode cX7_lookAtAllSources 5 = .ok (.iconst 4, 1) := by decide +kernel
theorem dX7_lookAtAllSources_6 : decode cX7_lookAtAllSources 6 = .ok (.if_icmp .ge 17, 3) := by decide +kernel
theorem dX7_lookAtAllSources_9 : decode cX7_lookAtAllSources 9 = .ok (.iload_n 1, 1) := by decide +kernel
theorem dX7_lookAtAllSources_10 : decode cX7_lookAtAllSources 10 = .ok (.aload_n 0, 1) := by decide +kernel
theorem dX7_lookAtAllSources_11 : decode cX7_lookAtAllSources 11 = .ok (.iload_n 2, 1) := by decide +kernel
theorem dX7_lookAtAllSources_12 : decode cX7_lookAtAllSources 12 = .ok (.invokevirtual 95, 3) := by decide +kernel
theorem dX7_lookAtAllSources_15 : decode cX7_lookAtAllSources 15 = .ok (.iadd, 1) := by decide +kernel
theorem dX7_lookAtAllSources_16 : decode cX7_lookAtAllSources 16 = .ok (.istore_n 1, 1) := by decide +kernel
theorem dX7_lookAtAllSources_17 : decode cX7_lookAtAllSources 17 = .ok (.iinc 2 1, 3) := by decide +kernel
theorem dX7_lookAtAllSources_20 : decode cX7_lookAtAllSources 20 = .ok (.goto (-16), 3) := by decide +kernel
theorem dX7_lookAtAllSources_23 : decode cX7_lookAtAllSources 23 = .ok (.iload_n 1, 1) := by decide +kernel
theorem dX7_lookAtAllSources_24 : decode cX7_lookAtAllSources 24 = .ok (.ireturn, 1) := by decide +kernel
set_option maxRecDepth 20000 in
theorem ggX7_lookAtSource_X7_keptBytes : GoodIn wsX7_lookAtSource wsX7_keptBytes := goodIn_r _ [6, 7, 8, 9, 10, 11, 12, 13, 14, 15, 16, 17, 18, 19, 20, 21, 22, 23, 24, 25, 26, 27, 28, 29, 30, 31, 36, 37, 38, 39, 40, 41, 42, 43, 44, 45, 46, 47, 48, 49, 50, 51, 52, 53] (by decide +kernel) (by decide +kernel)
set_option maxRecDepth 20000 in
theorem gX7_lookAtSource_X7_keptBytes : GoodIn wsX7_lookAtSource (wsV RX7 154 RX7 yX7_keptBytes wsX7_keptBytes) := goodIn_app (goodIn_of _ (by decide +kernel)) ggX7_lookAtSource_X7_keptBytes
set_option maxRecDepth 20000 in
theorem ggX7_lookAtSource_X7_nextToDrop : GoodIn wsX7_lookAtSource wsX7_nextToDrop := goodIn_r _ [35, 7, 8, 9, 10, 11, 12, 13, 14, 15, 16, 17, 18, 19, 20, 21, 22, 23, 24, 25, 26, 27, 28, 29, 30, 31, 36, 37, 38, 39, 40, 41, 42, 43, 44, 45, 46, 47, 48, 49, 50, 51, 52, 53] (by decide +kernel) (by decide +kernel)
set_option maxRecDepth 20000 in
theorem gX7_lookAtSource_X7_nextToDrop : GoodIn wsX7_lookAtSource (wsV RX7 374 RX7 yX7_nextToDrop wsX7_nextToDrop) := goodIn_app (goodIn_of _ (by decide +kernel)) ggX7_lookAtSource_X7_nextToDrop
theorem dX7_lookAtSource_0 : decode cX7_lookAtSource 0 = .ok (.iload_n 1, 1) := by decide +kernel
theorem dX7_lookAtSource_1 : decode cX7_lookAtSource 1 = .ok (.ifCond .lt 12, 3) := by decide +kernel
theorem dX7_lookAtSource_4 : decode cX7_lookAtSource 4 = .ok (.iload_n 1, 1) := by decide +kernel
theorem dX7_lookAtSource_5 : decode cX7_lookAtSource 5 = .ok (.aload_n 0, 1) := by decide +kernel
theorem dX7_lookAtSource_6 : decode cX7_lookAtSource 6 = .ok (.getfield 28, 3) := by decide +kernel
theorem dX7_lookAtSource_9 : decode cX7_lookAtSource 9 = .ok (.arraylength, 1) := by decide +kernel
theorem dX7_lookAtSource_10 : decode cX7_lookAtSource 10 = .ok (.if_icmp .lt 5, 3) := by decide +kernel
theorem dX7_lookAtSource_13 : decode cX7_lookAtSource 13 = .ok (.iconst 0, 1) := by decide +kernel
theorem dX7_lookAtSource_14 : decode cX7_lookAtSource 14 = .ok (.ireturn, 1) := by decide +kernel
theorem dX7_lookAtSource_15 : decode cX7_lookAtSource 15 = .ok (.aload_n 0, 1) := by decide +kernel
theorem dX7_lookAtSource_16 : decode cX7_lookAtSource 16 = .ok (.iload_n 1, 1) := by decide +kernel
theorem dX7_lookAtSource_17 : decode cX7_lookAtSource 17 = .ok (.invokevirtual 154, 3) := by decide +kernel
theorem dX7_lookAtSource_20 : decode cX7_lookAtSource 20 = .ok (.aload_n 0, 1) := by decide +kernel
theorem dX7_lookAtSource_21 : decode cX7_lookAtSource 21 = .ok (.getfield 28, 3) := by decide +kernel
theorem dX7_lookAtSource_24 : decode cX7_lookAtSource 24 = .ok (.iload_n 1, 1) := by decide +kernel
theorem dX7_lookAtSource_25 : decode cX7_lookAtSource 25 = .ok (.iaload, 1) := by decide +kernel
theorem dX7_lookAtSource_26 : decode cX7_lookAtSource 26 = .ok (.isub, 1) := by decide +kernel
theorem dX7_lookAtSource_27 : decode cX7_lookAtSource 27 = .ok (.istore_n 2, 1) := by decide +kernel
theorem dX7_lookAtSource_28 : decode cX7_lookAtSource 28 = .ok (.iconst 0, 1) := by decide +kernel
theorem dX7_lookAtSource_29 : decode cX7_lookAtSource 29 = .ok (.istore_n 3, 1) := by decide +kernel
theorem dX7_lookAtSource_30 : decode cX7_lookAtSource 30 = .ok (.iload_n 2, 1) := by decide +kernel
theorem dX7_lookAtSource_31 : decode cX7_lookAtSource 31 = .ok (.ifCond .le 45, 3) := by decide +kernel
theorem dX7_lookAtSource_34 : decode cX7_lookAtSource 34 = .ok (.iload_n 3, 1) := by decide +kernel
theorem dX7_lookAtSource_35 : decode cX7_lookAtSource 35 = .ok (.sipush 200, 3) := by decide +kernel
theorem dX7_lookAtSource_38 : decode cX7_lookAtSource 38 = .ok (.if_icmp .ge 38, 3) := by decide +kernel
theorem dX7_lookAtSource_41 : decode cX7_lookAtSource 41 = .ok (.aload_n 0, 1) := by decide +kernel
theorem dX7_lookAtSource_42 : decode cX7_lookAtSource 42 = .ok (.iload_n 1, 1) := by decide +kernel
theorem dX7_lookAtSource_43 : decode cX7_lookAtSource 43 = .ok (.invokevirtual 374, 3) := by decide +kernel
theorem dX7_lookAtSource_46 : decode cX7_lookAtSource 46 = .ok (.astore 4, 2) := by decide +kernel
theorem dX7_lookAtSource_48 : decode cX7_lookAtSource 48 = .ok (.aload 4, 2) := by decide +kernel
theorem dX7_lookAtSource_50 : decode cX7_lookAtSource 50 = .ok (.ifnonnull 5, 3) := by decide +kernel
theorem dX7_lookAtSource_53 : decode cX7_lookAtSource 53 = .ok (.iload_n 3, 1) := by decide +kernel
theorem dX7_lookAtSource_54 : decode cX7_lookAtSource 54 = .ok (.ireturn, 1) := by decide +kernel
theorem dX7_lookAtSource_55 : decode cX7_lookAtSource 55 = .ok (.aload 4, 2) := by decide +kernel
theorem dX7_lookAtSource_57 : decode cX7_lookAtSource 57 = .ok (.bipush 100, 2) := by decide +kernel
theorem dX7_lookAtSource_59 : decode cX7_lookAtSource 59 = .ok (.putfield 103, 3) := by decide +kernel
theorem dX7_lookAtSource_62 : decode cX7_lookAtSource 62 = .ok (.iload_n 2, 1) := by decide +kernel
theorem dX7_lookAtSource_63 : decode cX7_lookAtSource 63 = .ok (.aload 4, 2) := by decide +kernel
theorem dX7_lookAtSource_65 : decode cX7_lookAtSource 65 = .ok (.getfield 273, 3) := by decide +kernel
theorem dX7_lookAtSource_68 : decode cX7_lookAtSource 68 = .ok (.isub, 1) := by decide +kernel
theorem dX7_lookAtSource_69 : decode cX7_lookAtSource 69 = .ok (.istore_n 2, 1) := by decide +kernel
theorem dX7_lookAtSource_70 : decode cX7_lookAtSource 70 = .ok (.iinc 3 1, 3) := by decide +kernel
theorem dX7_lookAtSource_73 : decode cX7_lookAtSource 73 = .ok (.goto (-43), 3) := by decide +kernel
theorem dX7_lookAtSource_76 : decode cX7_lookAtSource 76 = .ok (.iload_n 3, 1) := by decide +kernel
theorem dX7_lookAtSource_77 : decode cX7_lookAtSource 77 = .ok (.ireturn, 1) := by decide +kernel
set_option maxRecDepth 20000 in
theorem ggX7_nextToDrop_Jx4a65c_size_8abf5 : GoodIn wsX7_nextToDrop wsJx4a65c_size_8abf5 := goodIn_r _ [7, 8, 41, 42, 43] (by decide +kernel) (by decide +kernel)
set_option maxRecDepth 20000 in
theorem gX7_nextToDrop_Jx4a65c_size_8abf5 : GoodIn wsX7_nextToDrop (wsV RX7 53 RJx4a65c yJx4a65c_size_8abf5 wsJx4a65c_size_8abf5) := goodIn_app (goodIn_of _ (by decide +kernel)) ggX7_nextToDrop_Jx4a65c_size_8abf5
set_option maxRecDepth 20000 in
theorem ggX7_nextToDrop_Jx4a65c_get_915e3 : GoodIn wsX7_nextToDrop wsJx4a65c_get_915e3 := goodIn_r _ [12, 8, 13, 14, 15, 16, 17, 18, 19, 20, 21, 22, 23, 6, 24, 25, 41, 42, 43] (by decide +kernel) (by decide +kernel)
set_option maxRecDepth 20000 in
theorem gX7_nextToDrop_Jx4a65c_get_915e3 : GoodIn wsX7_nextToDrop (wsV RX7 120 RJx4a65c yJx4a65c_get_915e3 wsJx4a65c_get_915e3) := goodIn_app (goodIn_of _ (by decide +kernel)) ggX7_nextToDrop_Jx4a65c_get_915e3
theorem dX7_nextToDrop_0 : decode cX7_nextToDrop 0 = .ok (.aconst_null, 1) := by decide +kernel
theorem dX7_nextToDrop_1 : decode cX7_nextToDrop 1 = .ok (.astore_n 2, 1) := by decide +kernel
theorem dX7_nextToDrop_2 : decode cX7_nextToDrop 2 = .ok (.iconst 0, 1) := by decide +kernel
theorem dX7_nextToDrop_3 : decode cX7_nextToDrop 3 = .ok (.istore_n 3, 1) := by decide +kernel
theorem dX7_nextToDrop_4 : decode cX7_nextToDrop 4 = .ok (.iload_n 3, 1) := by decide +kernel
theorem dX7_nextToDrop_5 : decode cX7_nextToDrop 5 = .ok (.aload_n 0, 1) := by decide +kernel
theorem dX7_nextToDrop_6 : decode cX7_nextToDrop 6 = .ok (.getfield 10, 3) := by decide +kernel
theorem dX7_nextToDrop_9 : decode cX7_nextToDrop 9 = .ok (.invokevirtual 53, 3) := by decide +kernel
theorem dX7_nextToDrop_12 : decode cX7_nextToDrop 12 = .ok (.if_icmp .ge 68, 3) := by decide +kernel
theorem dX7_nextToDrop_15 : decode cX7_nextToDrop 15 = .ok (.aload_n 0, 1) := by decide +kernel
theorem dX7_nextToDrop_16 : decode cX7_nextToDrop 16 = .ok (.getfield 10, 3) := by decide +kernel
theorem dX7_nextToDrop_19 : decode cX7_nextToDrop 19 = .ok (.iload_n 3, 1) := by decide +kernel
theorem dX7_nextToDrop_20 : decode cX7_nextToDrop 20 = .ok (.invokevirtual 120, 3) := by decide +kernel
theorem dX7_nextToDrop_23 : decode cX7_nextToDrop 23 = .ok (.checkcast 74, 3) := by decide +kernel
theorem dX7_nextToDrop_26 : decode cX7_nextToDrop 26 = .ok (.astore 4, 2) := by decide +kernel
theorem dX7_nextToDrop_28 : decode cX7_nextToDrop 28 = .ok (.aload 4, 2) := by decide +kernel
theorem dX7_nextToDrop_30 : decode cX7_nextToDrop 30 = .ok (.getfield 157, 3) := by decide +kernel
theorem dX7_nextToDrop_33 : decode cX7_nextToDrop 33 = .ok (.iload_n 1, 1) := by decide +kernel
theorem dX7_nextToDrop_34 : decode cX7_nextToDrop 34 = .ok (.if_icmp .ne 40, 3) := by decide +kernel
theorem dX7_nextToDrop_37 : decode cX7_nextToDrop 37 = .ok (.aload 4, 2) := by decide +kernel
theorem dX7_nextToDrop_39 : decode cX7_nextToDrop 39 = .ok (.getfield 103, 3) := by decide +kernel
theorem dX7_nextToDrop_42 : decode cX7_nextToDrop 42 = .ok (.bipush 107, 2) := by decide +kernel
theorem dX7_nextToDrop_44 : decode cX7_nextToDrop 44 = .ok (.if_icmp .ne 30, 3) := by decide +kernel
theorem dX7_nextToDrop_47 : decode cX7_nextToDrop 47 = .ok (.aload 4, 2) := by decide +kernel
theorem dX7_nextToDrop_49 : decode cX7_nextToDrop 49 = .ok (.getfield 263, 3) := by decide +kernel
theorem dX7_nextToDrop_52 : decode cX7_nextToDrop 52 = .ok (.ifCond .ne 22, 3) := by decide +kernel
theorem dX7_nextToDrop_55 : decode cX7_nextToDrop 55 = .ok (.aload_n 2, 1) := by decide +kernel
theorem dX7_nextToDrop_56 : decode cX7_nextToDrop 56 = .ok (.ifnull 15, 3) := by decide +kernel
theorem dX7_nextToDrop_59 : decode cX7_nextToDrop 59 = .ok (.aload 4, 2) := by decide +kernel
theorem dX7_nextToDrop_61 : decode cX7_nextToDrop 61 = .ok (.getfield 281, 3) := by decide +kernel
theorem dX7_nextToDrop_64 : decode cX7_nextToDrop 64 = .ok (.aload_n 2, 1) := by decide +kernel
theorem dX7_nextToDrop_65 : decode cX7_nextToDrop 65 = .ok (.getfield 281, 3) := by decide +kernel
theorem dX7_nextToDrop_68 : decode cX7_nextToDrop 68 = .ok (.if_icmp .ge 6, 3) := by decide +kernel
theorem dX7_nextToDrop_71 : decode cX7_nextToDrop 71 = .ok (.aload 4, 2) := by decide +kernel
theorem dX7_nextToDrop_73 : decode cX7_nextToDrop 73 = .ok (.astore_n 2, 1) := by decide +kernel
theorem dX7_nextToDrop_74 : decode cX7_nextToDrop 74 = .ok (.iinc 3 1, 3) := by decide +kernel
theorem dX7_nextToDrop_77 : decode cX7_nextToDrop 77 = .ok (.goto (-73), 3) := by decide +kernel
theorem dX7_nextToDrop_80 : decode cX7_nextToDrop 80 = .ok (.aload_n 2, 1) := by decide +kernel
theorem dX7_nextToDrop_81 : decode cX7_nextToDrop 81 = .ok (.areturn, 1) := by decide +kernel
set_option maxRecDepth 20000 in
theorem ggX7_passOneTick_Jx4a65c_size_8abf5 : GoodIn wsX7_passOneTick wsJx4a65c_size_8abf5 := goodIn_r _ [8, 9, 181, 182, 183] (by decide +kernel) (by decide +kernel)
set_option maxRecDepth 20000 in
theorem gX7_passOneTick_Jx4a65c_size_8abf5 : GoodIn wsX7_passOneTick (wsV RX7 53 RJx4a65c yJx4a65c_size_8abf5 wsJx4a65c_size_8abf5) := goodIn_app (goodIn_of _ (by decide +kernel)) ggX7_passOneTick_Jx4a65c_size_8abf5
set_option maxRecDepth 20000 in
theorem ggX7_passOneTick_Jx4a65c_get_915e3 : GoodIn wsX7_passOneTick wsJx4a65c_get_915e3 := goodIn_r _ [13, 9, 14, 15, 16, 17, 18, 19, 20, 21, 22, 23, 24, 7, 25, 26, 181, 182, 183] (by decide +kernel) (by decide +kernel)
set_option maxRecDepth 20000 in
theorem gX7_passOneTick_Jx4a65c_get_915e3 : GoodIn wsX7_passOneTick (wsV RX7 120 RJx4a65c yJx4a65c_get_915e3 wsJx4a65c_get_915e3) := goodIn_app (goodIn_of _ (by decide +kernel)) ggX7_passOneTick_Jx4a65c_get_915e3
set_option maxRecDepth 20000 in
theorem ggX7_passOneTick_X7_forgetLeavers : GoodIn wsX7_passOneTick wsX7_forgetLeavers := goodIn_r _ [31, 1, 32, 33, 4, 5, 6, 7, 8, 9, 10, 11, 12, 13, 14, 15, 16, 17, 18, 19, 20, 21, 22, 23, 24, 25, 26, 34, 35, 36, 37, 38, 39, 40, 41, 42, 43, 44, 45, 46, 47, 48, 174, 175, 176, 177, 178, 179, 180, 184, 185, 186, 187, 188, 189, 190, 191, 192, 193, 194, 195, 196, 197, 198, 199, 200, 181, 182, 183, 201, 202, 203, 204, 205, 206, 207] (by decide +kernel) (by decide +kernel)
set_option maxRecDepth 20000 in
theorem gX7_passOneTick_X7_forgetLeavers : GoodIn wsX7_passOneTick (wsV RX7 377 RX7 yX7_forgetLeavers wsX7_forgetLeavers) := goodIn_app (goodIn_of _ (by decide +kernel)) ggX7_passOneTick_X7_forgetLeavers
set_option maxRecDepth 20000 in
theorem ggX7_passOneTick_X0_shortenHold : GoodIn wsX7_passOneTick wsX0_shortenHold := goodIn_r _ [52, 53, 54, 184, 185, 186, 187, 188, 189, 190, 191, 192] (by decide +kernel) (by decide +kernel)
set_option maxRecDepth 20000 in
theorem gX7_passOneTick_X0_shortenHold_n380 : GoodIn wsX7_passOneTick (wsX0_shortenHold) := ggX7_passOneTick_X0_shortenHold
set_option maxRecDepth 20000 in
theorem ggX7_passOneTick_X7_lookAtAlert : GoodIn wsX7_passOneTick wsX7_lookAtAlert := goodIn_ca (goodIn_r _ [58, 59, 60, 61, 1, 62, 63, 64, 65, 66, 67, 68, 69, 70, 71, 72, 73, 74, 7, 75, 76, 77, 26, 9, 78, 79, 80, 81, 82, 83, 84, 85, 86, 87, 88, 89, 90, 91, 92, 93, 94, 95, 96, 97, 98, 99, 100, 101, 102, 103, 104, 105, 106, 107, 108, 109, 110, 111, 112, 113, 114, 115, 116, 117, 118, 119, 120, 121, 122, 123, 124, 125, 126, 127, 30, 128, 32, 33, 4, 5, 6, 8, 10, 11, 12, 13, 14, 15, 16, 17, 18, 19, 20, 21, 22, 23, 24, 25, 129, 130, 131, 132, 133, 134, 50, 135, 136, 137, 138, 34, 35, 36, 37, 38, 39, 40, 41, 42, 43, 44, 45, 46, 47, 48, 139, 140, 141, 142, 143, 144, 145, 146, 184, 185, 186, 187, 188, 189, 190, 191, 192, 208, 209, 210, 211, 212, 174, 175, 176, 177, 178, 179, 180, 181, 182, 183, 193, 194, 195, 196, 197, 198, 199, 200, 201, 202, 203, 204, 205, 206, 207] (by decide +kernel) (by decide +kernel)) (goodIn_sub (fun _ h => List.mem_cons_of_mem _ (List.mem_append_right _ h)) (by decide +kernel))
set_option maxRecDepth 20000 in
theorem gX7_passOneTick_X7_lookAtAlert : GoodIn wsX7_passOneTick (wsV RX7 204 RX7 yX7_lookAtAlert wsX7_lookAtAlert) := goodIn_app (goodIn_of _ (by decide +kernel)) ggX7_passOneTick_X7_lookAtAlert
set_option maxRecDepth 20000 in
theorem ggX7_passOneTick_X7_lookAtAllSources : GoodIn wsX7_passOneTick wsX7_lookAtAllSources := goodIn_ca (goodIn_r _ [150, 151, 152, 153, 30, 154, 155, 156, 157, 158, 159, 32, 33, 4, 5, 6, 7, 8, 9, 10, 11, 12, 13, 14, 15, 16, 17, 18, 19, 20, 21, 22, 23, 24, 25, 26, 160, 161, 162, 163, 174, 175, 176, 177, 178, 179, 180, 193, 194, 195, 196, 197, 198, 199, 200, 181, 182, 183] (by decide +kernel) (by decide +kernel)) (goodIn_sub (fun _ h => List.mem_cons_of_mem _ (List.mem_append_right _ h)) (by decide +kernel))
set_option maxRecDepth 20000 in
theorem gX7_passOneTick_X7_lookAtAllSources : GoodIn wsX7_passOneTick (wsV RX7 260 RX7 yX7_lookAtAllSources wsX7_lookAtAllSources) := goodIn_app (goodIn_of _ (by decide +kernel)) ggX7_passOneTick_X7_lookAtAllSources
set_option maxRecDepth 20000 in
theorem ggX7_passOneTick_X7_answerRequests : GoodIn wsX7_passOneTick wsX7_answerRequests := goodIn_r _ [167, 168, 169, 1, 4, 5, 6, 7, 8, 9, 10, 11, 12, 13, 14, 15, 16, 17, 18, 19, 20, 21, 22, 23, 24, 25, 26, 170, 171, 172, 30, 173, 32, 33, 34, 35, 36, 37, 38, 39, 40, 41, 42, 43, 44, 45, 46, 47, 48, 174, 175, 176, 177, 178, 179, 180, 213, 214, 215, 216, 181, 182, 183, 193, 194, 195, 196, 197, 198, 199, 200, 201, 202, 203, 204, 205, 206, 207] (by decide +kernel) (by decide +kernel)
set_option maxRecDepth 20000 in
theorem gX7_passOneTick_X7_answerRequests : GoodIn wsX7_passOneTick (wsV RX7 383 RX7 yX7_answerRequests wsX7_answerRequests) := goodIn_app (goodIn_of _ (by decide +kernel)) ggX7_passOneTick_X7_answerRequests
theorem dX7_passOneTick_0 : decode cX7_passOneTick 0 = .ok (.aload_n 0, 1) := by decide +kernel
theorem dX7_passOneTick_1 : decode cX7_passOneTick 1 = .ok (.dup, 1) := by decide +kernel
theorem dX7_passOneTick_2 : decode cX7_passOneTick 2 = .ok (.getfield 76, 3) := by decide +kernel
theorem dX7_passOneTick_5 : decode cX7_passOneTick 5 = .ok (.iconst 1, 1) := by decide +kernel
theorem dX7_passOneTick_6 : decode cX7_passOneTick 6 = .ok (.iadd, 1) := by decide +kernel
theorem dX7_passOneTick_7 : decode cX7_passOneTick 7 = .ok (.putfield 76, 3) := by decide +kernel
theorem dX7_passOneTick_10 : decode cX7_passOneTick 10 = .ok (.iconst 0, 1) := by decide +kernel
theorem dX7_passOneTick_11 : decode cX7_passOneTick 11 = .ok (.istore_n 1, 1) := by decide +kernel
theorem dX7_passOneTick_12 : decode cX7_passOneTick 12 = .ok (.iload_n 1, 1) := by decide +kernel
theorem dX7_passOneTick_13 : decode cX7_passOneTick 13 = .ok (.aload_n 0, 1) := by decide +kernel
theorem dX7_passOneTick_14 : decode cX7_passOneTick 14 = .ok (.getfield 19, 3) := by decide +kernel
theorem dX7_passOneTick_17 : decode cX7_passOneTick 17 = .ok (.invokevirtual 53, 3) := by decide +kernel
theorem dX7_passOneTick_20 : decode cX7_passOneTick 20 = .ok (.if_icmp .ge 35, 3) := by decide +kernel
theorem dX7_passOneTick_23 : decode cX7_passOneTick 23 = .ok (.aload_n 0, 1) := by decide +kernel
theorem dX7_passOneTick_24 : decode cX7_passOneTick 24 = .ok (.getfield 19, 3) := by decide +kernel
theorem dX7_passOneTick_27 : decode cX7_passOneTick 27 = .ok (.iload_n 1, 1) := by decide +kernel
theorem dX7_passOneTick_28 : decode cX7_passOneTick 28 = .ok (.invokevirtual 120, 3) := by decide +kernel
theorem dX7_passOneTick_31 : decode cX7_passOneTick 31 = .ok (.checkcast 195, 3) := by decide +kernel
theorem dX7_passOneTick_34 : decode cX7_passOneTick 34 = .ok (.astore_n 2, 1) := by decide +kernel
theorem dX7_passOneTick_35 : decode cX7_passOneTick 35 = .ok (.aload_n 0, 1) := by decide +kernel
theorem dX7_passOneTick_36 : decode cX7_passOneTick 36 = .ok (.aload_n 2, 1) := by decide +kernel
theorem dX7_passOneTick_37 : decode cX7_passOneTick 37 = .ok (.invokevirtual 377, 3) := by decide +kernel
theorem dX7_passOneTick_40 : decode cX7_passOneTick 40 = .ok (.aload_n 2, 1) := by decide +kernel
theorem dX7_passOneTick_41 : decode cX7_passOneTick 41 = .ok (.invokevirtual 380, 3) := by decide +kernel
theorem dX7_passOneTick_44 : decode cX7_passOneTick 44 = .ok (.aload_n 0, 1) := by decide +kernel
theorem dX7_passOneTick_45 : decode cX7_passOneTick 45 = .ok (.aload_n 2, 1) := by decide +kernel
theorem dX7_passOneTick_46 : decode cX7_passOneTick 46 = .ok (.invokevirtual 204, 3) := by decide +kernel
theorem dX7_passOneTick_49 : decode cX7_passOneTick 49 = .ok (.iinc 1 1, 3) := by decide +kernel
theorem dX7_passOneTick_52 : decode cX7_passOneTick 52 = .ok (.goto (-40), 3) := by decide +kernel
theorem dX7_passOneTick_55 : decode cX7_passOneTick 55 = .ok (.aload_n 0, 1) := by decide +kernel
theorem dX7_passOneTick_56 : decode cX7_passOneTick 56 = .ok (.invokevirtual 260, 3) := by decide +kernel
theorem dX7_passOneTick_59 : decode cX7_passOneTick 59 = .ok (.istore_n 1, 1) := by decide +kernel
theorem dX7_passOneTick_60 : decode cX7_passOneTick 60 = .ok (.aload_n 0, 1) := by decide +kernel
theorem dX7_passOneTick_61 : decode cX7_passOneTick 61 = .ok (.invokevirtual 383, 3) := by decide +kernel
theorem dX7_passOneTick_64 : decode cX7_passOneTick 64 = .ok (.iload_n 1, 1) := by decide +kernel
theorem dX7_passOneTick_65 : decode cX7_passOneTick 65 = .ok (.ireturn, 1) := by decide +kernel
set_option maxRecDepth 20000 in
theorem ggX7_forgetLeavers_Jx4a65c_size_8abf5 : GoodIn wsX7_forgetLeavers wsJx4a65c_size_8abf5 := goodIn_r _ [8, 9, 66, 67, 68] (by decide +kernel) (by decide +kernel)
set_option maxRecDepth 20000 in
theorem gX7_forgetLeavers_Jx4a65c_size_8abf5 : GoodIn wsX7_forgetLeavers (wsV RX7 53 RJx4a65c yJx4a65c_size_8abf5 wsJx4a65c_size_8abf5) := goodIn_app (goodIn_of _ (by decide +kernel)) ggX7_forgetLeavers_Jx4a65c_size_8abf5
set_option maxRecDepth 20000 in
theorem ggX7_forgetLeavers_Jx4a65c_get_915e3 : GoodIn wsX7_forgetLeavers wsJx4a65c_get_915e3 := goodIn_r _ [13, 9, 14, 15, 16, 17, 18, 19, 20, 21, 22, 23, 24, 7, 25, 26, 66, 67, 68] (by decide +kernel) (by decide +kernel)
set_option maxRecDepth 20000 in
theorem gX7_forgetLeavers_Jx4a65c_get_915e3 : GoodIn wsX7_forgetLeavers (wsV RX7 120 RJx4a65c yJx4a65c_get_915e3 wsJx4a65c_get_915e3) := goodIn_app (goodIn_of _ (by decide +kernel)) ggX7_forgetLeavers_Jx4a65c_get_915e3
set_option maxRecDepth 20000 in
theorem ggX7_forgetLeavers_X1_takes : GoodIn wsX7_forgetLeavers wsX1_takes := goodIn_r _ [30, 31, 32, 33, 34, 35, 36, 37, 38, 39, 40, 41, 58, 59, 60, 61, 62, 63, 64, 65, 69, 70, 71, 72, 73, 74, 75] (by decide +kernel) (by decide +kernel)
set_option maxRecDepth 20000 in
theorem gX7_forgetLeavers_X1_takes_n393 : GoodIn wsX7_forgetLeavers (wsX1_takes) := ggX7_forgetLeavers_X1_takes
theorem dX7_forgetLeavers_0 : decode cX7_forgetLeavers 0 = .ok (.aload_n 0, 1) := by decide +kernel
theorem dX7_forgetLeavers_1 : decode cX7_forgetLeavers 1 = .ok (.getfield 76, 3) := by decide +kernel
theorem dX7_forgetLeavers_4 : decode cX7_forgetLeavers 4 = .ok (.aload_n 1, 1) := by decide +kernel
theorem dX7_forgetLeavers_5 : decode cX7_forgetLeavers 5 = .ok (.getfield 361, 3) := by decide +kernel
theorem dX7_forgetLeavers_8 : decode cX7_forgetLeavers 8 = .ok (.isub, 1) := by decide +kernel
theorem dX7_forgetLeavers_9 : decode cX7_forgetLeavers 9 = .ok (.istore_n 2, 1) := by decide +kernel
theorem dX7_forgetLeavers_10 : decode cX7_forgetLeavers 10 = .ok (.aload_n 0, 1) := by decide +kernel
theorem dX7_forgetLeavers_11 : decode cX7_forgetLeavers 11 = .ok (.getfield 10, 3) := by decide +kernel
theorem dX7_forgetLeavers_14 : decode cX7_forgetLeavers 14 = .ok (.invokevirtual 53, 3) := by decide +kernel
theorem dX7_forgetLeavers_17 : decode cX7_forgetLeavers 17 = .ok (.iconst 1, 1) := by decide +kernel
theorem dX7_forgetLeavers_18 : decode cX7_forgetLeavers 18 = .ok (.isub, 1) := by decide +kernel
theorem dX7_forgetLeavers_19 : decode cX7_forgetLeavers 19 = .ok (.istore_n 3, 1) := by decide +kernel
theorem dX7_forgetLeavers_20 : decode cX7_forgetLeavers 20 = .ok (.iload_n 3, 1) := by decide +kernel
theorem dX7_forgetLeavers_21 : decode cX7_forgetLeavers 21 = .ok (.ifCond .lt 84, 3) := by decide +kernel
theorem dX7_forgetLeavers_24 : decode cX7_forgetLeavers 24 = .ok (.aload_n 0, 1) := by decide +kernel
theorem dX7_forgetLeavers_25 : decode cX7_forgetLeavers 25 = .ok (.getfield 10, 3) := by decide +kernel
theorem dX7_forgetLeavers_28 : decode cX7_forgetLeavers 28 = .ok (.iload_n 3, 1) := by decide +kernel
theorem dX7_forgetLeavers_29 : decode cX7_forgetLeavers 29 = .ok (.invokevirtual 120, 3) := by decide +kernel
theorem dX7_forgetLeavers_32 : decode cX7_forgetLeavers 32 = .ok (.checkcast 74, 3) := by decide +kernel
theorem dX7_forgetLeavers_35 : decode cX7_forgetLeavers 35 = .ok (.astore 4, 2) := by decide +kernel
theorem dX7_forgetLeavers_37 : decode cX7_forgetLeavers 37 = .ok (.aload 4, 2) := by decide +kernel
theorem dX7_forgetLeavers_39 : decode cX7_forgetLeavers 39 = .ok (.getfield 386, 3) := by decide +kernel
theorem dX7_forgetLeavers_42 : decode cX7_forgetLeavers 42 = .ok (.iload_n 2, 1) := by decide +kernel
theorem dX7_forgetLeavers_43 : decode cX7_forgetLeavers 43 = .ok (.if_icmp .ge 4, 3) := by decide +kernel
theorem dX7_forgetLeavers_46 : decode cX7_forgetLeavers 46 = .ok (.return_, 1) := by decide +kernel
theorem dX7_forgetLeavers_47 : decode cX7_forgetLeavers 47 = .ok (.aload 4, 2) := by decide +kernel
theorem dX7_forgetLeavers_49 : decode cX7_forgetLeavers 49 = .ok (.getfield 386, 3) := by decide +kernel
theorem dX7_forgetLeavers_52 : decode cX7_forgetLeavers 52 = .ok (.iload_n 2, 1) := by decide +kernel
theorem dX7_forgetLeavers_53 : decode cX7_forgetLeavers 53 = .ok (.if_icmp .ne 46, 3) := by decide +kernel
theorem dX7_forgetLeavers_56 : decode cX7_forgetLeavers 56 = .ok (.aload 4, 2) := by decide +kernel
theorem dX7_forgetLeavers_58 : decode cX7_forgetLeavers 58 = .ok (.getfield 103, 3) := by decide +kernel
theorem dX7_forgetLeavers_61 : decode cX7_forgetLeavers 61 = .ok (.bipush 100, 2) := by decide +kernel
theorem dX7_forgetLeavers_63 : decode cX7_forgetLeavers 63 = .ok (.if_icmp .eq 36, 3) := by decide +kernel
theorem dX7_forgetLeavers_66 : decode cX7_forgetLeavers 66 = .ok (.aload_n 1, 1) := by decide +kernel
theorem dX7_forgetLeavers_67 : decode cX7_forgetLeavers 67 = .ok (.getfield 389, 3) := by decide +kernel
theorem dX7_forgetLeavers_70 : decode cX7_forgetLeavers 70 = .ok (.aload 4, 2) := by decide +kernel
theorem dX7_forgetLeavers_72 : decode cX7_forgetLeavers 72 = .ok (.invokevirtual 393, 3) := by decide +kernel
theorem dX7_forgetLeavers_75 : decode cX7_forgetLeavers 75 = .ok (.ifCond .eq 24, 3) := by decide +kernel
theorem dX7_forgetLeavers_78 : decode cX7_forgetLeavers 78 = .ok (.aload_n 1, 1) := by decide +kernel
theorem dX7_forgetLeavers_79 : decode cX7_forgetLeavers 79 = .ok (.dup, 1) := by decide +kernel
theorem dX7_forgetLeavers_80 : decode cX7_forgetLeavers 80 = .ok (.getfield 213, 3) := by decide +kernel
theorem dX7_forgetLeavers_83 : decode cX7_forgetLeavers 83 = .ok (.iconst 1, 1) := by decide +kernel
theorem dX7_forgetLeavers_84 : decode cX7_forgetLeavers 84 = .ok (.isub, 1) := by decide +kernel
theorem dX7_forgetLeavers_85 : decode cX7_forgetLeavers 85 = .ok (.putfield 213, 3) := by decide +kernel
theorem dX7_forgetLeavers_88 : decode cX7_forgetLeavers 88 = .ok (.aload 4, 2) := by decide +kernel
theorem dX7_forgetLeavers_90 : decode cX7_forgetLeavers 90 = .ok (.dup, 1) := by decide +kernel
theorem dX7_forgetLeavers_91 : decode cX7_forgetLeavers 91 = .ok (.getfield 263, 3) := by decide +kernel
theorem dX7_forgetLeavers_94 : decode cX7_forgetLeavers 94 = .ok (.iconst 1, 1) := by decide +kernel
theorem dX7_forgetLeavers_95 : decode cX7_forgetLeavers 95 = .ok (.isub, 1) := by decide +kernel
theorem dX7_forgetLeavers_96 : decode cX7_forgetLeavers 96 = .ok (.putfield 263, 3) := by decide +kernel
theorem dX7_forgetLeavers_99 : decode cX7_forgetLeavers 99 = .ok (.iinc 3 (-1), 3) := by decide +kernel
theorem dX7_forgetLeavers_102 : decode cX7_forgetLeavers 102 = .ok (.goto (-82), 3) := by decide +kernel
theorem dX7_forgetLeavers_105 : decode cX7_forgetLeavers 105 = .ok (.return_, 1) := by decide +kernel
set_option maxRecDepth 20000 in
theorem ggX7_answerRequests_Jx4a65c_size_8abf5 : GoodIn wsX7_answerRequests wsJx4a65c_size_8abf5 := goodIn_r _ [8, 9, 60, 61, 62] (by decide +kernel) (by decide +kernel)
set_option maxRecDepth 20000 in
theorem gX7_answerRequests_Jx4a65c_size_8abf5 : GoodIn wsX7_answerRequests (wsV RX7 53 RJx4a65c yJx4a65c_size_8abf5 wsJx4a65c_size_8abf5) := goodIn_app (goodIn_of _ (by decide +kernel)) ggX7_answerRequests_Jx4a65c_size_8abf5
set_option maxRecDepth 20000 in
theorem ggX7_answerRequests_Jx4a65c_get_915e3 : GoodIn wsX7_answerRequests wsJx4a65c_get_915e3 := goodIn_r _ [13, 9, 14, 15, 16, 17, 18, 19, 20, 21, 22, 23, 24, 7, 25, 26, 60, 61, 62] (by decide +kernel) (by decide +kernel)
set_option maxRecDepth 20000 in
theorem gX7_answerRequests_Jx4a65c_get_915e3 : GoodIn wsX7_answerRequests (wsV RX7 120 RJx4a65c yJx4a65c_get_915e3 wsJx4a65c_get_915e3) := goodIn_app (goodIn_of _ (by decide +kernel)) ggX7_answerRequests_Jx4a65c_get_915e3
set_option maxRecDepth 20000 in
theorem ggX7_answerRequests_X7_archivedLines : GoodIn wsX7_answerRequests wsX7_archivedLines := goodIn_r _ [31, 32, 33, 4, 5, 6, 7, 8, 9, 10, 11, 12, 13, 14, 15, 16, 17, 18, 19, 20, 21, 22, 23, 24, 25, 26, 34, 35, 36, 37, 38, 39, 40, 41, 42, 43, 44, 45, 46, 47, 48, 49, 50, 51, 52, 53, 54, 55, 63, 64, 65, 66, 67, 68, 69, 70, 60, 61, 62, 71, 72, 73, 74, 75, 76, 77] (by decide +kernel) (by decide +kernel)
set_option maxRecDepth 20000 in
theorem gX7_answerRequests_X7_archivedLines : GoodIn wsX7_answerRequests (wsV RX7 169 RX7 yX7_archivedLines wsX7_archivedLines) := goodIn_app (goodIn_of _ (by decide +kernel)) ggX7_answerRequests_X7_archivedLines
theorem dX7_answerRequests_0 : decode cX7_answerRequests 0 = .ok (.iconst 0, 1) := by decide +kernel
theorem dX7_answerRequests_1 : decode cX7_answerRequests 1 = .ok (.istore_n 1, 1) := by decide +kernel
theorem dX7_answerRequests_2 : decode cX7_answerRequests 2 = .ok (.iload_n 1, 1) := by decide +kernel
theorem dX7_answerRequests_3 : decode cX7_answerRequests 3 = .ok (.aload_n 0, 1) := by decide +kernel
theorem dX7_answerRequests_4 : decode cX7_answerRequests 4 = .ok (.getfield 25, 3) := by decide +kernel
theorem dX7_answerRequests_7 : decode cX7_answerRequests 7 = .ok (.invokevirtual 53, 3) := by decide +kernel
theorem dX7_answerRequests_10 : decode cX7_answerRequests 10 = .ok (.if_icmp .ge 56, 3) := by decide +kernel
theorem dX7_answerRequests_13 : decode cX7_answerRequests 13 = .ok (.aload_n 0, 1) := by decide +kernel
theorem dX7_answerRequests_14 : decode cX7_answerRequests 14 = .ok (.getfield 25, 3) := by decide +kernel
theorem dX7_answerRequests_17 : decode cX7_answerRequests 17 = .ok (.iload_n 1, 1) := by decide +kernel
theorem dX7_answerRequests_18 : decode cX7_answerRequests 18 = .ok (.invokevirtual 120, 3) := by decide +kernel
theorem dX7_answerRequests_21 : decode cX7_answerRequests 21 = .ok (.checkcast 173, 3) := by decide +kernel
theorem dX7_answerRequests_24 : decode cX7_answerRequests 24 = .ok (.astore_n 2, 1) := by decide +kernel
theorem dX7_answerRequests_25 : decode cX7_answerRequests 25 = .ok (.aload_n 2, 1) := by decide +kernel
theorem dX7_answerRequests_26 : decode cX7_answerRequests 26 = .ok (.getfield 183, 3) := by decide +kernel
theorem dX7_answerRequests_29 : decode cX7_answerRequests 29 = .ok (.ifCond .ne 31, 3) := by decide +kernel
theorem dX7_answerRequests_32 : decode cX7_answerRequests 32 = .ok (.aload_n 2, 1) := by decide +kernel
theorem dX7_answerRequests_33 : decode cX7_answerRequests 33 = .ok (.getfield 397, 3) := by decide +kernel
theorem dX7_answerRequests_36 : decode cX7_answerRequests 36 = .ok (.aload_n 0, 1) := by decide +kernel
theorem dX7_answerRequests_37 : decode cX7_answerRequests 37 = .ok (.getfield 76, 3) := by decide +kernel
theorem dX7_answerRequests_40 : decode cX7_answerRequests 40 = .ok (.if_icmp .gt 20, 3) := by decide +kernel
theorem dX7_answerRequests_43 : decode cX7_answerRequests 43 = .ok (.aload_n 2, 1) := by decide +kernel
theorem dX7_answerRequests_44 : decode cX7_answerRequests 44 = .ok (.iconst 1, 1) := by decide +kernel
theorem dX7_answerRequests_45 : decode cX7_answerRequests 45 = .ok (.putfield 183, 3) := by decide +kernel
theorem dX7_answerRequests_48 : decode cX7_answerRequests 48 = .ok (.aload_n 2, 1) := by decide +kernel
theorem dX7_answerRequests_49 : decode cX7_answerRequests 49 = .ok (.aload_n 0, 1) := by decide +kernel
theorem dX7_answerRequests_50 : decode cX7_answerRequests 50 = .ok (.aload_n 2, 1) := by decide +kernel
theorem dX7_answerRequests_51 : decode cX7_answerRequests 51 = .ok (.getfield 400, 3) := by decide +kernel
theorem dX7_answerRequests_54 : decode cX7_answerRequests 54 = .ok (.invokevirtual 169, 3) := by decide +kernel
theorem dX7_answerRequests_57 : decode cX7_answerRequests 57 = .ok (.putfield 188, 3) := by decide +kernel
theorem dX7_answerRequests_60 : decode cX7_answerRequests 60 = .ok (.iinc 1 1, 3) := by decide +kernel
theorem dX7_answerRequests_63 : decode cX7_answerRequests 63 = .ok (.goto (-61), 3) := by decide +kernel
theorem dX7_answerRequests_66 : decode cX7_answerRequests 66 = .ok (.return_, 1) := by decide +kernel
set_option maxRecDepth 20000 in
theorem ggX7_archivedLines_Jx4a65c_size_8abf5 : GoodIn wsX7_archivedLines wsJx4a65c_size_8abf5 := goodIn_r _ [7, 8, 56, 57, 58] (by decide +kernel) (by decide +kernel)
set_option maxRecDepth 20000 in
theorem gX7_archivedLines_Jx4a65c_size_8abf5 : GoodIn wsX7_archivedLines (wsV RX7 53 RJx4a65c yJx4a65c_size_8abf5 wsJx4a65c_size_8abf5) := goodIn_app (goodIn_of _ (by decide +kernel)) ggX7_archivedLines_Jx4a65c_size_8abf5
set_option maxRecDepth 20000 in
theorem ggX7_archivedLines_Jx4a65c_get_915e3 : GoodIn wsX7_archivedLines wsJx4a65c_get_915e3 := goodIn_r _ [12, 8, 13, 14, 15, 16, 17, 18, 19, 20, 21, 22, 23, 6, 24, 25, 56, 57, 58] (by decide +kernel) (by decide +kernel)
set_option maxRecDepth 20000 in
theorem gX7_archivedLines_Jx4a65c_get_915e3 : GoodIn wsX7_archivedLines (wsV RX7 120 RJx4a65c yJx4a65c_get_915e3 wsJx4a65c_get_915e3) := goodIn_app (goodIn_of _ (by decide +kernel)) ggX7_archivedLines_Jx4a65c_get_915e3
set_option maxRecDepth 20000 in
theorem ggX7_archivedLines_X1_takes : GoodIn wsX7_archivedLines wsX1_takes := goodIn_r _ [29, 30, 31, 32, 33, 34, 35, 36, 37, 38, 39, 40, 48, 49, 50, 51, 52, 53, 54, 55, 59, 60, 61, 62, 63, 64, 65] (by decide +kernel) (by decide +kernel)
set_option maxRecDepth 20000 in
theorem gX7_archivedLines_X1_takes_n393 : GoodIn wsX7_archivedLines (wsX1_takes) := ggX7_archivedLines_X1_takes
theorem dX7_archivedLines_0 : decode cX7_archivedLines 0 = .ok (.iconst 0, 1) := by decide +kernel
theorem dX7_archivedLines_1 : decode cX7_archivedLines 1 = .ok (.istore_n 2, 1) := by decide +kernel
theorem dX7_archivedLines_2 : decode cX7_archivedLines 2 = .ok (.iconst 0, 1) := by decide +kernel
theorem dX7_archivedLines_3 : decode cX7_archivedLines 3 = .ok (.istore_n 3, 1) := by decide +kernel
theorem dX7_archivedLines_4 : decode cX7_archivedLines 4 = .ok (.iload_n 3, 1) := by decide +kernel
theorem dX7_archivedLines_5 : decode cX7_archivedLines 5 = .ok (.aload_n 0, 1) := by decide +kernel
theorem dX7_archivedLines_6 : decode cX7_archivedLines 6 = .ok (.getfield 10, 3) := by decide +kernel
theorem dX7_archivedLines_9 : decode cX7_archivedLines 9 = .ok (.invokevirtual 53, 3) := by decide +kernel
theorem dX7_archivedLines_12 : decode cX7_archivedLines 12 = .ok (.if_icmp .ge 44, 3) := by decide +kernel
theorem dX7_archivedLines_15 : decode cX7_archivedLines 15 = .ok (.aload_n 0, 1) := by decide +kernel
theorem dX7_archivedLines_16 : decode cX7_archivedLines 16 = .ok (.getfield 10, 3) := by decide +kernel
theorem dX7_archivedLines_19 : decode cX7_archivedLines 19 = .ok (.iload_n 3, 1) := by decide +kernel
theorem dX7_archivedLines_20 : decode cX7_archivedLines 20 = .ok (.invokevirtual 120, 3) := by decide +kernel
theorem dX7_archivedLines_23 : decode cX7_archivedLines 23 = .ok (.checkcast 74, 3) := by decide +kernel
theorem dX7_archivedLines_26 : decode cX7_archivedLines 26 = .ok (.astore 4, 2) := by decide +kernel
theorem dX7_archivedLines_28 : decode cX7_archivedLines 28 = .ok (.aload 4, 2) := by decide +kernel
theorem dX7_archivedLines_30 : decode cX7_archivedLines 30 = .ok (.getfield 103, 3) := by decide +kernel
theorem dX7_archivedLines_33 : decode cX7_archivedLines 33 = .ok (.bipush 97, 2) := by decide +kernel
theorem dX7_archivedLines_35 : decode cX7_archivedLines 35 = .ok (.if_icmp .ne 15, 3) := by decide +kernel
theorem dX7_archivedLines_38 : decode cX7_archivedLines 38 = .ok (.aload_n 1, 1) := by decide +kernel
theorem dX7_archivedLines_39 : decode cX7_archivedLines 39 = .ok (.aload 4, 2) := by decide +kernel
theorem dX7_archivedLines_41 : decode cX7_archivedLines 41 = .ok (.invokevirtual 393, 3) := by decide +kernel
theorem dX7_archivedLines_44 : decode cX7_archivedLines 44 = .ok (.ifCond .eq 6, 3) := by decide +kernel
theorem dX7_archivedLines_47 : decode cX7_archivedLines 47 = .ok (.iinc 2 1, 3) := by decide +kernel
theorem dX7_archivedLines_50 : decode cX7_archivedLines 50 = .ok (.iinc 3 1, 3) := by decide +kernel
theorem dX7_archivedLines_53 : decode cX7_archivedLines 53 = .ok (.goto (-49), 3) := by decide +kernel
theorem dX7_archivedLines_56 : decode cX7_archivedLines 56 = .ok (.iload_n 2, 1) := by decide +kernel
theorem dX7_archivedLines_57 : decode cX7_archivedLines 57 = .ok (.ireturn, 1) := by decide +kernel
set_option maxRecDepth 20000 in
theorem ggX7_countsAreSound_Jx4a65c_size_8abf5 : GoodIn wsX7_countsAreSound wsJx4a65c_size_8abf5 := goodIn_r _ [7, 8, 76, 77, 78] (by decide +kernel) (by decide +kernel)
set_option maxRecDepth 20000 in
theorem gX7_countsAreSound_Jx4a65c_size_8abf5 : GoodIn wsX7_countsAreSound (wsV RX7 53 RJx4a65c yJx4a65c_size_8abf5 wsJx4a65c_size_8abf5) := goodIn_app (goodIn_of _ (by decide +kernel)) ggX7_countsAreSound_Jx4a65c_size_8abf5
set_option maxRecDepth 20000 in
theorem ggX7_countsAreSound_Jx4a65c_get_915e3 : GoodIn wsX7_countsAreSound wsJx4a65c_get_915e3 := goodIn_r _ [12, 8, 13, 14, 15, 16, 17, 18, 19, 20, 21, 22, 23, 6, 24, 25, 76, 77, 78] (by decide +kernel) (by decide +kernel)
set_option maxRecDepth 20000 in
theorem gX7_countsAreSound_Jx4a65c_get_915e3 : GoodIn wsX7_countsAreSound (wsV RX7 120 RJx4a65c yJx4a65c_get_915e3 wsJx4a65c_get_915e3) := goodIn_app (goodIn_of _ (by decide +kernel)) ggX7_countsAreSound_Jx4a65c_get_915e3
set_option maxRecDepth 20000 in
theorem ggX7_countsAreSound_X7_countFromAllLines : GoodIn wsX7_countsAreSound wsX7_countFromAllLines := goodIn_r _ [30, 31, 32, 33, 3, 4, 5, 6, 7, 8, 9, 10, 11, 12, 13, 14, 15, 16, 17, 18, 19, 20, 21, 22, 23, 24, 25, 34, 35, 36, 37, 38, 39, 40, 41, 42, 43, 44, 45, 46, 47, 48, 49, 50, 51, 52, 53, 54, 55, 56, 57, 58, 59, 60, 61, 62, 63, 64, 65, 66, 76, 77, 78, 79, 80, 81, 82, 83, 84, 85, 86, 67, 68, 69, 70, 71, 72, 73, 74, 75, 87, 88, 89, 90, 91, 92, 93] (by decide +kernel) (by decide +kernel)
set_option maxRecDepth 20000 in
theorem gX7_countsAreSound_X7_countFromAllLines : GoodIn wsX7_countsAreSound (wsV RX7 216 RX7 yX7_countFromAllLines wsX7_countFromAllLines) := goodIn_app (goodIn_of _ (by decide +kernel)) ggX7_countsAreSound_X7_countFromAllLines
theorem dX7_countsAreSound_0 : decode cX7_countsAreSound 0 = .ok (.iconst 0, 1) := by decide +kernel
theorem dX7_countsAreSound_1 : decode cX7_countsAreSound 1 = .ok (.istore_n 1, 1) := by decide +kernel
theorem dX7_countsAreSound_2 : decode cX7_countsAreSound 2 = .ok (.iload_n 1, 1) := by decide +kernel
theorem dX7_countsAreSound_3 : decode cX7_countsAreSound 3 = .ok (.aload_n 0, 1) := by decide +kernel
theorem dX7_countsAreSound_4 : decode cX7_countsAreSound 4 = .ok (.getfield 19, 3) := by decide +kernel
theorem dX7_countsAreSound_7 : decode cX7_countsAreSound 7 = .ok (.invokevirtual 53, 3) := by decide +kernel
theorem dX7_countsAreSound_10 : decode cX7_countsAreSound 10 = .ok (.if_icmp .ge 35, 3) := by decide +kernel
theorem dX7_countsAreSound_13 : decode cX7_countsAreSound 13 = .ok (.aload_n 0, 1) := by decide +kernel
theorem dX7_countsAreSound_14 : decode cX7_countsAreSound 14 = .ok (.getfield 19, 3) := by decide +kernel
theorem dX7_countsAreSound_17 : decode cX7_countsAreSound 17 = .ok (.iload_n 1, 1) := by decide +kernel
theorem dX7_countsAreSound_18 : decode cX7_countsAreSound 18 = .ok (.invokevirtual 120, 3) := by decide +kernel
theorem dX7_countsAreSound_21 : decode cX7_countsAreSound 21 = .ok (.checkcast 195, 3) := by decide +kernel
theorem dX7_countsAreSound_24 : decode cX7_countsAreSound 24 = .ok (.astore_n 2, 1) := by decide +kernel
theorem dX7_countsAreSound_25 : decode cX7_countsAreSound 25 = .ok (.aload_n 2, 1) := by decide +kernel
theorem dX7_countsAreSound_26 : decode cX7_countsAreSound 26 = .ok (.getfield 213, 3) := by decide +kernel
theorem dX7_countsAreSound_29 : decode cX7_countsAreSound 29 = .ok (.aload_n 0, 1) := by decide +kernel
theorem dX7_countsAreSound_30 : decode cX7_countsAreSound 30 = .ok (.aload_n 2, 1) := by decide +kernel
theorem dX7_countsAreSound_31 : decode cX7_countsAreSound 31 = .ok (.invokevirtual 216, 3) := by decide +kernel
theorem dX7_countsAreSound_34 : decode cX7_countsAreSound 34 = .ok (.if_icmp .eq 5, 3) := by decide +kernel
theorem dX7_countsAreSound_37 : decode cX7_countsAreSound 37 = .ok (.iconst 0, 1) := by decide +kernel
theorem dX7_countsAreSound_38 : decode cX7_countsAreSound 38 = .ok (.ireturn, 1) := by decide +kernel
theorem dX7_countsAreSound_39 : decode cX7_countsAreSound 39 = .ok (.iinc 1 1, 3) := by decide +kernel
theorem dX7_countsAreSound_42 : decode cX7_countsAreSound 42 = .ok (.goto (-40), 3) := by decide +kernel
theorem dX7_countsAreSound_45 : decode cX7_countsAreSound 45 = .ok (.iconst 1, 1) := by decide +kernel
theorem dX7_countsAreSound_46 : decode cX7_countsAreSound 46 = .ok (.ireturn, 1) := by decide +kernel
set_option maxRecDepth 20000 in
theorem ggX7_firingsAreSound_Jx4a65c_size_8abf5 : GoodIn wsX7_firingsAreSound wsJx4a65c_size_8abf5 := goodIn_r _ [7, 8, 53, 54, 55] (by decide +kernel) (by decide +kernel)
set_option maxRecDepth 20000 in
theorem gX7_firingsAreSound_Jx4a65c_size_8abf5 : GoodIn wsX7_firingsAreSound (wsV RX7 53 RJx4a65c yJx4a65c_size_8abf5 wsJx4a65c_size_8abf5) := goodIn_app (goodIn_of _ (by decide +kernel)) ggX7_firingsAreSound_Jx4a65c_size_8abf5
set_option maxRecDepth 20000 in
theorem ggX7_firingsAreSound_Jx4a65c_get_915e3 : GoodIn wsX7_firingsAreSound wsJx4a65c_get_915e3 := goodIn_r _ [12, 8, 13, 14, 15, 16, 17, 18, 19, 20, 21, 22, 23, 6, 24, 25, 53, 54, 55] (by decide +kernel) (by decide +kernel)
set_option maxRecDepth 20000 in
theorem gX7_firingsAreSound_Jx4a65c_get_915e3 : GoodIn wsX7_firingsAreSound (wsV RX7 120 RJx4a65c yJx4a65c_get_915e3 wsJx4a65c_get_915e3) := goodIn_app (goodIn_of _ (by decide +kernel)) ggX7_firingsAreSound_Jx4a65c_get_915e3
set_option maxRecDepth 20000 in
theorem ggX7_firingsAreSound_X7_someFiringHas : GoodIn wsX7_firingsAreSound wsX7_someFiringHas := goodIn_ca (goodIn_r _ [30, 31, 32, 3, 4, 5, 6, 7, 8, 9, 10, 11, 12, 13, 14, 15, 16, 17, 18, 19, 20, 21, 22, 23, 24, 25, 33, 34, 35, 36, 37, 38, 39, 40, 41, 42, 43, 44, 53, 54, 55, 56, 57, 58, 59, 60] (by decide +kernel) (by decide +kernel)) (goodIn_sub (fun _ h => List.mem_cons_of_mem _ (List.mem_append_right _ h)) (by decide +kernel))
set_option maxRecDepth 20000 in
theorem gX7_firingsAreSound_X7_someFiringHas : GoodIn wsX7_firingsAreSound (wsV RX7 401 RX7 yX7_someFiringHas wsX7_someFiringHas) := goodIn_app (goodIn_of _ (by decide +kernel)) ggX7_firingsAreSound_X7_someFiringHas
theorem dX7_firingsAreSound_0 : decode cX7_firingsAreSound 0 = .ok (.iconst 0, 1) := by decide +kernel
theorem dX7_firingsAreSound_1 : decode cX7_firingsAreSound 1 = .ok (.istore_n 1, 1) := by decide +kernel
theorem dX7_firingsAreSound_2 : decode cX7_firingsAreSound 2 = .ok (.iload_n 1, 1) := by decide +kernel
theorem dX7_firingsAreSound_3 : decode cX7_firingsAreSound 3 = .ok (.aload_n 0, 1) := by decide +kernel
theorem dX7_firingsAreSound_4 : decode cX7_firingsAreSound 4 = .ok (.getfield 10, 3) := by decide +kernel
theorem dX7_firingsAreSound_7 : decode cX7_firingsAreSound 7 = .ok (.invokevirtual 53, 3) := by decide +kernel
theorem dX7_firingsAreSound_10 : decode cX7_firingsAreSound 10 = .ok (.if_icmp .ge 38, 3) := by decide +kernel
theorem dX7_firingsAreSound_13 : decode cX7_firingsAreSound 13 = .ok (.aload_n 0, 1) := by decide +kernel
theorem dX7_firingsAreSound_14 : decode cX7_firingsAreSound 14 = .ok (.getfield 10, 3) := by decide +kernel
theorem dX7_firingsAreSound_17 : decode cX7_firingsAreSound 17 = .ok (.iload_n 1, 1) := by decide +kernel
theorem dX7_firingsAreSound_18 : decode cX7_firingsAreSound 18 = .ok (.invokevirtual 120, 3) := by decide +kernel
theorem dX7_firingsAreSound_21 : decode cX7_firingsAreSound 21 = .ok (.checkcast 74, 3) := by decide +kernel
theorem dX7_firingsAreSound_24 : decode cX7_firingsAreSound 24 = .ok (.getfield 103, 3) := by decide +kernel
theorem dX7_firingsAreSound_27 : decode cX7_firingsAreSound 27 = .ok (.bipush 100, 2) := by decide +kernel
theorem dX7_firingsAreSound_29 : decode cX7_firingsAreSound 29 = .ok (.if_icmp .ne 13, 3) := by decide +kernel
theorem dX7_firingsAreSound_32 : decode cX7_firingsAreSound 32 = .ok (.aload_n 0, 1) := by decide +kernel
theorem dX7_firingsAreSound_33 : decode cX7_firingsAreSound 33 = .ok (.iload_n 1, 1) := by decide +kernel
theorem dX7_firingsAreSound_34 : decode cX7_firingsAreSound 34 = .ok (.invokevirtual 401, 3) := by decide +kernel
theorem dX7_firingsAreSound_37 : decode cX7_firingsAreSound 37 = .ok (.ifCond .eq 5, 3) := by decide +kernel
theorem dX7_firingsAreSound_40 : decode cX7_firingsAreSound 40 = .ok (.iconst 0, 1) := by decide +kernel
theorem dX7_firingsAreSound_41 : decode cX7_firingsAreSound 41 = .ok (.ireturn, 1) := by decide +kernel
theorem dX7_firingsAreSound_42 : decode cX7_firingsAreSound 42 = .ok (.iinc 1 1, 3) := by decide +kernel
theorem dX7_firingsAreSound_45 : decode cX7_firingsAreSound 45 = .ok (.goto (-43), 3) := by decide +kernel
theorem dX7_firingsAreSound_48 : decode cX7_firingsAreSound 48 = .ok (.iconst 1, 1) := by decide +kernel
theorem dX7_firingsAreSound_49 : decode cX7_firingsAreSound 49 = .ok (.ireturn, 1) := by decide +kernel
set_option maxRecDepth 20000 in
theorem ggX7_someFiringHas_Jx4a65c_size_8abf5 : GoodIn wsX7_someFiringHas wsJx4a65c_size_8abf5 := goodIn_r _ [7, 8, 38, 39, 40] (by decide +kernel) (by decide +kernel)
set_option maxRecDepth 20000 in
theorem gX7_someFiringHas_Jx4a65c_size_8abf5 : GoodIn wsX7_someFiringHas (wsV RX7 53 RJx4a65c yJx4a65c_size_8abf5 wsJx4a65c_size_8abf5) := goodIn_app (goodIn_of _ (by decide +kernel)) ggX7_someFiringHas_Jx4a65c_size_8abf5
set_option maxRecDepth 20000 in
theorem ggX7_someFiringHas_Jx4a65c_get_915e3 : GoodIn wsX7_someFiringHas wsJx4a65c_get_915e3 := goodIn_r _ [12, 8, 13, 14, 15, 16, 17, 18, 19, 20, 21, 22, 23, 6, 24, 25, 38, 39, 40] (by decide +kernel) (by decide +kernel)
set_option maxRecDepth 20000 in
theorem gX7_someFiringHas_Jx4a65c_get_915e3 : GoodIn wsX7_someFiringHas (wsV RX7 120 RJx4a65c yJx4a65c_get_915e3 wsJx4a65c_get_915e3) := goodIn_app (goodIn_of _ (by decide +kernel)) ggX7_someFiringHas_Jx4a65c_get_915e3
set_option maxRecDepth 20000 in
theorem ggX7_someFiringHas_X2_hasLine : GoodIn wsX7_someFiringHas wsX2_hasLine := goodIn_ca (goodIn_r _ [29, 30, 41, 42, 43, 44, 45] (by decide +kernel) (by decide +kernel)) (goodIn_sub (fun _ h => List.mem_cons_of_mem _ (List.mem_append_right _ h)) (by decide +kernel))
set_option maxRecDepth 20000 in
theorem gX7_someFiringHas_X2_hasLine_n239 : GoodIn wsX7_someFiringHas (wsX2_hasLine) := ggX7_someFiringHas_X2_hasLine
theorem dX7_someFiringHas_0 : decode cX7_someFiringHas 0 = .ok (.iconst 0, 1) := by decide +kernel
theorem dX7_someFiringHas_1 : decode cX7_someFiringHas 1 = .ok (.istore_n 2, 1) := by decide +kernel
theorem dX7_someFiringHas_2 : decode cX7_someFiringHas 2 = .ok (.iload_n 2, 1) := by decide +kernel
theorem dX7_someFiringHas_3 : decode cX7_someFiringHas 3 = .ok (.aload_n 0, 1) := by decide +kernel
theorem dX7_someFiringHas_4 : decode cX7_someFiringHas 4 = .ok (.getfield 22, 3) := by decide +kernel
theorem dX7_someFiringHas_7 : decode cX7_someFiringHas 7 = .ok (.invokevirtual 53, 3) := by decide +kernel
theorem dX7_someFiringHas_10 : decode cX7_someFiringHas 10 = .ok (.if_icmp .ge 29, 3) := by decide +kernel
theorem dX7_someFiringHas_13 : decode cX7_someFiringHas 13 = .ok (.aload_n 0, 1) := by decide +kernel
theorem dX7_someFiringHas_14 : decode cX7_someFiringHas 14 = .ok (.getfield 22, 3) := by decide +kernel
theorem dX7_someFiringHas_17 : decode cX7_someFiringHas 17 = .ok (.iload_n 2, 1) := by decide +kernel
theorem dX7_someFiringHas_18 : decode cX7_someFiringHas 18 = .ok (.invokevirtual 120, 3) := by decide +kernel
theorem dX7_someFiringHas_21 : decode cX7_someFiringHas 21 = .ok (.checkcast 228, 3) := by decide +kernel
theorem dX7_someFiringHas_24 : decode cX7_someFiringHas 24 = .ok (.iload_n 1, 1) := by decide +kernel
theorem dX7_someFiringHas_25 : decode cX7_someFiringHas 25 = .ok (.invokevirtual 239, 3) := by decide +kernel
theorem dX7_someFiringHas_28 : decode cX7_someFiringHas 28 = .ok (.ifCond .eq 5, 3) := by decide +kernel
theorem dX7_someFiringHas_31 : decode cX7_someFiringHas 31 = .ok (.iconst 1, 1) := by decide +kernel
theorem dX7_someFiringHas_32 : decode cX7_someFiringHas 32 = .ok (.ireturn, 1) := by decide +kernel
theorem dX7_someFiringHas_33 : decode cX7_someFiringHas 33 = .ok (.iinc 2 1, 3) := by decide +kernel
theorem dX7_someFiringHas_36 : decode cX7_someFiringHas 36 = .ok (.goto (-34), 3) := by decide +kernel
theorem dX7_someFiringHas_39 : decode cX7_someFiringHas 39 = .ok (.iconst 0, 1) := by decide +kernel
theorem dX7_someFiringHas_40 : decode cX7_someFiringHas 40 = .ok (.ireturn, 1) := by decide +kernel
set_option maxRecDepth 20000 in
theorem ggX7_patternsAreSound_Jx4a65c_size_8abf5 : GoodIn wsX7_patternsAreSound wsJx4a65c_size_8abf5 := goodIn_r _ [7, 8, 58, 59, 60] (by decide +kernel) (by decide +kernel)
set_option maxRecDepth 20000 in
theorem gX7_patternsAreSound_Jx4a65c_size_8abf5 : GoodIn wsX7_patternsAreSound (wsV RX7 53 RJx4a65c yJx4a65c_size_8abf5 wsJx4a65c_size_8abf5) := goodIn_app (goodIn_of _ (by decide +kernel)) ggX7_patternsAreSound_Jx4a65c_size_8abf5
set_option maxRecDepth 20000 in
theorem ggX7_patternsAreSound_Jx4a65c_get_915e3 : GoodIn wsX7_patternsAreSound wsJx4a65c_get_915e3 := goodIn_r _ [12, 8, 13, 14, 15, 16, 17, 18, 19, 20, 21, 22, 23, 6, 24, 25, 58, 59, 60] (by decide +kernel) (by decide +kernel)
set_option maxRecDepth 20000 in
theorem gX7_patternsAreSound_Jx4a65c_get_915e3 : GoodIn wsX7_patternsAreSound (wsV RX7 120 RJx4a65c yJx4a65c_get_915e3 wsJx4a65c_get_915e3) := goodIn_app (goodIn_of _ (by decide +kernel)) ggX7_patternsAreSound_Jx4a65c_get_915e3
set_option maxRecDepth 20000 in
theorem ggX7_patternsAreSound_X4_suits : GoodIn wsX7_patternsAreSound wsX4_suits := goodIn_r _ [29, 30, 31, 32, 33, 34, 35, 36, 37, 38, 54, 55, 56, 57, 61, 62, 63] (by decide +kernel) (by decide +kernel)
set_option maxRecDepth 20000 in
theorem gX7_patternsAreSound_X4_suits_n313 : GoodIn wsX7_patternsAreSound (wsX4_suits) := ggX7_patternsAreSound_X4_suits
theorem dX7_patternsAreSound_0 : decode cX7_patternsAreSound 0 = .ok (.iconst 0, 1) := by decide +kernel
theorem dX7_patternsAreSound_1 : decode cX7_patternsAreSound 1 = .ok (.istore_n 1, 1) := by decide +kernel
theorem dX7_patternsAreSound_2 : decode cX7_patternsAreSound 2 = .ok (.iload_n 1, 1) := by decide +kernel
theorem dX7_patternsAreSound_3 : decode cX7_patternsAreSound 3 = .ok (.aload_n 0, 1) := by decide +kernel
theorem dX7_patternsAreSound_4 : decode cX7_patternsAreSound 4 = .ok (.getfield 10, 3) := by decide +kernel
theorem dX7_patternsAreSound_7 : decode cX7_patternsAreSound 7 = .ok (.invokevirtual 53, 3) := by decide +kernel
theorem dX7_patternsAreSound_10 : decode cX7_patternsAreSound 10 = .ok (.if_icmp .ge 51, 3) := by decide +kernel
theorem dX7_patternsAreSound_13 : decode cX7_patternsAreSound 13 = .ok (.aload_n 0, 1) := by decide +kernel
theorem dX7_patternsAreSound_14 : decode cX7_patternsAreSound 14 = .ok (.getfield 10, 3) := by decide +kernel
theorem dX7_patternsAreSound_17 : decode cX7_patternsAreSound 17 = .ok (.iload_n 1, 1) := by decide +kernel
theorem dX7_patternsAreSound_18 : decode cX7_patternsAreSound 18 = .ok (.invokevirtual 120, 3) := by decide +kernel
theorem dX7_patternsAreSound_21 : decode cX7_patternsAreSound 21 = .ok (.checkcast 74, 3) := by decide +kernel
theorem dX7_patternsAreSound_24 : decode cX7_patternsAreSound 24 = .ok (.astore_n 2, 1) := by decide +kernel
theorem dX7_patternsAreSound_25 : decode cX7_patternsAreSound 25 = .ok (.aload_n 2, 1) := by decide +kernel
theorem dX7_patternsAreSound_26 : decode cX7_patternsAreSound 26 = .ok (.getfield 107, 3) := by decide +kernel
theorem dX7_patternsAreSound_29 : decode cX7_patternsAreSound 29 = .ok (.getfield 127, 3) := by decide +kernel
theorem dX7_patternsAreSound_32 : decode cX7_patternsAreSound 32 = .ok (.ifCond .ne 21, 3) := by decide +kernel
theorem dX7_patternsAreSound_35 : decode cX7_patternsAreSound 35 = .ok (.aload_n 2, 1) := by decide +kernel
theorem dX7_patternsAreSound_36 : decode cX7_patternsAreSound 36 = .ok (.getfield 107, 3) := by decide +kernel
theorem dX7_patternsAreSound_39 : decode cX7_patternsAreSound 39 = .ok (.aload_n 2, 1) := by decide +kernel
theorem dX7_patternsAreSound_40 : decode cX7_patternsAreSound 40 = .ok (.getfield 157, 3) := by decide +kernel
theorem dX7_patternsAreSound_43 : decode cX7_patternsAreSound 43 = .ok (.aload_n 2, 1) := by decide +kernel
theorem dX7_patternsAreSound_44 : decode cX7_patternsAreSound 44 = .ok (.getfield 145, 3) := by decide +kernel
theorem dX7_patternsAreSound_47 : decode cX7_patternsAreSound 47 = .ok (.invokevirtual 313, 3) := by decide +kernel
theorem dX7_patternsAreSound_50 : decode cX7_patternsAreSound 50 = .ok (.ifCond .ne 5, 3) := by decide +kernel
theorem dX7_patternsAreSound_53 : decode cX7_patternsAreSound 53 = .ok (.iconst 0, 1) := by decide +kernel
theorem dX7_patternsAreSound_54 : decode cX7_patternsAreSound 54 = .ok (.ireturn, 1) := by decide +kernel
theorem dX7_patternsAreSound_55 : decode cX7_patternsAreSound 55 = .ok (.iinc 1 1, 3) := by decide +kernel
theorem dX7_patternsAreSound_58 : decode cX7_patternsAreSound 58 = .ok (.goto (-56), 3) := by decide +kernel
theorem dX7_patternsAreSound_61 : decode cX7_patternsAreSound 61 = .ok (.iconst 1, 1) := by decide +kernel
theorem dX7_patternsAreSound_62 : decode cX7_patternsAreSound 62 = .ok (.ireturn, 1) := by decide +kernel
theorem dJx00060_init_a7421_0 : decode cJx00060_init_a7421 0 = .ok (.aload_n 0, 1) := by decide +kernel
theorem dJx00060_init_a7421_1 : decode cJx00060_init_a7421 1 = .ok (.aload_n 1, 1) := by decide +kernel
theorem dJx00060_init_a7421_2 : decode cJx00060_init_a7421 2 = .ok (.invokespecial 7, 3) := by decide +kernel
theorem dJx00060_init_a7421_5 : decode cJx00060_init_a7421 5 = .ok (.return_, 1) := by decide +kernel
theorem dJ13_bitCount_95d88_0 : decode cJ13_bitCount_95d88 0 = .ok (.lload_n 0, 1) := by decide +kernel
theorem dJ13_bitCount_95d88_1 : decode cJ13_bitCount_95d88 1 = .ok (.lload_n 0, 1) := by decide +kernel
theorem dJ13_bitCount_95d88_2 : decode cJ13_bitCount_95d88 2 = .ok (.iconst 1, 1) := by decide +kernel
theorem dJ13_bitCount_95d88_3 : decode cJ13_bitCount_95d88 3 = .ok (.lushr, 1) := by decide +kernel
theorem dJ13_bitCount_95d88_4 : decode cJ13_bitCount_95d88 4 = .ok (.ldc2_w 314, 3) := by decide +kernel
theorem dJ13_bitCount_95d88_7 : decode cJ13_bitCount_95d88 7 = .ok (.land, 1) := by decide +kernel
theorem dJ13_bitCount_95d88_8 : decode cJ13_bitCount_95d88 8 = .ok (.lsub, 1) := by decide +kernel
theorem dJ13_bitCount_95d88_9 : decode cJ13_bitCount_95d88 9 = .ok (.lstore_n 0, 1) := by decide +kernel
theorem dJ13_bitCount_95d88_10 : decode cJ13_bitCount_95d88 10 = .ok (.lload_n 0, 1) := by decide +kernel
theorem dJ13_bitCount_95d88_11 : decode cJ13_bitCount_95d88 11 = .ok (.ldc2_w 316, 3) := by decide +kernel
theorem dJ13_bitCount_95d88_14 : decode cJ13_bitCount_95d88 14 = .ok (.land, 1) := by decide +kernel
theorem dJ13_bitCount_95d88_15 : decode cJ13_bitCount_95d88 15 = .ok (.lload_n 0, 1) := by decide +kernel
theorem dJ13_bitCount_95d88_16 : decode cJ13_bitCount_95d88 16 = .ok (.iconst 2, 1) := by decide +kernel
theorem dJ13_bitCount_95d88_17 : decode cJ13_bitCount_95d88 17 = .ok (.lushr, 1) := by decide +kernel
theorem dJ13_bitCount_95d88_18 : decode cJ13_bitCount_95d88 18 = .ok (.ldc2_w 316, 3) := by decide +kernel
theorem dJ13_bitCount_95d88_21 : decode cJ13_bitCount_95d88 21 = .ok (.land, 1) := by decide +kernel
theorem dJ13_bitCount_95d88_22 : decode cJ13_bitCount_95d88 22 = .ok (.ladd, 1) := by decide +kernel
theorem dJ13_bitCount_95d88_23 : decode cJ13_bitCount_95d88 23 = .ok (.lstore_n 0, 1) := by decide +kernel
theorem dJ13_bitCount_95d88_24 : decode cJ13_bitCount_95d88 24 = .ok (.lload_n 0, 1) := by decide +kernel
theorem dJ13_bitCount_95d88_25 : decode cJ13_bitCount_95d88 25 = .ok (.lload_n 0, 1) := by decide +kernel
theorem dJ13_bitCount_95d88_26 : decode cJ13_bitCount_95d88 26 = .ok (.iconst 4, 1) := by decide +kernel
theorem dJ13_bitCount_95d88_27 : decode cJ13_bitCount_95d88 27 = .ok (.lushr, 1) := by decide +kernel
theorem dJ13_bitCount_95d88_28 : decode cJ13_bitCount_95d88 28 = .ok (.ladd, 1) := by decide +kernel
theorem dJ13_bitCount_95d88_29 : decode cJ13_bitCount_95d88 29 = .ok (.ldc2_w 318, 3) := by decide +kernel
theorem dJ13_bitCount_95d88_32 : decode cJ13_bitCount_95d88 32 = .ok (.land, 1) := by decide +kernel
theorem dJ13_bitCount_95d88_33 : decode cJ13_bitCount_95d88 33 = .ok (.lstore_n 0, 1) := by decide +kernel
theorem dJ13_bitCount_95d88_34 : decode cJ13_bitCount_95d88 34 = .ok (.lload_n 0, 1) := by decide +kernel
theorem dJ13_bitCount_95d88_35 : decode cJ13_bitCount_95d88 35 = .ok (.lload_n 0, 1) := by decide +kernel
theorem dJ13_bitCount_95d88_36 : decode cJ13_bitCount_95d88 36 = .ok (.bipush 8, 2) := by decide +kernel
theorem dJ13_bitCount_95d88_38 : decode cJ13_bitCount_95d88 38 = .ok (.lushr, 1) := by decide +kernel
theorem dJ13_bitCount_95d88_39 : decode cJ13_bitCount_95d88 39 = .ok (.ladd, 1) := by decide +kernel
theorem dJ13_bitCount_95d88_40 : decode cJ13_bitCount_95d88 40 = .ok (.lstore_n 0, 1) := by decide +kernel
theorem dJ13_bitCount_95d88_41 : decode cJ13_bitCount_95d88 41 = .ok (.lload_n 0, 1) := by decide +kernel
theorem dJ13_bitCount_95d88_42 : decode cJ13_bitCount_95d88 42 = .ok (.lload_n 0, 1) := by decide +kernel
theorem dJ13_bitCount_95d88_43 : decode cJ13_bitCount_95d88 43 = .ok (.bipush 16, 2) := by decide +kernel
theorem dJ13_bitCount_95d88_45 : decode cJ13_bitCount_95d88 45 = .ok (.lushr, 1) := by decide +kernel
theorem dJ13_bitCount_95d88_46 : decode cJ13_bitCount_95d88 46 = .ok (.ladd, 1) := by decide +kernel
theorem dJ13_bitCount_95d88_47 : decode cJ13_bitCount_95d88 47 = .ok (.lstore_n 0, 1) := by decide +kernel
theorem dJ13_bitCount_95d88_48 : decode cJ13_bitCount_95d88 48 = .ok (.lload_n 0, 1) := by decide +kernel
theorem dJ13_bitCount_95d88_49 : decode cJ13_bitCount_95d88 49 = .ok (.lload_n 0, 1) := by decide +kernel
theorem dJ13_bitCount_95d88_50 : decode cJ13_bitCount_95d88 50 = .ok (.bipush 32, 2) := by decide +kernel
theorem dJ13_bitCount_95d88_52 : decode cJ13_bitCount_95d88 52 = .ok (.lushr, 1) := by decide +kernel
theorem dJ13_bitCount_95d88_53 : decode cJ13_bitCount_95d88 53 = .ok (.ladd, 1) := by decide +kernel
theorem dJ13_bitCount_95d88_54 : decode cJ13_bitCount_95d88 54 = .ok (.lstore_n 0, 1) := by decide +kernel
theorem dJ13_bitCount_95d88_55 : decode cJ13_bitCount_95d88 55 = .ok (.lload_n 0, 1) := by decide +kernel
theorem dJ13_bitCount_95d88_56 : decode cJ13_bitCount_95d88 56 = .ok (.l2i, 1) := by decide +kernel
theorem dJ13_bitCount_95d88_57 : decode cJ13_bitCount_95d88 57 = .ok (.bipush 127, 2) := by decide +kernel
theorem dJ13_bitCount_95d88_59 : decode cJ13_bitCount_95d88 59 = .ok (.iand, 1) := by decide +kernel
theorem dJ13_bitCount_95d88_60 : decode cJ13_bitCount_95d88 60 = .ok (.ireturn, 1) := by decide +kernel
theorem dJ9_max_7cf53_0 : decode cJ9_max_7cf53 0 = .ok (.iload_n 0, 1) := by decide +kernel
theorem dJ9_max_7cf53_1 : decode cJ9_max_7cf53 1 = .ok (.iload_n 1, 1) := by decide +kernel
theorem dJ9_max_7cf53_2 : decode cJ9_max_7cf53 2 = .ok (.if_icmp .lt 7, 3) := by decide +kernel
theorem dJ9_max_7cf53_5 : decode cJ9_max_7cf53 5 = .ok (.iload_n 0, 1) := by decide +kernel
theorem dJ9_max_7cf53_6 : decode cJ9_max_7cf53 6 = .ok (.goto 4, 3) := by decide +kernel
theorem dJ9_max_7cf53_9 : decode cJ9_max_7cf53 9 = .ok (.iload_n 1, 1) := by decide +kernel
theorem dJ9_max_7cf53_10 : decode cJ9_max_7cf53 10 = .ok (.ireturn, 1) := by decide +kernel
theorem dJ9_min_7cf53_0 : decode cJ9_min_7cf53 0 = .ok (.iload_n 0, 1) := by decide +kernel
theorem dJ9_min_7cf53_1 : decode cJ9_min_7cf53 1 = .ok (.iload_n 1, 1) := by decide +kernel
theorem dJ9_min_7cf53_2 : decode cJ9_min_7cf53 2 = .ok (.if_icmp .gt 7, 3) := by decide +kernel
theorem dJ9_min_7cf53_5 : decode cJ9_min_7cf53 5 = .ok (.iload_n 0, 1) := by decide +kernel
theorem dJ9_min_7cf53_6 : decode cJ9_min_7cf53 6 = .ok (.goto 4, 3) := by decide +kernel
theorem dJ9_min_7cf53_9 : decode cJ9_min_7cf53 9 = .ok (.iload_n 1, 1) := by decide +kernel
theorem dJ9_min_7cf53_10 : decode cJ9_min_7cf53 10 = .ok (.ireturn, 1) := by decide +kernel
theorem dJxa1e45_init_da8c8_0 : decode cJxa1e45_init_da8c8 0 = .ok (.aload_n 0, 1) := by decide +kernel
theorem dJxa1e45_init_da8c8_1 : decode cJxa1e45_init_da8c8 1 = .ok (.invokespecial 1, 3) := by decide +kernel
theorem dJxa1e45_init_da8c8_4 : decode cJxa1e45_init_da8c8 4 = .ok (.return_, 1) := by decide +kernel
set_option maxRecDepth 20000 in
theorem ggJxc12de_init_da8c8_Jxa1e45_init_da8c8 : GoodIn wsJxc12de_init_da8c8 wsJxa1e45_init_da8c8 := goodIn_r _ [5, 6, 7, 8] (by decide +kernel) (by decide +kernel)
set_option maxRecDepth 20000 in
theorem gJxc12de_init_da8c8_Jxa1e45_init_da8c8 : GoodIn wsJxc12de_init_da8c8 (wsJxa1e45_init_da8c8) := ggJxc12de_init_da8c8_Jxa1e45_init_da8c8
theorem dJxc12de_init_da8c8_0 : decode cJxc12de_init_da8c8 0 = .ok (.aload_n 0, 1) := by decide +kernel
theorem dJxc12de_init_da8c8_1 : decode cJxc12de_init_da8c8 1 = .ok (.invokespecial 1, 3) := by decide +kernel
theorem dJxc12de_init_da8c8_4 : decode cJxc12de_init_da8c8 4 = .ok (.aload_n 0, 1) := by decide +kernel
theorem dJxc12de_init_da8c8_5 : decode cJxc12de_init_da8c8 5 = .ok (.iconst 0, 1) := by decide +kernel
theorem dJxc12de_init_da8c8_6 : decode cJxc12de_init_da8c8 6 = .ok (.putfield 7, 3) := by decide +kernel
theorem dJxc12de_init_da8c8_9 : decode cJxc12de_init_da8c8 9 = .ok (.return_, 1) := by decide +kernel
set_option maxRecDepth 20000 in
theorem ggJx4a65c_init_da8c8_Jxc12de_init_da8c8 : GoodIn wsJx4a65c_init_da8c8 wsJxc12de_init_da8c8 := goodIn_r _ [6, 7, 8, 9, 10, 11, 12, 13, 14, 15, 16, 17] (by decide +kernel) (by decide +kernel)
set_option maxRecDepth 20000 in
theorem gJx4a65c_init_da8c8_Jxc12de_init_da8c8 : GoodIn wsJx4a65c_init_da8c8 (wsJxc12de_init_da8c8) := ggJx4a65c_init_da8c8_Jxc12de_init_da8c8
theorem dJx4a65c_init_da8c8_0 : decode cJx4a65c_init_da8c8 0 = .ok (.aload_n 0, 1) := by decide +kernel
theorem dJx4a65c_init_da8c8_1 : decode cJx4a65c_init_da8c8 1 = .ok (.invokespecial 1, 3) := by decide +kernel
theorem dJx4a65c_init_da8c8_4 : decode cJx4a65c_init_da8c8 4 = .ok (.aload_n 0, 1) := by decide +kernel
theorem dJx4a65c_init_da8c8_5 : decode cJx4a65c_init_da8c8 5 = .ok (.getstatic 39, 3) := by decide +kernel
theorem dJx4a65c_init_da8c8_8 : decode cJx4a65c_init_da8c8 8 = .ok (.putfield 9, 3) := by decide +kernel
theorem dJx4a65c_init_da8c8_11 : decode cJx4a65c_init_da8c8 11 = .ok (.return_, 1) := by decide +kernel
set_option maxRecDepth 20000 in
theorem ggJx4a65c_grow_92f84_J8_newLength_cabcc : GoodIn wsJx4a65c_grow_92f84 wsJ8_newLength_cabcc := goodIn_r _ [11, 12, 4, 5, 6, 13, 14, 15, 10, 16] (by decide +kernel) (by decide +kernel)
set_option maxRecDepth 20000 in
theorem gJx4a65c_grow_92f84_J8_newLength_cabcc : GoodIn wsJx4a65c_grow_92f84 (va_wsS RJx4a65c 73 yJ8_newLength_cabcc wsJ8_newLength_cabcc) := goodIn_app (goodIn_of _ (by decide +kernel)) ggJx4a65c_grow_92f84_J8_newLength_cabcc
set_option maxRecDepth 20000 in
theorem ggJx4a65c_grow_92f84_J7_copyOf_1904c : GoodIn wsJx4a65c_grow_92f84 wsJ7_copyOf_1904c := goodIn_r _ [20, 21, 22, 23, 24, 25, 26, 19, 27, 28, 29, 30, 31, 5, 32, 33, 34, 35, 36] (by decide +kernel) (by decide +kernel)
set_option maxRecDepth 20000 in
theorem gJx4a65c_grow_92f84_J7_copyOf_1904c : GoodIn wsJx4a65c_grow_92f84 (va_wsS RJx4a65c 66 yJ7_copyOf_1904c wsJ7_copyOf_1904c) := goodIn_app (goodIn_of _ (by decide +kernel)) ggJx4a65c_grow_92f84_J7_copyOf_1904c
theorem dJx4a65c_grow_92f84_0 : decode cJx4a65c_grow_92f84 0 = .ok (.aload_n 0, 1) := by decide +kernel
theorem dJx4a65c_grow_92f84_1 : decode cJx4a65c_grow_92f84 1 = .ok (.getfield 9, 3) := by decide +kernel
theorem dJx4a65c_grow_92f84_4 : decode cJx4a65c_grow_92f84 4 = .ok (.arraylength, 1) := by decide +kernel
theorem dJx4a65c_grow_92f84_5 : decode cJx4a65c_grow_92f84 5 = .ok (.istore_n 2, 1) := by decide +kernel
theorem dJx4a65c_grow_92f84_6 : decode cJx4a65c_grow_92f84 6 = .ok (.iload_n 2, 1) := by decide +kernel
theorem dJx4a65c_grow_92f84_7 : decode cJx4a65c_grow_92f84 7 = .ok (.ifCond .gt 13, 3) := by decide +kernel
theorem dJx4a65c_grow_92f84_10 : decode cJx4a65c_grow_92f84 10 = .ok (.aload_n 0, 1) := by decide +kernel
theorem dJx4a65c_grow_92f84_11 : decode cJx4a65c_grow_92f84 11 = .ok (.getfield 9, 3) := by decide +kernel
theorem dJx4a65c_grow_92f84_14 : decode cJx4a65c_grow_92f84 14 = .ok (.getstatic 39, 3) := by decide +kernel
theorem dJx4a65c_grow_92f84_17 : decode cJx4a65c_grow_92f84 17 = .ok (.if_acmp .eq 28, 3) := by decide +kernel
theorem dJx4a65c_grow_92f84_20 : decode cJx4a65c_grow_92f84 20 = .ok (.iload_n 2, 1) := by decide +kernel
theorem dJx4a65c_grow_92f84_21 : decode cJx4a65c_grow_92f84 21 = .ok (.iload_n 1, 1) := by decide +kernel
theorem dJx4a65c_grow_92f84_22 : decode cJx4a65c_grow_92f84 22 = .ok (.iload_n 2, 1) := by decide +kernel
theorem dJx4a65c_grow_92f84_23 : decode cJx4a65c_grow_92f84 23 = .ok (.isub, 1) := by decide +kernel
theorem dJx4a65c_grow_92f84_24 : decode cJx4a65c_grow_92f84 24 = .ok (.iload_n 2, 1) := by decide +kernel
theorem dJx4a65c_grow_92f84_25 : decode cJx4a65c_grow_92f84 25 = .ok (.iconst 1, 1) := by decide +kernel
theorem dJx4a65c_grow_92f84_26 : decode cJx4a65c_grow_92f84 26 = .ok (.ishr, 1) := by decide +kernel
theorem dJx4a65c_grow_92f84_27 : decode cJx4a65c_grow_92f84 27 = .ok (.invokestatic 73, 3) := by decide +kernel
theorem dJx4a65c_grow_92f84_30 : decode cJx4a65c_grow_92f84 30 = .ok (.istore_n 3, 1) := by decide +kernel
theorem dJx4a65c_grow_92f84_31 : decode cJx4a65c_grow_92f84 31 = .ok (.aload_n 0, 1) := by decide +kernel
theorem dJx4a65c_grow_92f84_32 : decode cJx4a65c_grow_92f84 32 = .ok (.aload_n 0, 1) := by decide +kernel
theorem dJx4a65c_grow_92f84_33 : decode cJx4a65c_grow_92f84 33 = .ok (.getfield 9, 3) := by decide +kernel
theorem dJx4a65c_grow_92f84_36 : decode cJx4a65c_grow_92f84 36 = .ok (.iload_n 3, 1) := by decide +kernel
theorem dJx4a65c_grow_92f84_37 : decode cJx4a65c_grow_92f84 37 = .ok (.invokestatic 66, 3) := by decide +kernel
theorem dJx4a65c_grow_92f84_40 : decode cJx4a65c_grow_92f84 40 = .ok (.dup_x1, 1) := by decide +kernel
theorem dJx4a65c_grow_92f84_41 : decode cJx4a65c_grow_92f84 41 = .ok (.putfield 9, 3) := by decide +kernel
theorem dJx4a65c_grow_92f84_44 : decode cJx4a65c_grow_92f84 44 = .ok (.areturn, 1) := by decide +kernel
theorem dJx4a65c_grow_92f84_45 : decode cJx4a65c_grow_92f84 45 = .ok (.aload_n 0, 1) := by decide +kernel
theorem dJx4a65c_grow_92f84_46 : decode cJx4a65c_grow_92f84 46 = .ok (.bipush 10, 2) := by decide +kernel
theorem dJx4a65c_grow_92f84_48 : decode cJx4a65c_grow_92f84 48 = .ok (.iload_n 1, 1) := by decide +kernel
theorem dJx4a65c_grow_92f84_49 : decode cJx4a65c_grow_92f84 49 = .ok (.invokestatic 79, 3) := by decide +kernel
theorem dJx4a65c_grow_92f84_52 : decode cJx4a65c_grow_92f84 52 = .ok (.anewarray 7, 3) := by decide +kernel
theorem dJx4a65c_grow_92f84_55 : decode cJx4a65c_grow_92f84 55 = .ok (.dup_x1, 1) := by decide +kernel
theorem dJx4a65c_grow_92f84_56 : decode cJx4a65c_grow_92f84 56 = .ok (.putfield 9, 3) := by decide +kernel
theorem dJx4a65c_grow_92f84_59 : decode cJx4a65c_grow_92f84 59 = .ok (.areturn, 1) := by decide +kernel
set_option maxRecDepth 20000 in
theorem ggJx4a65c_grow_d5877_Jx4a65c_grow_92f84 : GoodIn wsJx4a65c_grow_d5877 wsJx4a65c_grow_92f84 := goodIn_r _ [6, 7, 8, 9, 10, 11, 12, 13, 14, 15, 16, 17, 18, 19, 20, 21, 22, 23, 24, 25, 26, 27, 28, 29, 30, 31, 32, 33, 34, 35, 36, 37, 38, 39, 40, 41, 42, 43, 44, 45] (by decide +kernel) (by decide +kernel)
set_option maxRecDepth 20000 in
theorem gJx4a65c_grow_d5877_Jx4a65c_grow_92f84 : GoodIn wsJx4a65c_grow_d5877 (wsV RJx4a65c 69 RJx4a65c yJx4a65c_grow_92f84 wsJx4a65c_grow_92f84) := goodIn_app (goodIn_of _ (by decide +kernel)) ggJx4a65c_grow_d5877_Jx4a65c_grow_92f84
theorem dJx4a65c_grow_d5877_0 : decode cJx4a65c_grow_d5877 0 = .ok (.aload_n 0, 1) := by decide +kernel
theorem dJx4a65c_grow_d5877_1 : decode cJx4a65c_grow_d5877 1 = .ok (.aload_n 0, 1) := by decide +kernel
theorem dJx4a65c_grow_d5877_2 : decode cJx4a65c_grow_d5877 2 = .ok (.getfield 48, 3) := by decide +kernel
theorem dJx4a65c_grow_d5877_5 : decode cJx4a65c_grow_d5877 5 = .ok (.iconst 1, 1) := by decide +kernel
theorem dJx4a65c_grow_d5877_6 : decode cJx4a65c_grow_d5877 6 = .ok (.iadd, 1) := by decide +kernel
theorem dJx4a65c_grow_d5877_7 : decode cJx4a65c_grow_d5877 7 = .ok (.invokevirtual 69, 3) := by decide +kernel
theorem dJx4a65c_grow_d5877_10 : decode cJx4a65c_grow_d5877 10 = .ok (.areturn, 1) := by decide +kernel
theorem dJx4a65c_size_8abf5_0 : decode cJx4a65c_size_8abf5 0 = .ok (.aload_n 0, 1) := by decide +kernel
theorem dJx4a65c_size_8abf5_1 : decode cJx4a65c_size_8abf5 1 = .ok (.getfield 48, 3) := by decide +kernel
theorem dJx4a65c_size_8abf5_4 : decode cJx4a65c_size_8abf5 4 = .ok (.ireturn, 1) := by decide +kernel
theorem dJx4a65c_elementData_915e3_0 : decode cJx4a65c_elementData_915e3 0 = .ok (.aload_n 0, 1) := by decide +kernel
theorem dJx4a65c_elementData_915e3_1 : decode cJx4a65c_elementData_915e3 1 = .ok (.getfield 9, 3) := by decide +kernel
theorem dJx4a65c_elementData_915e3_4 : decode cJx4a65c_elementData_915e3 4 = .ok (.iload_n 1, 1) := by decide +kernel
theorem dJx4a65c_elementData_915e3_5 : decode cJx4a65c_elementData_915e3 5 = .ok (.aaload, 1) := by decide +kernel
theorem dJx4a65c_elementData_915e3_6 : decode cJx4a65c_elementData_915e3 6 = .ok (.areturn, 1) := by decide +kernel
set_option maxRecDepth 20000 in
theorem ggJx4a65c_get_915e3_J15_checkIndex_7cf53 : GoodIn wsJx4a65c_get_915e3 wsJ15_checkIndex_7cf53 := goodIn_r _ [5, 6, 7, 8, 9] (by decide +kernel) (by decide +kernel)
set_option maxRecDepth 20000 in
theorem gJx4a65c_get_915e3_J15_checkIndex_7cf53 : GoodIn wsJx4a65c_get_915e3 (va_wsS RJx4a65c 118 yJ15_checkIndex_7cf53 wsJ15_checkIndex_7cf53) := goodIn_app (goodIn_of _ (by decide +kernel)) ggJx4a65c_get_915e3_J15_checkIndex_7cf53
set_option maxRecDepth 20000 in
theorem ggJx4a65c_get_915e3_Jx4a65c_elementData_915e3 : GoodIn wsJx4a65c_get_915e3 wsJx4a65c_elementData_915e3 := goodIn_r _ [14, 15, 16, 17, 18] (by decide +kernel) (by decide +kernel)
set_option maxRecDepth 20000 in
theorem gJx4a65c_get_915e3_Jx4a65c_elementData_915e3 : GoodIn wsJx4a65c_get_915e3 (wsV RJx4a65c 123 RJx4a65c yJx4a65c_elementData_915e3 wsJx4a65c_elementData_915e3) := goodIn_app (goodIn_of _ (by decide +kernel)) ggJx4a65c_get_915e3_Jx4a65c_elementData_915e3
theorem dJx4a65c_get_915e3_0 : decode cJx4a65c_get_915e3 0 = .ok (.iload_n 1, 1) := by decide +kernel
theorem dJx4a65c_get_915e3_1 : decode cJx4a65c_get_915e3 1 = .ok (.aload_n 0, 1) := by decide +kernel
theorem dJx4a65c_get_915e3_2 : decode cJx4a65c_get_915e3 2 = .ok (.getfield 48, 3) := by decide +kernel
theorem dJx4a65c_get_915e3_5 : decode cJx4a65c_get_915e3 5 = .ok (.invokestatic 118, 3) := by decide +kernel
theorem dJx4a65c_get_915e3_8 : decode cJx4a65c_get_915e3 8 = .ok (.pop, 1) := by decide +kernel
theorem dJx4a65c_get_915e3_9 : decode cJx4a65c_get_915e3 9 = .ok (.aload_n 0, 1) := by decide +kernel
theorem dJx4a65c_get_915e3_10 : decode cJx4a65c_get_915e3 10 = .ok (.iload_n 1, 1) := by decide +kernel
theorem dJx4a65c_get_915e3_11 : decode cJx4a65c_get_915e3 11 = .ok (.invokevirtual 123, 3) := by decide +kernel
theorem dJx4a65c_get_915e3_14 : decode cJx4a65c_get_915e3 14 = .ok (.areturn, 1) := by decide +kernel
set_option maxRecDepth 20000 in
theorem ggJx4a65c_add_72be8_Jx4a65c_grow_d5877 : GoodIn wsJx4a65c_add_72be8 wsJx4a65c_grow_d5877 := goodIn_r _ [6, 1, 7, 8, 9, 5, 10, 11, 12, 13, 14, 15, 16, 17, 18, 19, 20, 21, 22, 23, 24, 25, 26, 27, 28, 29, 30, 31, 32, 33, 34, 35, 36, 37, 38, 39, 40, 41, 42, 43, 44, 45, 46, 47, 48, 49] (by decide +kernel) (by decide +kernel)
set_option maxRecDepth 20000 in
theorem gJx4a65c_add_72be8_Jx4a65c_grow_d5877 : GoodIn wsJx4a65c_add_72be8 (wsV RJx4a65c 129 RJx4a65c yJx4a65c_grow_d5877 wsJx4a65c_grow_d5877) := goodIn_app (goodIn_of _ (by decide +kernel)) ggJx4a65c_add_72be8_Jx4a65c_grow_d5877
theorem dJx4a65c_add_72be8_0 : decode cJx4a65c_add_72be8 0 = .ok (.iload_n 3, 1) := by decide +kernel
theorem dJx4a65c_add_72be8_1 : decode cJx4a65c_add_72be8 1 = .ok (.aload_n 2, 1) := by decide +kernel
theorem dJx4a65c_add_72be8_2 : decode cJx4a65c_add_72be8 2 = .ok (.arraylength, 1) := by decide +kernel
theorem dJx4a65c_add_72be8_3 : decode cJx4a65c_add_72be8 3 = .ok (.if_icmp .ne 8, 3) := by decide +kernel
theorem dJx4a65c_add_72be8_6 : decode cJx4a65c_add_72be8 6 = .ok (.aload_n 0, 1) := by decide +kernel
theorem dJx4a65c_add_72be8_7 : decode cJx4a65c_add_72be8 7 = .ok (.invokevirtual 129, 3) := by decide +kernel
theorem dJx4a65c_add_72be8_10 : decode cJx4a65c_add_72be8 10 = .ok (.astore_n 2, 1) := by decide +kernel
theorem dJx4a65c_add_72be8_11 : decode cJx4a65c_add_72be8 11 = .ok (.aload_n 2, 1) := by decide +kernel
theorem dJx4a65c_add_72be8_12 : decode cJx4a65c_add_72be8 12 = .ok (.iload_n 3, 1) := by decide +kernel
theorem dJx4a65c_add_72be8_13 : decode cJx4a65c_add_72be8 13 = .ok (.aload_n 1, 1) := by decide +kernel
theorem dJx4a65c_add_72be8_14 : decode cJx4a65c_add_72be8 14 = .ok (.aastore, 1) := by decide +kernel
theorem dJx4a65c_add_72be8_15 : decode cJx4a65c_add_72be8 15 = .ok (.aload_n 0, 1) := by decide +kernel
theorem dJx4a65c_add_72be8_16 : decode cJx4a65c_add_72be8 16 = .ok (.iload_n 3, 1) := by decide +kernel
theorem dJx4a65c_add_72be8_17 : decode cJx4a65c_add_72be8 17 = .ok (.iconst 1, 1) := by decide +kernel
theorem dJx4a65c_add_72be8_18 : decode cJx4a65c_add_72be8 18 = .ok (.iadd, 1) := by decide +kernel
theorem dJx4a65c_add_72be8_19 : decode cJx4a65c_add_72be8 19 = .ok (.putfield 48, 3) := by decide +kernel
theorem dJx4a65c_add_72be8_22 : decode cJx4a65c_add_72be8 22 = .ok (.return_, 1) := by decide +kernel
set_option maxRecDepth 20000 in
theorem ggJx4a65c_add_9ea2d_Jx4a65c_add_72be8 : GoodIn wsJx4a65c_add_9ea2d wsJx4a65c_add_72be8 := goodIn_r _ [9, 4, 10, 11, 12, 8, 13, 14, 15, 16, 17, 3, 18, 19, 20, 21, 22, 23, 24, 25, 26, 27, 28, 29, 30, 31, 32, 33, 34, 35, 36, 37, 38, 39, 40, 41, 42, 43, 44, 45, 46, 47, 48, 49, 50, 51, 52, 53, 54, 55] (by decide +kernel) (by decide +kernel)
set_option maxRecDepth 20000 in
theorem gJx4a65c_add_9ea2d_Jx4a65c_add_72be8 : GoodIn wsJx4a65c_add_9ea2d (wsV RJx4a65c 131 RJx4a65c yJx4a65c_add_72be8 wsJx4a65c_add_72be8) := goodIn_app (goodIn_of _ (by decide +kernel)) ggJx4a65c_add_9ea2d_Jx4a65c_add_72be8
theorem dJx4a65c_add_9ea2d_0 : decode cJx4a65c_add_9ea2d 0 = .ok (.aload_n 0, 1) := by decide +kernel
theorem dJx4a65c_add_9ea2d_1 : decode cJx4a65c_add_9ea2d 1 = .ok (.dup, 1) := by decide +kernel
theorem dJx4a65c_add_9ea2d_2 : decode cJx4a65c_add_9ea2d 2 = .ok (.getfield 63, 3) := by decide +kernel
theorem dJx4a65c_add_9ea2d_5 : decode cJx4a65c_add_9ea2d 5 = .ok (.iconst 1, 1) := by decide +kernel
theorem dJx4a65c_add_9ea2d_6 : decode cJx4a65c_add_9ea2d 6 = .ok (.iadd, 1) := by decide +kernel
theorem dJx4a65c_add_9ea2d_7 : decode cJx4a65c_add_9ea2d 7 = .ok (.putfield 63, 3) := by decide +kernel
theorem dJx4a65c_add_9ea2d_10 : decode cJx4a65c_add_9ea2d 10 = .ok (.aload_n 0, 1) := by decide +kernel
theorem dJx4a65c_add_9ea2d_11 : decode cJx4a65c_add_9ea2d 11 = .ok (.aload_n 1, 1) := by decide +kernel
theorem dJx4a65c_add_9ea2d_12 : decode cJx4a65c_add_9ea2d 12 = .ok (.aload_n 0, 1) := by decide +kernel
theorem dJx4a65c_add_9ea2d_13 : decode cJx4a65c_add_9ea2d 13 = .ok (.getfield 9, 3) := by decide +kernel
theorem dJx4a65c_add_9ea2d_16 : decode cJx4a65c_add_9ea2d 16 = .ok (.aload_n 0, 1) := by decide +kernel
theorem dJx4a65c_add_9ea2d_17 : decode cJx4a65c_add_9ea2d 17 = .ok (.getfield 48, 3) := by decide +kernel
theorem dJx4a65c_add_9ea2d_20 : decode cJx4a65c_add_9ea2d 20 = .ok (.invokevirtual 131, 3) := by decide +kernel
theorem dJx4a65c_add_9ea2d_23 : decode cJx4a65c_add_9ea2d 23 = .ok (.iconst 1, 1) := by decide +kernel
theorem dJx4a65c_add_9ea2d_24 : decode cJx4a65c_add_9ea2d 24 = .ok (.ireturn, 1) := by decide +kernel
set_option maxRecDepth 20000 in
theorem ggJ7_copyOf_1904c_J7_copyOf_6403c : GoodIn wsJ7_copyOf_1904c wsJ7_copyOf_6403c := goodIn_r _ [8, 9, 10, 11, 12, 13, 14, 15, 16, 17, 18] (by decide +kernel) (by decide +kernel)
set_option maxRecDepth 20000 in
theorem gJ7_copyOf_1904c_J7_copyOf_6403c : GoodIn wsJ7_copyOf_1904c (va_wsS RJ7 300 yJ7_copyOf_6403c wsJ7_copyOf_6403c) := goodIn_app (goodIn_of _ (by decide +kernel)) ggJ7_copyOf_1904c_J7_copyOf_6403c
theorem dJ7_copyOf_1904c_0 : decode cJ7_copyOf_1904c 0 = .ok (.aload_n 0, 1) := by decide +kernel
theorem dJ7_copyOf_1904c_1 : decode cJ7_copyOf_1904c 1 = .ok (.iload_n 1, 1) := by decide +kernel
theorem dJ7_copyOf_1904c_2 : decode cJ7_copyOf_1904c 2 = .ok (.aload_n 0, 1) := by decide +kernel
theorem dJ7_copyOf_1904c_3 : decode cJ7_copyOf_1904c 3 = .ok (.invokevirtual 86, 3) := by decide +kernel
theorem dJ7_copyOf_1904c_6 : decode cJ7_copyOf_1904c 6 = .ok (.invokestatic 300, 3) := by decide +kernel
theorem dJ7_copyOf_1904c_9 : decode cJ7_copyOf_1904c 9 = .ok (.areturn, 1) := by decide +kernel
theorem dJ7_copyOf_6403c_0 : decode cJ7_copyOf_6403c 0 = .ok (.aload_n 2, 1) := by decide +kernel
theorem dJ7_copyOf_6403c_1 : decode cJ7_copyOf_6403c 1 = .ok (.ldc 110, 2) := by decide +kernel
theorem dJ7_copyOf_6403c_3 : decode cJ7_copyOf_6403c 3 = .ok (.if_acmp .ne 10, 3) := by decide +kernel
theorem dJ7_copyOf_6403c_6 : decode cJ7_copyOf_6403c 6 = .ok (.iload_n 1, 1) := by decide +kernel
theorem dJ7_copyOf_6403c_7 : decode cJ7_copyOf_6403c 7 = .ok (.anewarray 2, 3) := by decide +kernel
theorem dJ7_copyOf_6403c_10 : decode cJ7_copyOf_6403c 10 = .ok (.goto 14, 3) := by decide +kernel
theorem dJ7_copyOf_6403c_13 : decode cJ7_copyOf_6403c 13 = .ok (.aload_n 2, 1) := by decide +kernel
theorem dJ7_copyOf_6403c_14 : decode cJ7_copyOf_6403c 14 = .ok (.invokevirtual 90, 3) := by decide +kernel
theorem dJ7_copyOf_6403c_17 : decode cJ7_copyOf_6403c 17 = .ok (.iload_n 1, 1) := by decide +kernel
theorem dJ7_copyOf_6403c_18 : decode cJ7_copyOf_6403c 18 = .ok (.invokestatic 95, 3) := by decide +kernel
theorem dJ7_copyOf_6403c_21 : decode cJ7_copyOf_6403c 21 = .ok (.checkcast 110, 3) := by decide +kernel
theorem dJ7_copyOf_6403c_24 : decode cJ7_copyOf_6403c 24 = .ok (.astore_n 3, 1) := by decide +kernel
theorem dJ7_copyOf_6403c_25 : decode cJ7_copyOf_6403c 25 = .ok (.aload_n 0, 1) := by decide +kernel
theorem dJ7_copyOf_6403c_26 : decode cJ7_copyOf_6403c 26 = .ok (.iconst 0, 1) := by decide +kernel
theorem dJ7_copyOf_6403c_27 : decode cJ7_copyOf_6403c 27 = .ok (.aload_n 3, 1) := by decide +kernel
theorem dJ7_copyOf_6403c_28 : decode cJ7_copyOf_6403c 28 = .ok (.iconst 0, 1) := by decide +kernel
theorem dJ7_copyOf_6403c_29 : decode cJ7_copyOf_6403c 29 = .ok (.aload_n 0, 1) := by decide +kernel
theorem dJ7_copyOf_6403c_30 : decode cJ7_copyOf_6403c 30 = .ok (.arraylength, 1) := by decide +kernel
theorem dJ7_copyOf_6403c_31 : decode cJ7_copyOf_6403c 31 = .ok (.iload_n 1, 1) := by decide +kernel
theorem dJ7_copyOf_6403c_32 : decode cJ7_copyOf_6403c 32 = .ok (.invokestatic 304, 3) := by decide +kernel
theorem dJ7_copyOf_6403c_35 : decode cJ7_copyOf_6403c 35 = .ok (.invokestatic 150, 3) := by decide +kernel
theorem dJ7_copyOf_6403c_38 : decode cJ7_copyOf_6403c 38 = .ok (.aload_n 3, 1) := by decide +kernel
theorem dJ7_copyOf_6403c_39 : decode cJ7_copyOf_6403c 39 = .ok (.areturn, 1) := by decide +kernel
set_option maxRecDepth 20000 in
theorem ggJ15_checkIndex_7cf53_J3_checkIndex_8e157 : GoodIn wsJ15_checkIndex_7cf53 wsJ3_checkIndex_8e157 := goodIn_r _ [4] (by decide +kernel) (by decide +kernel)
set_option maxRecDepth 20000 in
theorem gJ15_checkIndex_7cf53_J3_checkIndex_8e157 : GoodIn wsJ15_checkIndex_7cf53 (va_wsS RJ15 105 yJ3_checkIndex_8e157 wsJ3_checkIndex_8e157) := goodIn_app (goodIn_of _ (by decide +kernel)) ggJ15_checkIndex_7cf53_J3_checkIndex_8e157
theorem dJ15_checkIndex_7cf53_0 : decode cJ15_checkIndex_7cf53 0 = .ok (.iload_n 0, 1) := by decide +kernel
theorem dJ15_checkIndex_7cf53_1 : decode cJ15_checkIndex_7cf53 1 = .ok (.iload_n 1, 1) := by decide +kernel
theorem dJ15_checkIndex_7cf53_2 : decode cJ15_checkIndex_7cf53 2 = .ok (.aconst_null, 1) := by decide +kernel
theorem dJ15_checkIndex_7cf53_3 : decode cJ15_checkIndex_7cf53 3 = .ok (.invokestatic 105, 3) := by decide +kernel
theorem dJ15_checkIndex_7cf53_6 : decode cJ15_checkIndex_7cf53 6 = .ok (.ireturn, 1) := by decide +kernel
set_option maxRecDepth 20000 in
theorem ggJ8_newLength_cabcc_J8_hugeLength_7cf53 : GoodIn wsJ8_newLength_cabcc wsJ8_hugeLength_7cf53 := goodIn_r _ [9, 5] (by decide +kernel) (by decide +kernel)
set_option maxRecDepth 20000 in
theorem gJ8_newLength_cabcc_J8_hugeLength_7cf53 : GoodIn wsJ8_newLength_cabcc (va_wsS RJ8 201 yJ8_hugeLength_7cf53 wsJ8_hugeLength_7cf53) := goodIn_app (goodIn_of _ (by decide +kernel)) ggJ8_newLength_cabcc_J8_hugeLength_7cf53
theorem dJ8_newLength_cabcc_0 : decode cJ8_newLength_cabcc 0 = .ok (.iload_n 0, 1) := by decide +kernel
theorem dJ8_newLength_cabcc_1 : decode cJ8_newLength_cabcc 1 = .ok (.iload_n 1, 1) := by decide +kernel
theorem dJ8_newLength_cabcc_2 : decode cJ8_newLength_cabcc 2 = .ok (.iload_n 2, 1) := by decide +kernel
theorem dJ8_newLength_cabcc_3 : decode cJ8_newLength_cabcc 3 = .ok (.invokestatic 194, 3) := by decide +kernel
theorem dJ8_newLength_cabcc_6 : decode cJ8_newLength_cabcc 6 = .ok (.iadd, 1) := by decide +kernel
theorem dJ8_newLength_cabcc_7 : decode cJ8_newLength_cabcc 7 = .ok (.istore_n 3, 1) := by decide +kernel
theorem dJ8_newLength_cabcc_8 : decode cJ8_newLength_cabcc 8 = .ok (.iconst 0, 1) := by decide +kernel
theorem dJ8_newLength_cabcc_9 : decode cJ8_newLength_cabcc 9 = .ok (.iload_n 3, 1) := by decide +kernel
theorem dJ8_newLength_cabcc_10 : decode cJ8_newLength_cabcc 10 = .ok (.if_icmp .ge 11, 3) := by decide +kernel
theorem dJ8_newLength_cabcc_13 : decode cJ8_newLength_cabcc 13 = .ok (.iload_n 3, 1) := by decide +kernel
theorem dJ8_newLength_cabcc_14 : decode cJ8_newLength_cabcc 14 = .ok (.ldc 200, 2) := by decide +kernel
theorem dJ8_newLength_cabcc_16 : decode cJ8_newLength_cabcc 16 = .ok (.if_icmp .gt 5, 3) := by decide +kernel
theorem dJ8_newLength_cabcc_19 : decode cJ8_newLength_cabcc 19 = .ok (.iload_n 3, 1) := by decide +kernel
theorem dJ8_newLength_cabcc_20 : decode cJ8_newLength_cabcc 20 = .ok (.ireturn, 1) := by decide +kernel
theorem dJ8_newLength_cabcc_21 : decode cJ8_newLength_cabcc 21 = .ok (.iload_n 0, 1) := by decide +kernel
theorem dJ8_newLength_cabcc_22 : decode cJ8_newLength_cabcc 22 = .ok (.iload_n 1, 1) := by decide +kernel
theorem dJ8_newLength_cabcc_23 : decode cJ8_newLength_cabcc 23 = .ok (.invokestatic 201, 3) := by decide +kernel
theorem dJ8_newLength_cabcc_26 : decode cJ8_newLength_cabcc 26 = .ok (.ireturn, 1) := by decide +kernel
theorem dJ8_hugeLength_7cf53_0 : decode cJ8_hugeLength_7cf53 0 = .ok (.iload_n 0, 1) := by decide +kernel
theorem dJ8_hugeLength_7cf53_1 : decode cJ8_hugeLength_7cf53 1 = .ok (.iload_n 1, 1) := by decide +kernel
theorem dJ8_hugeLength_7cf53_2 : decode cJ8_hugeLength_7cf53 2 = .ok (.iadd, 1) := by decide +kernel
theorem dJ8_hugeLength_7cf53_3 : decode cJ8_hugeLength_7cf53 3 = .ok (.istore_n 2, 1) := by decide +kernel
theorem dJ8_hugeLength_7cf53_4 : decode cJ8_hugeLength_7cf53 4 = .ok (.iload_n 2, 1) := by decide +kernel
theorem dJ8_hugeLength_7cf53_5 : decode cJ8_hugeLength_7cf53 5 = .ok (.ifCond .ge 44, 3) := by decide +kernel
theorem dJ8_hugeLength_7cf53_8 : decode cJ8_hugeLength_7cf53 8 = .ok (.new 204, 3) := by decide +kernel
theorem dJ8_hugeLength_7cf53_11 : decode cJ8_hugeLength_7cf53 11 = .ok (.dup, 1) := by decide +kernel
theorem dJ8_hugeLength_7cf53_12 : decode cJ8_hugeLength_7cf53 12 = .ok (.new 89, 3) := by decide +kernel
theorem dJ8_hugeLength_7cf53_15 : decode cJ8_hugeLength_7cf53 15 = .ok (.dup, 1) := by decide +kernel
theorem dJ8_hugeLength_7cf53_16 : decode cJ8_hugeLength_7cf53 16 = .ok (.invokespecial 91, 3) := by decide +kernel
theorem dJ8_hugeLength_7cf53_19 : decode cJ8_hugeLength_7cf53 19 = .ok (.ldc 206, 2) := by decide +kernel
theorem dJ8_hugeLength_7cf53_21 : decode cJ8_hugeLength_7cf53 21 = .ok (.invokevirtual 94, 3) := by decide +kernel
theorem dJ8_hugeLength_7cf53_24 : decode cJ8_hugeLength_7cf53 24 = .ok (.iload_n 0, 1) := by decide +kernel
theorem dJ8_hugeLength_7cf53_25 : decode cJ8_hugeLength_7cf53 25 = .ok (.invokevirtual 98, 3) := by decide +kernel
theorem dJ8_hugeLength_7cf53_28 : decode cJ8_hugeLength_7cf53 28 = .ok (.ldc 208, 2) := by decide +kernel
theorem dJ8_hugeLength_7cf53_30 : decode cJ8_hugeLength_7cf53 30 = .ok (.invokevirtual 94, 3) := by decide +kernel
theorem dJ8_hugeLength_7cf53_33 : decode cJ8_hugeLength_7cf53 33 = .ok (.iload_n 1, 1) := by decide +kernel
theorem dJ8_hugeLength_7cf53_34 : decode cJ8_hugeLength_7cf53 34 = .ok (.invokevirtual 98, 3) := by decide +kernel
theorem dJ8_hugeLength_7cf53_37 : decode cJ8_hugeLength_7cf53 37 = .ok (.ldc 210, 2) := by decide +kernel
theorem dJ8_hugeLength_7cf53_39 : decode cJ8_hugeLength_7cf53 39 = .ok (.invokevirtual 94, 3) := by decide +kernel
theorem dJ8_hugeLength_7cf53_42 : decode cJ8_hugeLength_7cf53 42 = .ok (.invokevirtual 101, 3) := by decide +kernel
theorem dJ8_hugeLength_7cf53_45 : decode cJ8_hugeLength_7cf53 45 = .ok (.invokespecial 212, 3) := by decide +kernel
theorem dJ8_hugeLength_7cf53_48 : decode cJ8_hugeLength_7cf53 48 = .ok (.athrow, 1) := by decide +kernel
theorem dJ8_hugeLength_7cf53_49 : decode cJ8_hugeLength_7cf53 49 = .ok (.iload_n 2, 1) := by decide +kernel
theorem dJ8_hugeLength_7cf53_50 : decode cJ8_hugeLength_7cf53 50 = .ok (.ldc 200, 2) := by decide +kernel
theorem dJ8_hugeLength_7cf53_52 : decode cJ8_hugeLength_7cf53 52 = .ok (.if_icmp .gt 6, 3) := by decide +kernel
theorem dJ8_hugeLength_7cf53_55 : decode cJ8_hugeLength_7cf53 55 = .ok (.ldc 200, 2) := by decide +kernel
theorem dJ8_hugeLength_7cf53_57 : decode cJ8_hugeLength_7cf53 57 = .ok (.ireturn, 1) := by decide +kernel
theorem dJ8_hugeLength_7cf53_58 : decode cJ8_hugeLength_7cf53 58 = .ok (.iload_n 2, 1) := by decide +kernel
theorem dJ8_hugeLength_7cf53_59 : decode cJ8_hugeLength_7cf53 59 = .ok (.ireturn, 1) := by decide +kernel
theorem dJ3_checkIndex_8e157_0 : decode cJ3_checkIndex_8e157 0 = .ok (.iload_n 0, 1) := by decide +kernel
theorem dJ3_checkIndex_8e157_1 : decode cJ3_checkIndex_8e157 1 = .ok (.ifCond .lt 8, 3) := by decide +kernel
theorem dJ3_checkIndex_8e157_4 : decode cJ3_checkIndex_8e157 4 = .ok (.iload_n 0, 1) := by decide +kernel
theorem dJ3_checkIndex_8e157_5 : decode cJ3_checkIndex_8e157 5 = .ok (.iload_n 1, 1) := by decide +kernel
theorem dJ3_checkIndex_8e157_6 : decode cJ3_checkIndex_8e157 6 = .ok (.if_icmp .lt 10, 3) := by decide +kernel
theorem dJ3_checkIndex_8e157_9 : decode cJ3_checkIndex_8e157 9 = .ok (.aload_n 2, 1) := by decide +kernel
theorem dJ3_checkIndex_8e157_10 : decode cJ3_checkIndex_8e157 10 = .ok (.iload_n 0, 1) := by decide +kernel
theorem dJ3_checkIndex_8e157_11 : decode cJ3_checkIndex_8e157 11 = .ok (.iload_n 1, 1) := by decide +kernel
theorem dJ3_checkIndex_8e157_12 : decode cJ3_checkIndex_8e157 12 = .ok (.invokestatic 95, 3) := by decide +kernel
theorem dJ3_checkIndex_8e157_15 : decode cJ3_checkIndex_8e157 15 = .ok (.athrow, 1) := by decide +kernel
theorem dJ3_checkIndex_8e157_16 : decode cJ3_checkIndex_8e157 16 = .ok (.iload_n 0, 1) := by decide +kernel
theorem dJ3_checkIndex_8e157_17 : decode cJ3_checkIndex_8e157 17 = .ok (.ireturn, 1) := by decide +kernel
theorem dL_cell_0 : decode cL_cell 0 = .ok (.ldc 7, 2) := by decide +kernel
theorem dL_cell_2 : decode cL_cell 2 = .ok (.iload_n 1, 1) := by decide +kernel
theorem dL_cell_3 : decode cL_cell 3 = .ok (.aload_n 0, 1) := by decide +kernel
theorem dL_cell_4 : decode cL_cell 4 = .ok (.arraylength, 1) := by decide +kernel
theorem dL_cell_5 : decode cL_cell 5 = .ok (.if_icmp .ge 9, 3) := by decide +kernel
theorem dL_cell_8 : decode cL_cell 8 = .ok (.aload_n 0, 1) := by decide +kernel
theorem dL_cell_9 : decode cL_cell 9 = .ok (.iload_n 1, 1) := by decide +kernel
theorem dL_cell_10 : decode cL_cell 10 = .ok (.iaload, 1) := by decide +kernel
theorem dL_cell_11 : decode cL_cell 11 = .ok (.goto 4, 3) := by decide +kernel
theorem dL_cell_14 : decode cL_cell 14 = .ok (.iconst 0, 1) := by decide +kernel
theorem dL_cell_15 : decode cL_cell 15 = .ok (.sipush 1009, 3) := by decide +kernel
theorem dL_cell_18 : decode cL_cell 18 = .ok (.iload_n 1, 1) := by decide +kernel
theorem dL_cell_19 : decode cL_cell 19 = .ok (.imul, 1) := by decide +kernel
theorem dL_cell_20 : decode cL_cell 20 = .ok (.iadd, 1) := by decide +kernel
theorem dL_cell_21 : decode cL_cell 21 = .ok (.imul, 1) := by decide +kernel
theorem dL_cell_22 : decode cL_cell 22 = .ok (.sipush 12345, 3) := by decide +kernel
theorem dL_cell_25 : decode cL_cell 25 = .ok (.iadd, 1) := by decide +kernel
theorem dL_cell_26 : decode cL_cell 26 = .ok (.istore_n 2, 1) := by decide +kernel
theorem dL_cell_27 : decode cL_cell 27 = .ok (.iload_n 2, 1) := by decide +kernel
theorem dL_cell_28 : decode cL_cell 28 = .ok (.iload_n 2, 1) := by decide +kernel
theorem dL_cell_29 : decode cL_cell 29 = .ok (.bipush 13, 2) := by decide +kernel
theorem dL_cell_31 : decode cL_cell 31 = .ok (.iushr, 1) := by decide +kernel
theorem dL_cell_32 : decode cL_cell 32 = .ok (.ixor, 1) := by decide +kernel
theorem dL_cell_33 : decode cL_cell 33 = .ok (.ldc 8, 2) := by decide +kernel
theorem dL_cell_35 : decode cL_cell 35 = .ok (.imul, 1) := by decide +kernel
theorem dL_cell_36 : decode cL_cell 36 = .ok (.istore_n 2, 1) := by decide +kernel
theorem dL_cell_37 : decode cL_cell 37 = .ok (.iload_n 2, 1) := by decide +kernel
theorem dL_cell_38 : decode cL_cell 38 = .ok (.iload_n 2, 1) := by decide +kernel
theorem dL_cell_39 : decode cL_cell 39 = .ok (.bipush 16, 2) := by decide +kernel
theorem dL_cell_41 : decode cL_cell 41 = .ok (.iushr, 1) := by decide +kernel
theorem dL_cell_42 : decode cL_cell 42 = .ok (.ixor, 1) := by decide +kernel
theorem dL_cell_43 : decode cL_cell 43 = .ok (.ireturn, 1) := by decide +kernel
set_option maxRecDepth 20000 in
theorem ggL_pick_L_cell : GoodIn wsL_pick wsL_cell := goodIn_ca (goodIn_r _ [4, 5, 6] (by decide +kernel) (by decide +kernel)) (goodIn_sub (fun _ h => List.mem_cons_of_mem _ (List.mem_append_right _ h)) (by decide +kernel))
set_option maxRecDepth 20000 in
theorem gL_pick_L_cell : GoodIn wsL_pick (va_wsS RL 9 yL_cell wsL_cell) := goodIn_app (goodIn_of _ (by decide +kernel)) ggL_pick_L_cell
theorem dL_pick_0 : decode cL_pick 0 = .ok (.aload_n 0, 1) := by decide +kernel
theorem dL_pick_1 : decode cL_pick 1 = .ok (.iload_n 1, 1) := by decide +kernel
theorem dL_pick_2 : decode cL_pick 2 = .ok (.invokestatic 9, 3) := by decide +kernel
theorem dL_pick_5 : decode cL_pick 5 = .ok (.bipush 8, 2) := by decide +kernel
theorem dL_pick_7 : decode cL_pick 7 = .ok (.iushr, 1) := by decide +kernel
theorem dL_pick_8 : decode cL_pick 8 = .ok (.iload_n 2, 1) := by decide +kernel
theorem dL_pick_9 : decode cL_pick 9 = .ok (.irem, 1) := by decide +kernel
theorem dL_pick_10 : decode cL_pick 10 = .ok (.ireturn, 1) := by decide +kernel
theorem dL_told_0 : decode cL_told 0 = .ok (.iload_n 0, 1) := by decide +kernel
theorem dL_told_1 : decode cL_told 1 = .ok (.ifCond .eq 7, 3) := by decide +kernel
theorem dL_told_4 : decode cL_told 4 = .ok (.iconst 1, 1) := by decide +kernel
theorem dL_told_5 : decode cL_told 5 = .ok (.goto 4, 3) := by decide +kernel
theorem dL_told_8 : decode cL_told 8 = .ok (.iconst 0, 1) := by decide +kernel
theorem dL_told_9 : decode cL_told 9 = .ok (.ireturn, 1) := by decide +kernel
set_option maxRecDepth 20000 in
theorem ggL_line_X7_addLine : GoodIn wsL_line wsX7_addLine := goodIn_ca (goodIn_ca (goodIn_ca (goodIn_r _ [7, 8, 9, 10, 11, 12, 13, 14, 15, 16, 17, 18, 19, 20, 21, 6, 22, 23, 24, 25, 26, 27, 28, 29, 30, 31, 32, 33, 34, 35, 36, 37, 38, 39, 40, 41, 42, 43, 44, 45, 46, 47, 48, 49, 50, 51, 52, 53, 54, 55, 56, 57, 58, 59, 60, 61, 62, 63, 64, 65, 66, 67, 68, 69, 70, 71, 72, 73, 74, 75, 76, 77, 78, 79, 80, 81, 82, 83, 84, 85, 86, 87, 88, 89, 90, 91, 92, 93, 94, 95, 96, 97, 98, 99, 100, 101, 102, 103, 104, 105, 106, 107, 108, 109, 110, 111, 112, 113, 114, 115, 116, 117, 118, 119, 120, 121, 122, 123, 124, 125, 126, 127, 128, 129, 130, 131, 132, 133, 134, 135, 136, 137, 138, 139, 140, 141, 142, 143, 144, 145, 146, 147, 148, 149, 150, 151, 152, 153, 154, 155, 156, 157, 158, 159, 160, 161, 162, 163, 164, 165, 166, 167, 168, 169, 170, 171, 172, 173, 174, 175, 176, 177, 178, 179, 180, 181, 182, 183, 184, 185, 186, 187, 188, 189, 190, 191, 192, 193, 194, 195, 196, 197, 198, 199, 200, 201, 202, 203, 204, 205, 206, 207, 208, 209, 210, 211, 212, 213, 214, 215, 216, 217, 218, 219, 220, 221, 222, 223, 224, 225, 226, 227, 228, 229, 230, 231, 232, 233, 234, 235, 236, 237, 238, 239, 240, 241, 242, 243, 244, 245, 246, 247, 248, 249, 250, 251, 252, 253, 254, 255, 256, 257, 258, 259, 260, 261, 262, 263, 264, 265, 266, 267, 268, 269, 270, 271, 272, 273, 274, 275, 276, 277, 278, 279, 280] (by decide +kernel) (by decide +kernel)) (goodIn_sub (fun _ h => List.mem_cons_of_mem _ (List.mem_append_left _ (List.mem_append_left _ (List.mem_append_right _ h)))) (by decide +kernel))) (goodIn_sub (fun _ h => List.mem_cons_of_mem _ (List.mem_append_left _ (List.mem_append_right _ h))) (by decide +kernel))) (goodIn_sub (fun _ h => List.mem_cons_of_mem _ (List.mem_append_right _ h)) (by decide +kernel))
set_option maxRecDepth 20000 in
theorem gL_line_X7_addLine : GoodIn wsL_line (wsV RL 15 RX7 yX7_addLine wsX7_addLine) := goodIn_app (goodIn_of _ (by decide +kernel)) ggL_line_X7_addLine
theorem dL_line_0 : decode cL_line 0 = .ok (.aload_n 0, 1) := by decide +kernel
theorem dL_line_1 : decode cL_line 1 = .ok (.iload_n 1, 1) := by decide +kernel
theorem dL_line_2 : decode cL_line 2 = .ok (.iload_n 2, 1) := by decide +kernel
theorem dL_line_3 : decode cL_line 3 = .ok (.iload_n 3, 1) := by decide +kernel
theorem dL_line_4 : decode cL_line 4 = .ok (.iload 4, 2) := by decide +kernel
theorem dL_line_6 : decode cL_line 6 = .ok (.iload 5, 2) := by decide +kernel
theorem dL_line_8 : decode cL_line 8 = .ok (.iload 6, 2) := by decide +kernel
theorem dL_line_10 : decode cL_line 10 = .ok (.invokevirtual 15, 3) := by decide +kernel
theorem dL_line_13 : decode cL_line 13 = .ok (.ireturn, 1) := by decide +kernel
theorem dL_line_14 : decode cL_line 14 = .ok (.astore 7, 2) := by decide +kernel
theorem dL_line_16 : decode cL_line 16 = .ok (.sipush (-2002), 3) := by decide +kernel
theorem dL_line_19 : decode cL_line 19 = .ok (.ireturn, 1) := by decide +kernel
theorem dL_line_20 : decode cL_line 20 = .ok (.astore 7, 2) := by decide +kernel
theorem dL_line_22 : decode cL_line 22 = .ok (.sipush (-2003), 3) := by decide +kernel
theorem dL_line_25 : decode cL_line 25 = .ok (.ireturn, 1) := by decide +kernel
set_option maxRecDepth 20000 in
theorem ggL_alert_X7_addAlert : GoodIn wsL_alert wsX7_addAlert := goodIn_ca (goodIn_ca (goodIn_ca (goodIn_r _ [7, 8, 9, 10, 11, 12, 13, 14, 15, 16, 17, 18, 19, 20, 21, 22, 6, 23, 24, 25, 26, 27, 28, 29, 30, 31, 32, 33, 34, 35, 36, 37, 38, 39, 40, 41, 42, 43, 44, 45, 46, 47, 48, 49, 50, 51, 52, 53, 54, 55, 56, 57, 58, 59, 60, 61, 62, 63, 64, 65, 66, 67, 68, 69, 70, 71, 72, 73, 74, 75, 76, 77, 78, 79, 80, 81, 82, 83, 84, 85, 86, 87, 88, 89, 90, 91, 92, 93, 94, 95, 96, 97, 98, 99, 100, 101, 102, 103, 104, 105, 106, 107, 108, 109, 110, 111, 112, 113, 114, 115, 116, 117, 118, 119, 120, 121, 122, 123, 124, 125, 126, 127, 128, 129, 130, 131, 132, 133, 134, 135, 136, 137, 138, 139, 140, 141, 142, 143, 144, 145, 146, 147, 148, 149, 150, 151, 152, 153, 154, 155, 156, 157, 158, 159, 160, 161, 162, 163, 164, 165, 166, 167, 168, 169, 170, 171, 172, 173, 174, 175, 176, 177, 178, 179, 180, 181, 182, 183, 184, 185, 186, 187, 188, 189, 190, 191, 192, 193, 194, 195, 196, 197, 198, 199, 200, 201, 202, 203, 204, 205, 206, 207, 208, 209, 210, 211, 212, 213, 214, 215] (by decide +kernel) (by decide +kernel)) (goodIn_sub (fun _ h => List.mem_cons_of_mem _ (List.mem_append_left _ (List.mem_append_right _ h))) (by decide +kernel))) (goodIn_sub (fun _ h => List.mem_cons_of_mem _ (List.mem_append_right _ h)) (by decide +kernel))) (goodIn_sub (fun _ h => List.mem_cons_of_mem _ (List.mem_append_left _ (List.mem_append_left _ (List.mem_append_right _ h)))) (by decide +kernel))
set_option maxRecDepth 20000 in
theorem gL_alert_X7_addAlert : GoodIn wsL_alert (wsV RL 25 RX7 yX7_addAlert wsX7_addAlert) := goodIn_app (goodIn_of _ (by decide +kernel)) ggL_alert_X7_addAlert
theorem dL_alert_0 : decode cL_alert 0 = .ok (.aload_n 0, 1) := by decide +kernel
theorem dL_alert_1 : decode cL_alert 1 = .ok (.aload_n 1, 1) := by decide +kernel
theorem dL_alert_2 : decode cL_alert 2 = .ok (.iload_n 2, 1) := by decide +kernel
theorem dL_alert_3 : decode cL_alert 3 = .ok (.iaload, 1) := by decide +kernel
theorem dL_alert_4 : decode cL_alert 4 = .ok (.aload_n 1, 1) := by decide +kernel
theorem dL_alert_5 : decode cL_alert 5 = .ok (.iload_n 2, 1) := by decide +kernel
theorem dL_alert_6 : decode cL_alert 6 = .ok (.iconst 1, 1) := by decide +kernel
theorem dL_alert_7 : decode cL_alert 7 = .ok (.iadd, 1) := by decide +kernel
theorem dL_alert_8 : decode cL_alert 8 = .ok (.iaload, 1) := by decide +kernel
theorem dL_alert_9 : decode cL_alert 9 = .ok (.aload_n 1, 1) := by decide +kernel
theorem dL_alert_10 : decode cL_alert 10 = .ok (.iload_n 2, 1) := by decide +kernel
theorem dL_alert_11 : decode cL_alert 11 = .ok (.iconst 2, 1) := by decide +kernel
theorem dL_alert_12 : decode cL_alert 12 = .ok (.iadd, 1) := by decide +kernel
theorem dL_alert_13 : decode cL_alert 13 = .ok (.iaload, 1) := by decide +kernel
theorem dL_alert_14 : decode cL_alert 14 = .ok (.aload_n 1, 1) := by decide +kernel
theorem dL_alert_15 : decode cL_alert 15 = .ok (.iload_n 2, 1) := by decide +kernel
theorem dL_alert_16 : decode cL_alert 16 = .ok (.iconst 3, 1) := by decide +kernel
theorem dL_alert_17 : decode cL_alert 17 = .ok (.iadd, 1) := by decide +kernel
theorem dL_alert_18 : decode cL_alert 18 = .ok (.iaload, 1) := by decide +kernel
theorem dL_alert_19 : decode cL_alert 19 = .ok (.aload_n 1, 1) := by decide +kernel
theorem dL_alert_20 : decode cL_alert 20 = .ok (.iload_n 2, 1) := by decide +kernel
theorem dL_alert_21 : decode cL_alert 21 = .ok (.iconst 4, 1) := by decide +kernel
theorem dL_alert_22 : decode cL_alert 22 = .ok (.iadd, 1) := by decide +kernel
theorem dL_alert_23 : decode cL_alert 23 = .ok (.iaload, 1) := by decide +kernel
theorem dL_alert_24 : decode cL_alert 24 = .ok (.aload_n 1, 1) := by decide +kernel
theorem dL_alert_25 : decode cL_alert 25 = .ok (.iload_n 2, 1) := by decide +kernel
theorem dL_alert_26 : decode cL_alert 26 = .ok (.iconst 5, 1) := by decide +kernel
theorem dL_alert_27 : decode cL_alert 27 = .ok (.iadd, 1) := by decide +kernel
theorem dL_alert_28 : decode cL_alert 28 = .ok (.iaload, 1) := by decide +kernel
theorem dL_alert_29 : decode cL_alert 29 = .ok (.aload_n 1, 1) := by decide +kernel
theorem dL_alert_30 : decode cL_alert 30 = .ok (.iload_n 2, 1) := by decide +kernel
theorem dL_alert_31 : decode cL_alert 31 = .ok (.bipush 6, 2) := by decide +kernel
theorem dL_alert_33 : decode cL_alert 33 = .ok (.iadd, 1) := by decide +kernel
theorem dL_alert_34 : decode cL_alert 34 = .ok (.iaload, 1) := by decide +kernel
theorem dL_alert_35 : decode cL_alert 35 = .ok (.invokevirtual 25, 3) := by decide +kernel
theorem dL_alert_38 : decode cL_alert 38 = .ok (.ireturn, 1) := by decide +kernel
theorem dL_alert_39 : decode cL_alert 39 = .ok (.astore_n 3, 1) := by decide +kernel
theorem dL_alert_40 : decode cL_alert 40 = .ok (.sipush (-2002), 3) := by decide +kernel
theorem dL_alert_43 : decode cL_alert 43 = .ok (.ireturn, 1) := by decide +kernel
theorem dL_alert_44 : decode cL_alert 44 = .ok (.astore_n 3, 1) := by decide +kernel
theorem dL_alert_45 : decode cL_alert 45 = .ok (.sipush (-2003), 3) := by decide +kernel
theorem dL_alert_48 : decode cL_alert 48 = .ok (.ireturn, 1) := by decide +kernel
set_option maxRecDepth 20000 in
theorem ggL_plain_X7_setBudget : GoodIn wsL_plain wsX7_setBudget := goodIn_ca (goodIn_ca (goodIn_r _ [5, 6, 7, 8, 9, 10, 4, 11, 12, 13, 14, 15, 16, 17, 18, 19, 20, 21, 22, 23, 24, 25, 26, 27, 28, 29, 30, 31, 32, 33, 34, 35, 36, 37, 38, 39, 40, 41, 42, 43, 44, 45, 46, 47, 48, 49, 50, 51, 52, 53, 54, 247, 248, 249, 250, 251, 252, 253, 254, 255, 256, 257, 258, 259, 260, 261, 262, 263, 264] (by decide +kernel) (by decide +kernel)) (goodIn_sub (fun _ h => List.mem_cons_of_mem _ (List.mem_append_left _ (List.mem_append_left _ (List.mem_append_left _ (List.mem_append_left _ (List.mem_append_right _ h)))))) (by decide +kernel))) (goodIn_sub (fun _ h => List.mem_cons_of_mem _ (List.mem_append_left _ (List.mem_append_left _ (List.mem_append_left _ (List.mem_append_right _ h))))) (by decide +kernel))
set_option maxRecDepth 20000 in
theorem gL_plain_X7_setBudget : GoodIn wsL_plain (wsV RL 29 RX7 yX7_setBudget wsX7_setBudget) := goodIn_app (goodIn_of _ (by decide +kernel)) ggL_plain_X7_setBudget
set_option maxRecDepth 20000 in
theorem ggL_plain_X7_archive : GoodIn wsL_plain wsX7_archive := goodIn_ca (goodIn_ca (goodIn_r _ [58, 59, 60, 61, 62, 63, 4, 64, 65, 66, 26, 27, 28, 29, 30, 31, 32, 33, 34, 35, 36, 37, 38, 39, 40, 41, 42, 43, 44, 45, 46, 47, 48, 49, 50, 22, 23, 24, 25, 254, 255, 256, 257, 258, 259, 260, 261, 247, 248, 249, 250, 251, 252, 253, 262, 263, 264] (by decide +kernel) (by decide +kernel)) (goodIn_sub (fun _ h => List.mem_cons_of_mem _ (List.mem_append_left _ (List.mem_append_left _ (List.mem_append_right _ h)))) (by decide +kernel))) (goodIn_sub (fun _ h => List.mem_cons_of_mem _ (List.mem_append_left _ (List.mem_append_right _ h))) (by decide +kernel))
set_option maxRecDepth 20000 in
theorem gL_plain_X7_archive : GoodIn wsL_plain (wsV RL 33 RX7 yX7_archive wsX7_archive) := goodIn_app (goodIn_of _ (by decide +kernel)) ggL_plain_X7_archive
set_option maxRecDepth 20000 in
theorem ggL_plain_X7_request : GoodIn wsL_plain wsX7_request := goodIn_ca (goodIn_ca (goodIn_r _ [70, 6, 7, 59, 60, 71, 72, 73, 74, 75, 76, 77, 78, 12, 13, 4, 14, 15, 16, 17, 79, 80, 81, 28, 29, 30, 31, 32, 33, 82, 83, 84, 85, 86, 87, 88, 89, 90, 91, 92, 93, 94, 26, 27, 34, 35, 36, 37, 38, 39, 40, 41, 42, 43, 44, 45, 46, 47, 48, 49, 50, 95, 96, 97, 98, 99, 100, 101, 102, 103, 104, 105, 106, 107, 108, 109, 110, 111, 112, 113, 114, 115, 116, 117, 118, 119, 120, 121, 122, 123, 124, 125, 126, 127, 128, 129, 130, 131, 132, 133, 134, 135, 136, 137, 138, 139, 140, 141, 142, 143, 144, 145, 146, 147, 148, 149, 150, 151, 152, 153, 154, 155, 156, 157, 158, 159, 160, 161, 162, 247, 248, 249, 250, 251, 252, 253, 265, 266, 267, 268, 269, 270, 271, 272, 262, 263, 264, 254, 255, 256, 257, 258, 259, 260, 261, 273, 274, 275] (by decide +kernel) (by decide +kernel)) (goodIn_sub (fun _ h => List.mem_cons_of_mem _ (List.mem_append_left _ (List.mem_append_left _ (List.mem_append_left _ (List.mem_append_left _ (List.mem_append_right _ h)))))) (by decide +kernel))) (goodIn_sub (fun _ h => List.mem_cons_of_mem _ (List.mem_append_left _ (List.mem_append_left _ (List.mem_append_right _ h)))) (by decide +kernel))
set_option maxRecDepth 20000 in
theorem gL_plain_X7_request : GoodIn wsL_plain (wsV RL 37 RX7 yX7_request wsX7_request) := goodIn_app (goodIn_of _ (by decide +kernel)) ggL_plain_X7_request
set_option maxRecDepth 20000 in
theorem ggL_plain_X7_release : GoodIn wsL_plain wsX7_release := goodIn_ca (goodIn_ca (goodIn_ca (goodIn_ca (goodIn_r _ [166, 59, 60, 167, 168, 169, 170, 171, 4, 172, 65, 66, 173, 174, 28, 29, 30, 31, 32, 33, 34, 35, 36, 37, 38, 39, 40, 41, 42, 43, 44, 45, 46, 47, 48, 49, 50, 175, 176, 177, 178, 26, 27, 179, 180, 181, 182, 183, 184, 185, 186, 187, 188, 189, 190, 191, 18, 19, 20, 21, 8, 22, 23, 24, 25, 51, 52, 53, 54, 276, 277, 278, 279, 280, 281, 282, 283, 284, 285, 286, 287, 288, 289, 247, 248, 249, 250, 251, 252, 253, 262, 263, 264, 254, 255, 256, 257, 258, 259, 260, 261] (by decide +kernel) (by decide +kernel)) (goodIn_sub (fun _ h => List.mem_cons_of_mem _ (List.mem_append_left _ (List.mem_append_left _ (List.mem_append_right _ h)))) (by decide +kernel))) (goodIn_sub (fun _ h => List.mem_cons_of_mem _ (List.mem_append_right _ h)) (by decide +kernel))) (goodIn_sub (fun _ h => List.mem_cons_of_mem _ (List.mem_append_left _ (List.mem_append_right _ h))) (by decide +kernel))) (goodIn_sub (fun _ h => List.mem_cons_of_mem _ (List.mem_append_left _ (List.mem_append_left _ (List.mem_append_left _ (List.mem_append_right _ h))))) (by decide +kernel))
set_option maxRecDepth 20000 in
theorem gL_plain_X7_release : GoodIn wsL_plain (wsV RL 40 RX7 yX7_release wsX7_release) := goodIn_app (goodIn_of _ (by decide +kernel)) ggL_plain_X7_release
set_option maxRecDepth 20000 in
theorem ggL_plain_X7_pass : GoodIn wsL_plain wsX7_pass := goodIn_ca (goodIn_ca (goodIn_ca (goodIn_r _ [195, 6, 7, 59, 60, 75, 15, 16, 4, 17, 196, 197, 198, 199, 200, 201, 28, 29, 30, 31, 32, 33, 34, 35, 36, 37, 38, 39, 40, 41, 42, 43, 44, 45, 46, 47, 48, 49, 50, 202, 203, 204, 205, 26, 27, 95, 74, 96, 97, 87, 88, 89, 90, 98, 99, 100, 101, 102, 103, 104, 206, 207, 208, 209, 210, 211, 212, 213, 214, 215, 216, 217, 180, 173, 218, 219, 220, 85, 86, 221, 183, 222, 223, 110, 111, 112, 113, 114, 115, 116, 117, 118, 119, 120, 121, 122, 123, 124, 125, 126, 127, 128, 129, 130, 131, 132, 133, 134, 135, 136, 137, 138, 139, 140, 141, 142, 143, 144, 145, 146, 147, 148, 149, 150, 151, 152, 153, 154, 155, 156, 157, 158, 159, 160, 161, 162, 224, 225, 226, 227, 228, 229, 230, 231, 232, 233, 234, 235, 236, 237, 179, 181, 182, 238, 239, 240, 187, 241, 188, 189, 190, 191, 18, 19, 20, 21, 8, 22, 23, 24, 25, 51, 52, 53, 54, 242, 243, 244, 245, 71, 246, 91, 92, 93, 94, 247, 248, 249, 250, 251, 252, 253, 262, 263, 264, 281, 282, 283, 284, 285, 286, 287, 288, 289, 254, 255, 256, 257, 258, 259, 260, 261, 265, 266, 267, 268, 273, 274, 275, 276, 277, 278, 279, 280, 269, 270, 271, 272] (by decide +kernel) (by decide +kernel)) (goodIn_sub (fun _ h => List.mem_cons_of_mem _ (List.mem_append_left _ (List.mem_append_left _ (List.mem_append_left _ (List.mem_append_left _ (List.mem_append_right _ h)))))) (by decide +kernel))) (goodIn_sub (fun _ h => List.mem_cons_of_mem _ (List.mem_append_left _ (List.mem_append_left _ (List.mem_append_right _ h)))) (by decide +kernel))) (goodIn_sub (fun _ h => List.mem_cons_of_mem _ (List.mem_append_left _ (List.mem_append_left _ (List.mem_append_left _ (List.mem_append_right _ h))))) (by decide +kernel))
set_option maxRecDepth 20000 in
theorem gL_plain_X7_pass : GoodIn wsL_plain (wsV RL 43 RX7 yX7_pass wsX7_pass) := goodIn_app (goodIn_of _ (by decide +kernel)) ggL_plain_X7_pass
theorem dL_plain_0 : decode cL_plain 0 = .ok (.iload_n 1, 1) := by decide +kernel
theorem dL_plain_1 : decode cL_plain 1 = .ok (.tableswitch 57 0 3 #[31, 38, 44, 51], 31) := by decide +kernel
theorem dL_plain_32 : decode cL_plain 32 = .ok (.aload_n 0, 1) := by decide +kernel
theorem dL_plain_33 : decode cL_plain 33 = .ok (.iload_n 2, 1) := by decide +kernel
theorem dL_plain_34 : decode cL_plain 34 = .ok (.iload_n 3, 1) := by decide +kernel
theorem dL_plain_35 : decode cL_plain 35 = .ok (.invokevirtual 29, 3) := by decide +kernel
theorem dL_plain_38 : decode cL_plain 38 = .ok (.ireturn, 1) := by decide +kernel
theorem dL_plain_39 : decode cL_plain 39 = .ok (.aload_n 0, 1) := by decide +kernel
theorem dL_plain_40 : decode cL_plain 40 = .ok (.iload_n 2, 1) := by decide +kernel
theorem dL_plain_41 : decode cL_plain 41 = .ok (.invokevirtual 33, 3) := by decide +kernel
theorem dL_plain_44 : decode cL_plain 44 = .ok (.ireturn, 1) := by decide +kernel
theorem dL_plain_45 : decode cL_plain 45 = .ok (.aload_n 0, 1) := by decide +kernel
theorem dL_plain_46 : decode cL_plain 46 = .ok (.iload_n 2, 1) := by decide +kernel
theorem dL_plain_47 : decode cL_plain 47 = .ok (.iload_n 3, 1) := by decide +kernel
theorem dL_plain_48 : decode cL_plain 48 = .ok (.invokevirtual 37, 3) := by decide +kernel
theorem dL_plain_51 : decode cL_plain 51 = .ok (.ireturn, 1) := by decide +kernel
theorem dL_plain_52 : decode cL_plain 52 = .ok (.aload_n 0, 1) := by decide +kernel
theorem dL_plain_53 : decode cL_plain 53 = .ok (.iload_n 2, 1) := by decide +kernel
theorem dL_plain_54 : decode cL_plain 54 = .ok (.invokevirtual 40, 3) := by decide +kernel
theorem dL_plain_57 : decode cL_plain 57 = .ok (.ireturn, 1) := by decide +kernel
theorem dL_plain_58 : decode cL_plain 58 = .ok (.aload_n 0, 1) := by decide +kernel
theorem dL_plain_59 : decode cL_plain 59 = .ok (.iload_n 2, 1) := by decide +kernel
theorem dL_plain_60 : decode cL_plain 60 = .ok (.invokevirtual 43, 3) := by decide +kernel
theorem dL_plain_63 : decode cL_plain 63 = .ok (.ireturn, 1) := by decide +kernel
set_option maxRecDepth 20000 in
theorem ggL_deed_L_plain : GoodIn wsL_deed wsL_plain := goodIn_ca (goodIn_ca (goodIn_ca (goodIn_ca (goodIn_ca (goodIn_r _ [8, 9, 10, 11, 12, 13, 14, 15, 16, 17, 18, 19, 20, 21, 22, 23, 24, 25, 26, 27, 28, 29, 30, 31, 32, 33, 34, 35, 36, 37, 38, 39, 40, 41, 42, 43, 44, 45, 46, 47, 48, 49, 50, 51, 52, 53, 54, 55, 56, 57, 58, 59, 60, 61, 62, 63, 64, 65, 66, 67, 68, 69, 70, 71, 72, 73, 74, 75, 76, 77, 78, 79, 80, 81, 82, 83, 84, 85, 86, 87, 88, 89, 90, 91, 92, 93, 94, 95, 96, 97, 98, 99, 100, 101, 102, 103, 104, 105, 106, 107, 108, 109, 110, 111, 112, 113, 114, 115, 116, 117, 118, 119, 120, 121, 122, 123, 124, 125, 126, 127, 128, 129, 130, 131, 132, 133, 134, 135, 136, 137, 138, 139, 140, 141, 142, 143, 144, 145, 146, 147, 148, 149, 150, 151, 152, 153, 154, 155, 156, 157, 158, 159, 160, 161, 162, 163, 164, 165, 166, 167, 168, 169, 170, 171, 172, 173, 174, 175, 176, 177, 178, 179, 180, 181, 182, 183, 184, 185, 186, 187, 188, 189, 190, 191, 192, 193, 194, 195, 196, 197, 198, 199, 200, 201, 202, 203, 204, 205, 206, 207, 208, 209, 210, 211, 212, 213, 214, 215, 216, 217, 218, 219, 220, 221, 222, 223, 224, 225, 226, 227, 228, 229, 230, 231, 232, 233, 234, 235, 236, 237, 238, 239, 240, 241, 242, 243, 244, 245, 246, 247, 248, 249, 250, 251, 252, 253, 254, 255, 256, 257, 258, 259, 260, 261, 262, 263, 264, 265, 266, 267, 268, 269, 270, 271, 272, 273, 274, 275, 276, 277, 278, 279, 280, 281, 282, 283, 284, 285, 286, 287, 288, 289, 290, 291, 292, 293, 294, 295, 296, 297] (by decide +kernel) (by decide +kernel)) (goodIn_sub (fun _ h => List.mem_cons_of_mem _ (List.mem_append_left _ (List.mem_append_left _ (List.mem_append_left _ (List.mem_append_left _ (List.mem_append_right _ h)))))) (by decide +kernel))) (goodIn_sub (fun _ h => List.mem_cons_of_mem _ (List.mem_append_left _ (List.mem_append_left _ (List.mem_append_left _ (List.mem_append_right _ h))))) (by decide +kernel))) (goodIn_sub (fun _ h => List.mem_cons_of_mem _ (List.mem_append_left _ (List.mem_append_left _ (List.mem_append_right _ h)))) (by decide +kernel))) (goodIn_sub (fun _ h => List.mem_cons_of_mem _ (List.mem_append_left _ (List.mem_append_right _ h))) (by decide +kernel))) (goodIn_sub (fun _ h => List.mem_cons_of_mem _ (List.mem_append_right _ h)) (by decide +kernel))
set_option maxRecDepth 20000 in
theorem gL_deed_L_plain : GoodIn wsL_deed (va_wsS RL 46 yL_plain wsL_plain) := goodIn_app (goodIn_of _ (by decide +kernel)) ggL_deed_L_plain
theorem dL_deed_0 : decode cL_deed 0 = .ok (.aload_n 0, 1) := by decide +kernel
theorem dL_deed_1 : decode cL_deed 1 = .ok (.iload_n 1, 1) := by decide +kernel
theorem dL_deed_2 : decode cL_deed 2 = .ok (.iload_n 2, 1) := by decide +kernel
theorem dL_deed_3 : decode cL_deed 3 = .ok (.iload_n 3, 1) := by decide +kernel
theorem dL_deed_4 : decode cL_deed 4 = .ok (.invokestatic 46, 3) := by decide +kernel
theorem dL_deed_7 : decode cL_deed 7 = .ok (.ireturn, 1) := by decide +kernel
theorem dL_deed_8 : decode cL_deed 8 = .ok (.astore 4, 2) := by decide +kernel
theorem dL_deed_10 : decode cL_deed 10 = .ok (.sipush (-2002), 3) := by decide +kernel
theorem dL_deed_13 : decode cL_deed 13 = .ok (.ireturn, 1) := by decide +kernel
theorem dL_deed_14 : decode cL_deed 14 = .ok (.astore 4, 2) := by decide +kernel
theorem dL_deed_16 : decode cL_deed 16 = .ok (.sipush (-2003), 3) := by decide +kernel
theorem dL_deed_19 : decode cL_deed 19 = .ok (.ireturn, 1) := by decide +kernel
theorem dL_deed_20 : decode cL_deed 20 = .ok (.astore 4, 2) := by decide +kernel
theorem dL_deed_22 : decode cL_deed 22 = .ok (.sipush (-2004), 3) := by decide +kernel
theorem dL_deed_25 : decode cL_deed 25 = .ok (.ireturn, 1) := by decide +kernel
theorem dL_deed_26 : decode cL_deed 26 = .ok (.astore 4, 2) := by decide +kernel
theorem dL_deed_28 : decode cL_deed 28 = .ok (.sipush (-2005), 3) := by decide +kernel
theorem dL_deed_31 : decode cL_deed 31 = .ok (.ireturn, 1) := by decide +kernel
set_option maxRecDepth 20000 in
theorem ggL_asked_X7_stateOf : GoodIn wsL_asked wsX7_stateOf := goodIn_ca (goodIn_r _ [5, 6, 7, 8, 4, 9, 10, 11, 12, 13, 14, 15, 16, 17, 18, 19, 20, 21, 22, 23, 24, 25, 26, 27, 28, 29, 30, 31, 32, 33, 34, 35, 36, 194, 195, 196, 197, 198, 199, 200, 201, 202, 203, 204, 205, 206, 207, 208, 209, 210, 211] (by decide +kernel) (by decide +kernel)) (goodIn_sub (fun _ h => List.mem_cons_of_mem _ (List.mem_append_left _ (List.mem_append_left _ (List.mem_append_left _ (List.mem_append_left _ (List.mem_append_right _ h)))))) (by decide +kernel))
set_option maxRecDepth 20000 in
theorem gL_asked_X7_stateOf : GoodIn wsL_asked (wsV RL 54 RX7 yX7_stateOf wsX7_stateOf) := goodIn_app (goodIn_of _ (by decide +kernel)) ggL_asked_X7_stateOf
set_option maxRecDepth 20000 in
theorem ggL_asked_X7_patternOf : GoodIn wsL_asked wsX7_patternOf := goodIn_ca (goodIn_r _ [40, 6, 7, 8, 4, 9, 10, 11, 12, 13, 14, 15, 16, 17, 18, 19, 20, 21, 22, 23, 24, 25, 26, 27, 28, 29, 30, 31, 32, 33, 34, 35, 36, 194, 195, 196, 197, 198, 199, 200, 201, 212, 213, 214, 215, 202, 203, 204, 205, 206, 207, 208, 209, 210, 211] (by decide +kernel) (by decide +kernel)) (goodIn_sub (fun _ h => List.mem_cons_of_mem _ (List.mem_append_left _ (List.mem_append_left _ (List.mem_append_left _ (List.mem_append_left _ (List.mem_append_right _ h)))))) (by decide +kernel))
set_option maxRecDepth 20000 in
theorem gL_asked_X7_patternOf : GoodIn wsL_asked (wsV RL 58 RX7 yX7_patternOf wsX7_patternOf) := goodIn_app (goodIn_of _ (by decide +kernel)) ggL_asked_X7_patternOf
set_option maxRecDepth 20000 in
theorem ggL_asked_X7_patterns : GoodIn wsL_asked wsX7_patterns := goodIn_ca (goodIn_r _ [44, 45, 46, 47, 48, 4, 49, 50, 51, 52, 53, 54, 55, 56, 57, 14, 15, 16, 17, 18, 19, 20, 21, 22, 23, 24, 25, 26, 27, 28, 29, 30, 31, 32, 33, 34, 35, 36, 202, 203, 204, 205, 206, 207, 208, 212, 213, 214, 215, 209, 210, 211] (by decide +kernel) (by decide +kernel)) (goodIn_sub (fun _ h => List.mem_cons_of_mem _ (List.mem_append_left _ (List.mem_append_left _ (List.mem_append_left _ (List.mem_append_right _ h))))) (by decide +kernel))
set_option maxRecDepth 20000 in
theorem gL_asked_X7_patterns : GoodIn wsL_asked (wsV RL 61 RX7 yX7_patterns wsX7_patterns) := goodIn_app (goodIn_of _ (by decide +kernel)) ggL_asked_X7_patterns
set_option maxRecDepth 20000 in
theorem ggL_asked_X7_wordAt : GoodIn wsL_asked wsX7_wordAt := goodIn_ca (goodIn_ca (goodIn_r _ [61, 62, 63, 64, 4, 65, 10, 11, 45, 46, 14, 15, 16, 17, 18, 19, 20, 21, 22, 23, 24, 25, 26, 27, 28, 29, 30, 31, 32, 33, 34, 35, 36, 66, 67, 68, 50, 51, 55, 56, 57, 69, 70, 71, 72, 73, 74, 75, 212, 213, 214, 215, 202, 203, 204, 205, 206, 207, 208, 209, 210, 211, 216, 217, 218] (by decide +kernel) (by decide +kernel)) (goodIn_sub (fun _ h => List.mem_cons_of_mem _ (List.mem_append_left _ (List.mem_append_left _ (List.mem_append_left _ (List.mem_append_left _ (List.mem_append_right _ h)))))) (by decide +kernel))) (goodIn_sub (fun _ h => List.mem_cons_of_mem _ (List.mem_append_left _ (List.mem_append_left _ (List.mem_append_left _ (List.mem_append_right _ h))))) (by decide +kernel))
set_option maxRecDepth 20000 in
theorem gL_asked_X7_wordAt : GoodIn wsL_asked (wsV RL 64 RX7 yX7_wordAt wsX7_wordAt) := goodIn_app (goodIn_of _ (by decide +kernel)) ggL_asked_X7_wordAt
set_option maxRecDepth 20000 in
theorem ggL_asked_X7_linesOf : GoodIn wsL_asked wsX7_linesOf := goodIn_ca (goodIn_r _ [79, 12, 13, 62, 63, 64, 4, 65, 10, 11, 45, 46, 14, 15, 16, 17, 18, 19, 20, 21, 22, 23, 24, 25, 26, 27, 28, 29, 30, 31, 32, 33, 34, 35, 36, 202, 203, 204, 205, 206, 207, 208, 194, 195, 196, 197, 198, 199, 200, 201, 212, 213, 214, 215, 209, 210, 211] (by decide +kernel) (by decide +kernel)) (goodIn_sub (fun _ h => List.mem_cons_of_mem _ (List.mem_append_left _ (List.mem_append_left _ (List.mem_append_left _ (List.mem_append_left _ (List.mem_append_right _ h)))))) (by decide +kernel))
set_option maxRecDepth 20000 in
theorem gL_asked_X7_linesOf : GoodIn wsL_asked (wsV RL 67 RX7 yX7_linesOf wsX7_linesOf) := goodIn_app (goodIn_of _ (by decide +kernel)) ggL_asked_X7_linesOf
set_option maxRecDepth 20000 in
theorem ggL_asked_X7_values : GoodIn wsL_asked wsX7_values := goodIn_ca (goodIn_ca (goodIn_r _ [83, 12, 13, 62, 63, 64, 4, 65, 10, 11, 45, 46, 14, 15, 16, 17, 18, 19, 20, 21, 22, 23, 24, 25, 26, 27, 28, 29, 30, 31, 32, 33, 34, 35, 36, 66, 67, 68, 50, 51, 55, 56, 57, 69, 70, 71, 72, 73, 74, 75, 84, 85, 86, 87, 88, 89, 90, 202, 203, 204, 205, 206, 207, 208, 194, 195, 196, 197, 198, 199, 200, 201, 212, 213, 214, 215, 209, 210, 211, 216, 217, 218] (by decide +kernel) (by decide +kernel)) (goodIn_sub (fun _ h => List.mem_cons_of_mem _ (List.mem_append_left _ (List.mem_append_left _ (List.mem_append_left _ (List.mem_append_left _ (List.mem_append_right _ h)))))) (by decide +kernel))) (goodIn_sub (fun _ h => List.mem_cons_of_mem _ (List.mem_append_left _ (List.mem_append_left _ (List.mem_append_left _ (List.mem_append_right _ h))))) (by decide +kernel))
set_option maxRecDepth 20000 in
theorem gL_asked_X7_values : GoodIn wsL_asked (wsV RL 70 RX7 yX7_values wsX7_values) := goodIn_app (goodIn_of _ (by decide +kernel)) ggL_asked_X7_values
set_option maxRecDepth 20000 in
theorem ggL_asked_X7_kept : GoodIn wsL_asked wsX7_kept := goodIn_ca (goodIn_r _ [94, 47, 48, 4, 49, 50, 51, 52, 53, 54, 55, 56, 57, 95, 96, 97, 98, 12, 13, 14, 15, 16, 17, 18, 19, 20, 21, 22, 23, 24, 25, 26, 27, 28, 29, 30, 31, 32, 33, 34, 35, 36, 202, 203, 204, 205, 206, 207, 208, 194, 195, 196, 197, 198, 199, 200, 201, 209, 210, 211] (by decide +kernel) (by decide +kernel)) (goodIn_sub (fun _ h => List.mem_cons_of_mem _ (List.mem_append_left _ (List.mem_append_left _ (List.mem_append_left _ (List.mem_append_right _ h))))) (by decide +kernel))
set_option maxRecDepth 20000 in
theorem gL_asked_X7_kept : GoodIn wsL_asked (wsV RL 73 RX7 yX7_kept wsX7_kept) := goodIn_app (goodIn_of _ (by decide +kernel)) ggL_asked_X7_kept
set_option maxRecDepth 20000 in
theorem ggL_asked_X7_dropped : GoodIn wsL_asked wsX7_dropped := goodIn_ca (goodIn_r _ [102, 12, 13, 47, 48, 4, 49, 50, 51, 52, 53, 54, 55, 56, 57, 14, 15, 16, 17, 18, 19, 20, 21, 22, 23, 24, 25, 26, 27, 28, 29, 30, 31, 32, 33, 34, 35, 36, 202, 203, 204, 205, 206, 207, 208, 194, 195, 196, 197, 198, 199, 200, 201, 209, 210, 211] (by decide +kernel) (by decide +kernel)) (goodIn_sub (fun _ h => List.mem_cons_of_mem _ (List.mem_append_left _ (List.mem_append_left _ (List.mem_append_left _ (List.mem_append_right _ h))))) (by decide +kernel))
set_option maxRecDepth 20000 in
theorem gL_asked_X7_dropped : GoodIn wsL_asked (wsV RL 76 RX7 yX7_dropped wsX7_dropped) := goodIn_app (goodIn_of _ (by decide +kernel)) ggL_asked_X7_dropped
set_option maxRecDepth 20000 in
theorem ggL_asked_X7_answer : GoodIn wsL_asked wsX7_answer := goodIn_ca (goodIn_ca (goodIn_r _ [106, 10, 11, 107, 108, 109, 110, 14, 15, 16, 17, 18, 19, 20, 21, 22, 23, 24, 25, 26, 27, 28, 29, 30, 31, 32, 33, 34, 35, 36, 202, 203, 204, 205, 206, 207, 208, 219, 220, 221, 222, 209, 210, 211] (by decide +kernel) (by decide +kernel)) (goodIn_sub (fun _ h => List.mem_cons_of_mem _ (List.mem_append_left _ (List.mem_append_left _ (List.mem_append_left _ (List.mem_append_left _ (List.mem_append_right _ h)))))) (by decide +kernel))) (goodIn_sub (fun _ h => List.mem_cons_of_mem _ (List.mem_append_left _ (List.mem_append_left _ (List.mem_append_right _ h)))) (by decide +kernel))
set_option maxRecDepth 20000 in
theorem gL_asked_X7_answer : GoodIn wsL_asked (wsV RL 79 RX7 yX7_answer wsX7_answer) := goodIn_app (goodIn_of _ (by decide +kernel)) ggL_asked_X7_answer
set_option maxRecDepth 20000 in
theorem ggL_asked_X7_alertState : GoodIn wsL_asked wsX7_alertState := goodIn_ca (goodIn_r _ [114, 115, 116, 117, 4, 118, 119, 120, 121, 122, 14, 15, 16, 17, 18, 19, 20, 21, 22, 23, 24, 25, 26, 27, 28, 29, 30, 31, 32, 33, 34, 35, 36, 223, 224, 225, 226, 227, 228, 229, 230, 231, 202, 203, 204, 205, 206, 207, 208, 209, 210, 211] (by decide +kernel) (by decide +kernel)) (goodIn_sub (fun _ h => List.mem_cons_of_mem _ (List.mem_append_left _ (List.mem_append_right _ h))) (by decide +kernel))
set_option maxRecDepth 20000 in
theorem gL_asked_X7_alertState : GoodIn wsL_asked (wsV RL 82 RX7 yX7_alertState wsX7_alertState) := goodIn_app (goodIn_of _ (by decide +kernel)) ggL_asked_X7_alertState
set_option maxRecDepth 20000 in
theorem ggL_asked_X7_counted : GoodIn wsL_asked wsX7_counted := goodIn_ca (goodIn_r _ [126, 115, 116, 117, 4, 118, 119, 120, 121, 122, 14, 15, 16, 17, 18, 19, 20, 21, 22, 23, 24, 25, 26, 27, 28, 29, 30, 31, 32, 33, 34, 35, 36, 223, 224, 225, 226, 227, 228, 229, 230, 231, 202, 203, 204, 205, 206, 207, 208, 209, 210, 211] (by decide +kernel) (by decide +kernel)) (goodIn_sub (fun _ h => List.mem_cons_of_mem _ (List.mem_append_left _ (List.mem_append_right _ h))) (by decide +kernel))
set_option maxRecDepth 20000 in
theorem gL_asked_X7_counted : GoodIn wsL_asked (wsV RL 85 RX7 yX7_counted wsX7_counted) := goodIn_app (goodIn_of _ (by decide +kernel)) ggL_asked_X7_counted
set_option maxRecDepth 20000 in
theorem ggL_asked_X7_countedAnew : GoodIn wsL_asked wsX7_countedAnew := goodIn_ca (goodIn_r _ [130, 115, 116, 117, 4, 118, 119, 120, 121, 122, 14, 15, 16, 17, 18, 19, 20, 21, 22, 23, 24, 25, 26, 27, 28, 29, 30, 31, 32, 33, 34, 35, 36, 131, 132, 133, 134, 12, 13, 135, 136, 137, 138, 139, 140, 141, 142, 143, 144, 145, 146, 147, 148, 149, 150, 151, 152, 153, 154, 69, 70, 71, 72, 73, 74, 75, 202, 203, 204, 205, 206, 207, 208, 209, 210, 211, 194, 195, 196, 197, 198, 199, 200, 201, 223, 224, 225, 226, 227, 228, 229, 230, 231, 232, 233, 234, 235, 216, 217, 218] (by decide +kernel) (by decide +kernel)) (goodIn_sub (fun _ h => List.mem_cons_of_mem _ (List.mem_append_left _ (List.mem_append_right _ h))) (by decide +kernel))
set_option maxRecDepth 20000 in
theorem gL_asked_X7_countedAnew : GoodIn wsL_asked (wsV RL 88 RX7 yX7_countedAnew wsX7_countedAnew) := goodIn_app (goodIn_of _ (by decide +kernel)) ggL_asked_X7_countedAnew
set_option maxRecDepth 20000 in
theorem ggL_asked_X7_heldFor : GoodIn wsL_asked wsX7_heldFor := goodIn_ca (goodIn_r _ [158, 115, 116, 117, 4, 118, 119, 120, 121, 122, 14, 15, 16, 17, 18, 19, 20, 21, 22, 23, 24, 25, 26, 27, 28, 29, 30, 31, 32, 33, 34, 35, 36, 223, 224, 225, 226, 227, 228, 229, 230, 231, 202, 203, 204, 205, 206, 207, 208, 209, 210, 211] (by decide +kernel) (by decide +kernel)) (goodIn_sub (fun _ h => List.mem_cons_of_mem _ (List.mem_append_left _ (List.mem_append_right _ h))) (by decide +kernel))
