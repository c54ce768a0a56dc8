theorem dJx4a65c_add_9ea2d_13 : decode cJx4a65c_add_9ea2d 13 = .ok (.getfield 9, 3) := by decide +kernel
theorem dJx4a65c_add_9ea2d_16 : decode cJx4a65c_add_9ea2d 16 = .ok (.aload_n 0, 1) := by decide +kernel
theorem dJx4a65c_add_9ea2d_17 : decode cJx4a65c_add_9ea2d 17 = .ok (.getfield 48, 3) := by decide +kernel
theorem dJx4a65c_add_9ea2d_20 : decode cJx4a65c_add_9ea2d 20 = .ok (.invokevirtual 131, 3) := by decide +kernel
theorem dJx4a65c_add_9ea2d_23 : decode cJx4a65c_add_9ea2d 23 = .ok (.iconst 1, 1) := by decide +kernel
theorem dJx4a65c_add_9ea2d_24 : decode cJx4a65c_add_9ea2d 24 = .ok (.ireturn, 1) := by decide +kernel
set_option maxRecDepth 20000 in
theorem ggJ7_copyOf_1904c_J7_copyOf_6403c : GoodIn wsJ7_copyOf_1904c wsJ7_copyOf_6403c := goodIn_r _ [8, 9, 10, 11, 12, 13, 14, 15, 16, 17, 18] (by decide +kernel) (by decide +kernel)
set_option maxRecDepth 20000 in
theorem gJ7_copyOf_1904c_J7_copyOf_6403c : GoodIn wsJ7_copyOf_1904c (va_wsS RJ7 300 yJ7_copyOf_6403c wsJ7_copyOf_6403c) := goodIn_app (goodIn_of _ (by decide +kernel)) ggJ7_copyOf_1904c_J7_copyOf_6403c
theorem dJ7_copyOf_1904c_0 : decode cJ7_copyOf_1904c 0 = .ok (.aload_n 0, 1) := by decide +kernel
theorem dJ7_copyOf_1904c_1 : decode cJ7_copyOf_1904c 1 = .ok (.iload_n 1, 1) := by decide +kernel
theorem dJ7_copyOf_1904c_2 : decode cJ7_copyOf_1904c 2 = .ok (.aload_n 0, 1) := by decide +kernel
theorem dJ7_copyOf_1904c_3 : decode cJ7_copyOf_1904c 3 = .ok (.invokevirtual 86, 3) := by decide +kernel
theorem dJ7_copyOf_1904c_6 : decode cJ7_copyOf_1904c 6 = .ok (.invokestatic 300, 3) := by decide +kernel
theorem dJ7_copyOf_1904c_9 : decode cJ7_copyOf_1904c 9 = .ok (.areturn, 1) := by decide +kernel
theorem dJ7_copyOf_6403c_0 : decode cJ7_copyOf_6403c 0 = .ok (.aload_n 2, 1) := by decide +kernel
theorem dJ7_copyOf_6403c_1 : decode cJ7_copyOf_6403c 1 = .ok (.ldc 110, 2) := by decide +kernel
theorem dJ7_copyOf_6403c_3 : decode cJ7_copyOf_6403c 3 = .ok (.if_acmp .ne 10, 3) := by decide +kernel
theorem dJ7_copyOf_6403c_6 : decode cJ7_copyOf_6403c 6 = .ok (.iload_n 1, 1) := by decide +kernel
theorem dJ7_copyOf_6403c_7 : decode cJ7_copyOf_6403c 7 = .ok (.anewarray 2, 3) := by decide +kernel
theorem dJ7_copyOf_6403c_10 : decode cJ7_copyOf_6403c 10 = .ok (.goto 14, 3) := by decide +kernel
theorem dJ7_copyOf_6403c_13 : decode cJ7_copyOf_6403c 13 = .ok (.aload_n 2, 1) := by decide +kernel
theorem dJ7_copyOf_6403c_14 : decode cJ7_copyOf_6403c 14 = .ok (.invokevirtual 90, 3) := by decide +kernel
theorem dJ7_copyOf_6403c_17 : decode cJ7_copyOf_6403c 17 = .ok (.iload_n 1, 1) := by decide +kernel
theorem dJ7_copyOf_6403c_18 : decode cJ7_copyOf_6403c 18 = .ok (.invokestatic 95, 3) := by decide +kernel
theorem dJ7_copyOf_6403c_21 : decode cJ7_copyOf_6403c 21 = .ok (.checkcast 110, 3) := by decide +kernel
theorem dJ7_copyOf_6403c_24 : decode cJ7_copyOf_6403c 24 = .ok (.astore_n 3, 1) := by decide +kernel
theorem dJ7_copyOf_6403c_25 : decode cJ7_copyOf_6403c 25 = .ok (.aload_n 0, 1) := by decide +kernel
theorem dJ7_copyOf_6403c_26 : decode cJ7_copyOf_6403c 26 = .ok (.iconst 0, 1) := by decide +kernel
theorem dJ7_copyOf_6403c_27 : decode cJ7_copyOf_6403c 27 = .ok (.aload_n 3, 1) := by decide +kernel
theorem dJ7_copyOf_6403c_28 : decode cJ7_copyOf_6403c 28 = .ok (.iconst 0, 1) := by decide +kernel
theorem dJ7_copyOf_6403c_29 : decode cJ7_copyOf_6403c 29 = .ok (.aload_n 0, 1) := by decide +kernel
theorem dJ7_copyOf_6403c_30 : decode cJ7_copyOf_6403c 30 = .ok (.arraylength, 1) := by decide +kernel
theorem dJ7_copyOf_6403c_31 : decode cJ7_copyOf_6403c 31 = .ok (.iload_n 1, 1) := by decide +kernel
theorem dJ7_copyOf_6403c_32 : decode cJ7_copyOf_6403c 32 = .ok (.invokestatic 304, 3) := by decide +kernel
theorem dJ7_copyOf_6403c_35 : decode cJ7_copyOf_6403c 35 = .ok (.invokestatic 150, 3) := by decide +kernel
theorem dJ7_copyOf_6403c_38 : decode cJ7_copyOf_6403c 38 = .ok (.aload_n 3, 1) := by decide +kernel
theorem dJ7_copyOf_6403c_39 : decode cJ7_copyOf_6403c 39 = .ok (.areturn, 1) := by decide +kernel
set_option maxRecDepth 20000 in
theorem ggJ15_checkIndex_7cf53_J3_checkIndex_8e157 : GoodIn wsJ15_checkIndex_7cf53 wsJ3_checkIndex_8e157 := goodIn_r _ [4] (by decide +kernel) (by decide +kernel)
set_option maxRecDepth 20000 in
theorem gJ15_checkIndex_7cf53_J3_checkIndex_8e157 : GoodIn wsJ15_checkIndex_7cf53 (va_wsS RJ15 105 yJ3_checkIndex_8e157 wsJ3_checkIndex_8e157) := goodIn_app (goodIn_of _ (by decide +kernel)) ggJ15_checkIndex_7cf53_J3_checkIndex_8e157
theorem dJ15_checkIndex_7cf53_0 : decode cJ15_checkIndex_7cf53 0 = .ok (.iload_n 0, 1) := by decide +kernel
theorem dJ15_checkIndex_7cf53_1 : decode cJ15_checkIndex_7cf53 1 = .ok (.iload_n 1, 1) := by decide +kernel
theorem dJ15_checkIndex_7cf53_2 : decode cJ15_checkIndex_7cf53 2 = .ok (.aconst_null, 1) := by decide +kernel
theorem dJ15_checkIndex_7cf53_3 : decode cJ15_checkIndex_7cf53 3 = .ok (.invokestatic 105, 3) := by decide +kernel
theorem dJ15_checkIndex_7cf53_6 : decode cJ15_checkIndex_7cf53 6 = .ok (.ireturn, 1) := by decide +kernel
set_option maxRecDepth 20000 in
theorem ggJ8_newLength_cabcc_J8_hugeLength_7cf53 : GoodIn wsJ8_newLength_cabcc wsJ8_hugeLength_7cf53 := goodIn_r _ [9, 5] (by decide +kernel) (by decide +kernel)
set_option maxRecDepth 20000 in
theorem gJ8_newLength_cabcc_J8_hugeLength_7cf53 : GoodIn wsJ8_newLength_cabcc (va_wsS RJ8 201 yJ8_hugeLength_7cf53 wsJ8_hugeLength_7cf53) := goodIn_app (goodIn_of _ (by decide +kernel)) ggJ8_newLength_cabcc_J8_hugeLength_7cf53
theorem dJ8_newLength_cabcc_0 : decode cJ8_newLength_cabcc 0 = .ok (.iload_n 0, 1) := by decide +kernel
theorem dJ8_newLength_cabcc_1 : decode cJ8_newLength_cabcc 1 = .ok (.iload_n 1, 1) := by decide +kernel
theorem dJ8_newLength_cabcc_2 : decode cJ8_newLength_cabcc 2 = .ok (.iload_n 2, 1) := by decide +kernel
theorem dJ8_newLength_cabcc_3 : decode cJ8_newLength_cabcc 3 = .ok (.invokestatic 194, 3) := by decide +kernel
theorem dJ8_newLength_cabcc_6 : decode cJ8_newLength_cabcc 6 = .ok (.iadd, 1) := by decide +kernel
theorem dJ8_newLength_cabcc_7 : decode cJ8_newLength_cabcc 7 = .ok (.istore_n 3, 1) := by decide +kernel
theorem dJ8_newLength_cabcc_8 : decode cJ8_newLength_cabcc 8 = .ok (.iconst 0, 1) := by decide +kernel
theorem dJ8_newLength_cabcc_9 : decode cJ8_newLength_cabcc 9 = .ok (.iload_n 3, 1) := by decide +kernel
theorem dJ8_newLength_cabcc_10 : decode cJ8_newLength_cabcc 10 = .ok (.if_icmp .ge 11, 3) := by decide +kernel
theorem dJ8_newLength_cabcc_13 : decode cJ8_newLength_cabcc 13 = .ok (.iload_n 3, 1) := by decide +kernel
theorem dJ8_newLength_cabcc_14 : decode cJ8_newLength_cabcc 14 = .ok (.ldc 200, 2) := by decide +kernel
theorem dJ8_newLength_cabcc_16 : decode cJ8_newLength_cabcc 16 = .ok (.if_icmp .gt 5, 3) := by decide +kernel
theorem dJ8_newLength_cabcc_19 : decode cJ8_newLength_cabcc 19 = .ok (.iload_n 3, 1) := by decide +kernel
theorem dJ8_newLength_cabcc_20 : decode cJ8_newLength_cabcc 20 = .ok (.ireturn, 1) := by decide +kernel
theorem dJ8_newLength_cabcc_21 : decode cJ8_newLength_cabcc 21 = .ok (.iload_n 0, 1) := by decide +kernel
theorem dJ8_newLength_cabcc_22 : decode cJ8_newLength_cabcc 22 = .ok (.iload_n 1, 1) := by decide +kernel
theorem dJ8_newLength_cabcc_23 : decode cJ8_newLength_cabcc 23 = .ok (.invokestatic 201, 3) := by decide +kernel
theorem dJ8_newLength_cabcc_26 : decode cJ8_newLength_cabcc 26 = .ok (.ireturn, 1) := by decide +kernel
theorem dJ8_hugeLength_7cf53_0 : decode cJ8_hugeLength_7cf53 0 = .ok (.iload_n 0, 1) := by decide +kernel
theorem dJ8_hugeLength_7cf53_1 : decode cJ8_hugeLength_7cf53 1 = .ok (.iload_n 1, 1) := by decide +kernel
theorem dJ8_hugeLength_7cf53_2 : decode cJ8_hugeLength_7cf53 2 = .ok (.iadd, 1) := by decide +kernel
theorem dJ8_hugeLength_7cf53_3 : decode cJ8_hugeLength_7cf53 3 = .ok (.istore_n 2, 1) := by decide +kernel
theorem dJ8_hugeLength_7cf53_4 : decode cJ8_hugeLength_7cf53 4 = .ok (.iload_n 2, 1) := by decide +kernel
theorem dJ8_hugeLength_7cf53_5 : decode cJ8_hugeLength_7cf53 5 = .ok (.ifCond .ge 44, 3) := by decide +kernel
theorem dJ8_hugeLength_7cf53_8 : decode cJ8_hugeLength_7cf53 8 = .ok (.new 204, 3) := by decide +kernel
theorem dJ8_hugeLength_7cf53_11 : decode cJ8_hugeLength_7cf53 11 = .ok (.dup, 1) := by decide +kernel
theorem dJ8_hugeLength_7cf53_12 : decode cJ8_hugeLength_7cf53 12 = .ok (.new 89, 3) := by decide +kernel
theorem dJ8_hugeLength_7cf53_15 : decode cJ8_hugeLength_7cf53 15 = .ok (.dup, 1) := by decide +kernel
theorem dJ8_hugeLength_7cf53_16 : decode cJ8_hugeLength_7cf53 16 = .ok (.invokespecial 91, 3) := by decide +kernel
theorem dJ8_hugeLength_7cf53_19 : decode cJ8_hugeLength_7cf53 19 = .ok (.ldc 206, 2) := by decide +kernel
theorem dJ8_hugeLength_7cf53_21 : decode cJ8_hugeLength_7cf53 21 = .ok (.invokevirtual 94, 3) := by decide +kernel
theorem dJ8_hugeLength_7cf53_24 : decode cJ8_hugeLength_7cf53 24 = .ok (.iload_n 0, 1) := by decide +kernel
theorem dJ8_hugeLength_7cf53_25 : decode cJ8_hugeLength_7cf53 25 = .ok (.invokevirtual 98, 3) := by decide +kernel
theorem dJ8_hugeLength_7cf53_28 : decode cJ8_hugeLength_7cf53 28 = .ok (.ldc 208, 2) := by decide +kernel
theorem dJ8_hugeLength_7cf53_30 : decode cJ8_hugeLength_7cf53 30 = .ok (.invokevirtual 94, 3) := by decide +kernel
theorem dJ8_hugeLength_7cf53_33 : decode cJ8_hugeLength_7cf53 33 = .ok (.iload_n 1, 1) := by decide +kernel
theorem dJ8_hugeLength_7cf53_34 : decode cJ8_hugeLength_7cf53 34 = .ok (.invokevirtual 98, 3) := by decide +kernel
theorem dJ8_hugeLength_7cf53_37 : decode cJ8_hugeLength_7cf53 37 = .ok (.ldc 210, 2) := by decide +kernel
theorem dJ8_hugeLength_7cf53_39 : decode cJ8_hugeLength_7cf53 39 = .ok (.invokevirtual 94, 3) := by decide +kernel
theorem dJ8_hugeLength_7cf53_42 : decode cJ8_hugeLength_7cf53 42 = .ok (.invokevirtual 101, 3) := by decide +kernel
theorem dJ8_hugeLength_7cf53_45 : decode cJ8_hugeLength_7cf53 45 = .ok (.invokespecial 212, 3) := by decide +kernel
theorem dJ8_hugeLength_7cf53_48 : decode cJ8_hugeLength_7cf53 48 = .ok (.athrow, 1) := by decide +kernel
theorem dJ8_hugeLength_7cf53_49 : decode cJ8_hugeLength_7cf53 49 = .ok (.iload_n 2, 1) := by decide +kernel
theorem dJ8_hugeLength_7cf53_50 : decode cJ8_hugeLength_7cf53 50 = .ok (.ldc 200, 2) := by decide +kernel
theorem dJ8_hugeLength_7cf53_52 : decode cJ8_hugeLength_7cf53 52 = .ok (.if_icmp .gt 6, 3) := by decide +kernel
theorem dJ8_hugeLength_7cf53_55 : decode cJ8_hugeLength_7cf53 55 = .ok (.ldc 200, 2) := by decide +kernel
theorem dJ8_hugeLength_7cf53_57 : decode cJ8_hugeLength_7cf53 57 = .ok (.ireturn, 1) := by decide +kernel
theorem dJ8_hugeLength_7cf53_58 : decode cJ8_hugeLength_7cf53 58 = .ok (.iload_n 2, 1) := by decide +kernel
theorem dJ8_hugeLength_7cf53_59 : decode cJ8_hugeLength_7cf53 59 = .ok (.ireturn, 1) := by decide +kernel
theorem dJ3_checkIndex_8e157_0 : decode cJ3_checkIndex_8e157 0 = .ok (.iload_n 0, 1) := by decide +kernel
theorem dJ3_checkIndex_8e157_1 : decode cJ3_checkIndex_8e157 1 = .ok (.ifCond .lt 8, 3) := by decide +kernel
theorem dJ3_checkIndex_8e157_4 : decode cJ3_checkIndex_8e157 4 = .ok (.iload_n 0, 1) := by decide +kernel
theorem dJ3_checkIndex_8e157_5 : decode cJ3_checkIndex_8e157 5 = .ok (.iload_n 1, 1) := by decide +kernel
theorem dJ3_checkIndex_8e157_6 : decode cJ3_checkIndex_8e157 6 = .ok (.if_icmp .lt 10, 3) := by decide +kernel
theorem dJ3_checkIndex_8e157_9 : decode cJ3_checkIndex_8e157 9 = .ok (.aload_n 2, 1) := by decide +kernel
theorem dJ3_checkIndex_8e157_10 : decode cJ3_checkIndex_8e157 10 = .ok (.iload_n 0, 1) := by decide +kernel
theorem dJ3_checkIndex_8e157_11 : decode cJ3_checkIndex_8e157 11 = .ok (.iload_n 1, 1) := by decide +kernel
theorem dJ3_checkIndex_8e157_12 : decode cJ3_checkIndex_8e157 12 = .ok (.invokestatic 95, 3) := by decide +kernel
theorem dJ3_checkIndex_8e157_15 : decode cJ3_checkIndex_8e157 15 = .ok (.athrow, 1) := by decide +kernel
theorem dJ3_checkIndex_8e157_16 : decode cJ3_checkIndex_8e157 16 = .ok (.iload_n 0, 1) := by decide +kernel
theorem dJ3_checkIndex_8e157_17 : decode cJ3_checkIndex_8e157 17 = .ok (.ireturn, 1) := by decide +kernel
set_option maxRecDepth 20000 in
theorem ggL_addLine_X7_addLine : GoodIn wsL_addLine wsX7_addLine := goodIn_ca (goodIn_ca (goodIn_ca (goodIn_r _ [7, 8, 9, 10, 11, 12, 13, 14, 15, 16, 17, 18, 19, 20, 21, 6, 22, 23, 24, 25, 26, 27, 28, 29, 30, 31, 32, 33, 34, 35, 36, 37, 38, 39, 40, 41, 42, 43, 44, 45, 46, 47, 48, 49, 50, 51, 52, 53, 54, 55, 56, 57, 58, 59, 60, 61, 62, 63, 64, 65, 66, 67, 68, 69, 70, 71, 72, 73, 74, 75, 76, 77, 78, 79, 80, 81, 82, 83, 84, 85, 86, 87, 88, 89, 90, 91, 92, 93, 94, 95, 96, 97, 98, 99, 100, 101, 102, 103, 104, 105, 106, 107, 108, 109, 110, 111, 112, 113, 114, 115, 116, 117, 118, 119, 120, 121, 122, 123, 124, 125, 126, 127, 128, 129, 130, 131, 132, 133, 134, 135, 136, 137, 138, 139, 140, 141, 142, 143, 144, 145, 146, 147, 148, 149, 150, 151, 152, 153, 154, 155, 156, 157, 158, 159, 160, 161, 162, 163, 164, 165, 166, 167, 168, 169, 170, 171, 172, 173, 174, 175, 176, 177, 178, 179, 180, 181, 182, 183, 184, 185, 186, 187, 188, 189, 190, 191, 192, 193, 194, 195, 196, 197, 198, 199, 200, 201, 202, 203, 204, 205, 206, 207, 208, 209, 210, 211, 212, 213, 214, 215, 216, 217, 218, 219, 220, 221, 222, 223, 224, 225, 226, 227, 228, 229, 230, 231, 232, 233, 234, 235, 236, 237, 238, 239, 240, 241, 242, 243, 244, 245, 246, 247, 248, 249, 250, 251, 252, 253, 254, 255, 256, 257, 258, 259, 260, 261, 262, 263, 264, 265, 266, 267, 268, 269, 270, 271, 272, 273, 274, 275, 276, 277, 278, 279, 280] (by decide +kernel) (by decide +kernel)) (goodIn_sub (fun _ h => List.mem_cons_of_mem _ (List.mem_append_left _ (List.mem_append_right _ h))) (by decide +kernel))) (goodIn_sub (fun _ h => List.mem_cons_of_mem _ (List.mem_append_right _ h)) (by decide +kernel))) (goodIn_sub (fun _ h => List.mem_cons_of_mem _ (List.mem_append_left _ (List.mem_append_left _ (List.mem_append_right _ h)))) (by decide +kernel))
set_option maxRecDepth 20000 in
theorem gL_addLine_X7_addLine : GoodIn wsL_addLine (wsV RL 7 RX7 yX7_addLine wsX7_addLine) := goodIn_app (goodIn_of _ (by decide +kernel)) ggL_addLine_X7_addLine
theorem dL_addLine_0 : decode cL_addLine 0 = .ok (.aload 7, 2) := by decide +kernel
theorem dL_addLine_2 : decode cL_addLine 2 = .ok (.iconst 0, 1) := by decide +kernel
theorem dL_addLine_3 : decode cL_addLine 3 = .ok (.aload_n 0, 1) := by decide +kernel
theorem dL_addLine_4 : decode cL_addLine 4 = .ok (.iload_n 1, 1) := by decide +kernel
theorem dL_addLine_5 : decode cL_addLine 5 = .ok (.iload_n 2, 1) := by decide +kernel
theorem dL_addLine_6 : decode cL_addLine 6 = .ok (.iload_n 3, 1) := by decide +kernel
theorem dL_addLine_7 : decode cL_addLine 7 = .ok (.iload 4, 2) := by decide +kernel
theorem dL_addLine_9 : decode cL_addLine 9 = .ok (.iload 5, 2) := by decide +kernel
theorem dL_addLine_11 : decode cL_addLine 11 = .ok (.iload 6, 2) := by decide +kernel
theorem dL_addLine_13 : decode cL_addLine 13 = .ok (.invokevirtual 7, 3) := by decide +kernel
theorem dL_addLine_16 : decode cL_addLine 16 = .ok (.i2l, 1) := by decide +kernel
theorem dL_addLine_17 : decode cL_addLine 17 = .ok (.lastore, 1) := by decide +kernel
theorem dL_addLine_18 : decode cL_addLine 18 = .ok (.goto 11, 3) := by decide +kernel
theorem dL_addLine_21 : decode cL_addLine 21 = .ok (.astore 8, 2) := by decide +kernel
theorem dL_addLine_23 : decode cL_addLine 23 = .ok (.iconst 1, 1) := by decide +kernel
theorem dL_addLine_24 : decode cL_addLine 24 = .ok (.ireturn, 1) := by decide +kernel
theorem dL_addLine_25 : decode cL_addLine 25 = .ok (.astore 8, 2) := by decide +kernel
theorem dL_addLine_27 : decode cL_addLine 27 = .ok (.iconst 2, 1) := by decide +kernel
theorem dL_addLine_28 : decode cL_addLine 28 = .ok (.ireturn, 1) := by decide +kernel
theorem dL_addLine_29 : decode cL_addLine 29 = .ok (.iconst 0, 1) := by decide +kernel
theorem dL_addLine_30 : decode cL_addLine 30 = .ok (.ireturn, 1) := by decide +kernel
set_option maxRecDepth 20000 in
theorem ggL_stateOf_X7_stateOf : GoodIn wsL_stateOf wsX7_stateOf := goodIn_ca (goodIn_r _ [6, 7, 8, 9, 5, 10, 11, 12, 13, 14, 15, 16, 17, 18, 19, 20, 21, 22, 23, 24, 25, 26, 27, 28, 29, 30, 31, 32, 33, 34, 35, 36, 37, 38, 39, 40, 41, 42, 43, 44, 45, 46, 47, 48, 49, 50, 51, 52, 53, 54, 55] (by decide +kernel) (by decide +kernel)) (goodIn_sub (fun _ h => List.mem_cons_of_mem _ (List.mem_append_right _ h)) (by decide +kernel))
set_option maxRecDepth 20000 in
theorem gL_stateOf_X7_stateOf : GoodIn wsL_stateOf (wsV RL 17 RX7 yX7_stateOf wsX7_stateOf) := goodIn_app (goodIn_of _ (by decide +kernel)) ggL_stateOf_X7_stateOf
theorem dL_stateOf_0 : decode cL_stateOf 0 = .ok (.aload_n 2, 1) := by decide +kernel
theorem dL_stateOf_1 : decode cL_stateOf 1 = .ok (.iconst 0, 1) := by decide +kernel
theorem dL_stateOf_2 : decode cL_stateOf 2 = .ok (.aload_n 0, 1) := by decide +kernel
theorem dL_stateOf_3 : decode cL_stateOf 3 = .ok (.iload_n 1, 1) := by decide +kernel
theorem dL_stateOf_4 : decode cL_stateOf 4 = .ok (.invokevirtual 17, 3) := by decide +kernel
theorem dL_stateOf_7 : decode cL_stateOf 7 = .ok (.i2l, 1) := by decide +kernel
theorem dL_stateOf_8 : decode cL_stateOf 8 = .ok (.lastore, 1) := by decide +kernel
theorem dL_stateOf_9 : decode cL_stateOf 9 = .ok (.goto 6, 3) := by decide +kernel
theorem dL_stateOf_12 : decode cL_stateOf 12 = .ok (.astore_n 3, 1) := by decide +kernel
theorem dL_stateOf_13 : decode cL_stateOf 13 = .ok (.iconst 1, 1) := by decide +kernel
theorem dL_stateOf_14 : decode cL_stateOf 14 = .ok (.ireturn, 1) := by decide +kernel
theorem dL_stateOf_15 : decode cL_stateOf 15 = .ok (.iconst 0, 1) := by decide +kernel
theorem dL_stateOf_16 : decode cL_stateOf 16 = .ok (.ireturn, 1) := by decide +kernel
set_option maxRecDepth 20000 in
theorem ggL_patternOf_X7_patternOf : GoodIn wsL_patternOf wsX7_patternOf := goodIn_ca (goodIn_r _ [6, 7, 8, 9, 5, 10, 11, 12, 13, 14, 15, 16, 17, 18, 19, 20, 21, 22, 23, 24, 25, 26, 27, 28, 29, 30, 31, 32, 33, 34, 35, 36, 37, 38, 39, 40, 41, 42, 43, 44, 45, 46, 47, 48, 49, 50, 51, 52, 53, 54, 55, 56, 57, 58, 59] (by decide +kernel) (by decide +kernel)) (goodIn_sub (fun _ h => List.mem_cons_of_mem _ (List.mem_append_right _ h)) (by decide +kernel))
set_option maxRecDepth 20000 in
theorem gL_patternOf_X7_patternOf : GoodIn wsL_patternOf (wsV RL 23 RX7 yX7_patternOf wsX7_patternOf) := goodIn_app (goodIn_of _ (by decide +kernel)) ggL_patternOf_X7_patternOf
theorem dL_patternOf_0 : decode cL_patternOf 0 = .ok (.aload_n 2, 1) := by decide +kernel
theorem dL_patternOf_1 : decode cL_patternOf 1 = .ok (.iconst 0, 1) := by decide +kernel
theorem dL_patternOf_2 : decode cL_patternOf 2 = .ok (.aload_n 0, 1) := by decide +kernel
theorem dL_patternOf_3 : decode cL_patternOf 3 = .ok (.iload_n 1, 1) := by decide +kernel
theorem dL_patternOf_4 : decode cL_patternOf 4 = .ok (.invokevirtual 23, 3) := by decide +kernel
theorem dL_patternOf_7 : decode cL_patternOf 7 = .ok (.i2l, 1) := by decide +kernel
theorem dL_patternOf_8 : decode cL_patternOf 8 = .ok (.lastore, 1) := by decide +kernel
theorem dL_patternOf_9 : decode cL_patternOf 9 = .ok (.goto 6, 3) := by decide +kernel
theorem dL_patternOf_12 : decode cL_patternOf 12 = .ok (.astore_n 3, 1) := by decide +kernel
theorem dL_patternOf_13 : decode cL_patternOf 13 = .ok (.iconst 1, 1) := by decide +kernel
theorem dL_patternOf_14 : decode cL_patternOf 14 = .ok (.ireturn, 1) := by decide +kernel
theorem dL_patternOf_15 : decode cL_patternOf 15 = .ok (.iconst 0, 1) := by decide +kernel
theorem dL_patternOf_16 : decode cL_patternOf 16 = .ok (.ireturn, 1) := by decide +kernel
set_option maxRecDepth 20000 in
theorem ggL_patterns_X7_patterns : GoodIn wsL_patterns wsX7_patterns := goodIn_ca (goodIn_r _ [6, 7, 8, 9, 10, 5, 11, 12, 13, 14, 15, 16, 17, 18, 19, 20, 21, 22, 23, 24, 25, 26, 27, 28, 29, 30, 31, 32, 33, 34, 35, 36, 37, 38, 39, 40, 41, 42, 43, 44, 45, 46, 47, 48, 49, 50, 51, 52, 53, 54, 55, 56] (by decide +kernel) (by decide +kernel)) (goodIn_sub (fun _ h => List.mem_cons_of_mem _ (List.mem_append_right _ h)) (by decide +kernel))
set_option maxRecDepth 20000 in
theorem gL_patterns_X7_patterns : GoodIn wsL_patterns (wsV RL 27 RX7 yX7_patterns wsX7_patterns) := goodIn_app (goodIn_of _ (by decide +kernel)) ggL_patterns_X7_patterns
theorem dL_patterns_0 : decode cL_patterns 0 = .ok (.aload_n 2, 1) := by decide +kernel
theorem dL_patterns_1 : decode cL_patterns 1 = .ok (.iconst 0, 1) := by decide +kernel
theorem dL_patterns_2 : decode cL_patterns 2 = .ok (.aload_n 0, 1) := by decide +kernel
theorem dL_patterns_3 : decode cL_patterns 3 = .ok (.iload_n 1, 1) := by decide +kernel
theorem dL_patterns_4 : decode cL_patterns 4 = .ok (.invokevirtual 27, 3) := by decide +kernel
theorem dL_patterns_7 : decode cL_patterns 7 = .ok (.i2l, 1) := by decide +kernel
theorem dL_patterns_8 : decode cL_patterns 8 = .ok (.lastore, 1) := by decide +kernel
theorem dL_patterns_9 : decode cL_patterns 9 = .ok (.goto 6, 3) := by decide +kernel
theorem dL_patterns_12 : decode cL_patterns 12 = .ok (.astore_n 3, 1) := by decide +kernel
theorem dL_patterns_13 : decode cL_patterns 13 = .ok (.iconst 1, 1) := by decide +kernel
theorem dL_patterns_14 : decode cL_patterns 14 = .ok (.ireturn, 1) := by decide +kernel
theorem dL_patterns_15 : decode cL_patterns 15 = .ok (.iconst 0, 1) := by decide +kernel
theorem dL_patterns_16 : decode cL_patterns 16 = .ok (.ireturn, 1) := by decide +kernel
set_option maxRecDepth 20000 in
theorem ggL_wordAt_X7_wordAt : GoodIn wsL_wordAt wsX7_wordAt := goodIn_ca (goodIn_ca (goodIn_r _ [7, 8, 9, 10, 6, 11, 12, 13, 14, 15, 16, 17, 18, 19, 20, 21, 22, 23, 24, 25, 26, 27, 28, 29, 30, 31, 32, 33, 34, 35, 36, 37, 38, 39, 40, 41, 42, 43, 44, 45, 46, 47, 48, 49, 50, 51, 52, 53, 54, 55, 56, 57, 58, 59, 60, 61, 62, 63, 64, 65, 66, 67, 68, 69, 70] (by decide +kernel) (by decide +kernel)) (goodIn_sub (fun _ h => List.mem_cons_of_mem _ (List.mem_append_left _ (List.mem_append_right _ h))) (by decide +kernel))) (goodIn_sub (fun _ h => List.mem_cons_of_mem _ (List.mem_append_right _ h)) (by decide +kernel))
set_option maxRecDepth 20000 in
theorem gL_wordAt_X7_wordAt : GoodIn wsL_wordAt (wsV RL 30 RX7 yX7_wordAt wsX7_wordAt) := goodIn_app (goodIn_of _ (by decide +kernel)) ggL_wordAt_X7_wordAt
theorem dL_wordAt_0 : decode cL_wordAt 0 = .ok (.aload_n 3, 1) := by decide +kernel
theorem dL_wordAt_1 : decode cL_wordAt 1 = .ok (.iconst 0, 1) := by decide +kernel
theorem dL_wordAt_2 : decode cL_wordAt 2 = .ok (.aload_n 0, 1) := by decide +kernel
theorem dL_wordAt_3 : decode cL_wordAt 3 = .ok (.iload_n 1, 1) := by decide +kernel
theorem dL_wordAt_4 : decode cL_wordAt 4 = .ok (.iload_n 2, 1) := by decide +kernel
theorem dL_wordAt_5 : decode cL_wordAt 5 = .ok (.invokevirtual 30, 3) := by decide +kernel
theorem dL_wordAt_8 : decode cL_wordAt 8 = .ok (.i2l, 1) := by decide +kernel
theorem dL_wordAt_9 : decode cL_wordAt 9 = .ok (.lastore, 1) := by decide +kernel
theorem dL_wordAt_10 : decode cL_wordAt 10 = .ok (.goto 11, 3) := by decide +kernel
theorem dL_wordAt_13 : decode cL_wordAt 13 = .ok (.astore 4, 2) := by decide +kernel
theorem dL_wordAt_15 : decode cL_wordAt 15 = .ok (.iconst 1, 1) := by decide +kernel
theorem dL_wordAt_16 : decode cL_wordAt 16 = .ok (.ireturn, 1) := by decide +kernel
theorem dL_wordAt_17 : decode cL_wordAt 17 = .ok (.astore 4, 2) := by decide +kernel
theorem dL_wordAt_19 : decode cL_wordAt 19 = .ok (.iconst 2, 1) := by decide +kernel
theorem dL_wordAt_20 : decode cL_wordAt 20 = .ok (.ireturn, 1) := by decide +kernel
theorem dL_wordAt_21 : decode cL_wordAt 21 = .ok (.iconst 0, 1) := by decide +kernel
theorem dL_wordAt_22 : decode cL_wordAt 22 = .ok (.ireturn, 1) := by decide +kernel
set_option maxRecDepth 20000 in
theorem ggL_linesOf_X7_linesOf : GoodIn wsL_linesOf wsX7_linesOf := goodIn_ca (goodIn_r _ [6, 7, 8, 9, 10, 11, 5, 12, 13, 14, 15, 16, 17, 18, 19, 20, 21, 22, 23, 24, 25, 26, 27, 28, 29, 30, 31, 32, 33, 34, 35, 36, 37, 38, 39, 40, 41, 42, 43, 44, 45, 46, 47, 48, 49, 50, 51, 52, 53, 54, 55, 56, 57, 58, 59, 60, 61] (by decide +kernel) (by decide +kernel)) (goodIn_sub (fun _ h => List.mem_cons_of_mem _ (List.mem_append_right _ h)) (by decide +kernel))
set_option maxRecDepth 20000 in
theorem gL_linesOf_X7_linesOf : GoodIn wsL_linesOf (wsV RL 34 RX7 yX7_linesOf wsX7_linesOf) := goodIn_app (goodIn_of _ (by decide +kernel)) ggL_linesOf_X7_linesOf
theorem dL_linesOf_0 : decode cL_linesOf 0 = .ok (.aload_n 2, 1) := by decide +kernel
theorem dL_linesOf_1 : decode cL_linesOf 1 = .ok (.iconst 0, 1) := by decide +kernel
theorem dL_linesOf_2 : decode cL_linesOf 2 = .ok (.aload_n 0, 1) := by decide +kernel
theorem dL_linesOf_3 : decode cL_linesOf 3 = .ok (.iload_n 1, 1) := by decide +kernel
theorem dL_linesOf_4 : decode cL_linesOf 4 = .ok (.invokevirtual 34, 3) := by decide +kernel
theorem dL_linesOf_7 : decode cL_linesOf 7 = .ok (.i2l, 1) := by decide +kernel
theorem dL_linesOf_8 : decode cL_linesOf 8 = .ok (.lastore, 1) := by decide +kernel
theorem dL_linesOf_9 : decode cL_linesOf 9 = .ok (.goto 6, 3) := by decide +kernel
theorem dL_linesOf_12 : decode cL_linesOf 12 = .ok (.astore_n 3, 1) := by decide +kernel
theorem dL_linesOf_13 : decode cL_linesOf 13 = .ok (.iconst 1, 1) := by decide +kernel
theorem dL_linesOf_14 : decode cL_linesOf 14 = .ok (.ireturn, 1) := by decide +kernel
theorem dL_linesOf_15 : decode cL_linesOf 15 = .ok (.iconst 0, 1) := by decide +kernel
theorem dL_linesOf_16 : decode cL_linesOf 16 = .ok (.ireturn, 1) := by decide +kernel
set_option maxRecDepth 20000 in
theorem ggL_values_X7_values : GoodIn wsL_values wsX7_values := goodIn_ca (goodIn_ca (goodIn_r _ [7, 8, 9, 10, 11, 12, 6, 13, 14, 15, 16, 17, 18, 19, 20, 21, 22, 23, 24, 25, 26, 27, 28, 29, 30, 31, 32, 33, 34, 35, 36, 37, 38, 39, 40, 41, 42, 43, 44, 45, 46, 47, 48, 49, 50, 51, 52, 53, 54, 55, 56, 57, 58, 59, 60, 61, 62, 63, 64, 65, 66, 67, 68, 69, 70, 71, 72, 73, 74, 75, 76, 77, 78, 79, 80, 81, 82, 83, 84, 85, 86, 87] (by decide +kernel) (by decide +kernel)) (goodIn_sub (fun _ h => List.mem_cons_of_mem _ (List.mem_append_left _ (List.mem_append_right _ h))) (by decide +kernel))) (goodIn_sub (fun _ h => List.mem_cons_of_mem _ (List.mem_append_right _ h)) (by decide +kernel))
set_option maxRecDepth 20000 in
theorem gL_values_X7_values : GoodIn wsL_values (wsV RL 37 RX7 yX7_values wsX7_values) := goodIn_app (goodIn_of _ (by decide +kernel)) ggL_values_X7_values
theorem dL_values_0 : decode cL_values 0 = .ok (.aload_n 3, 1) := by decide +kernel
theorem dL_values_1 : decode cL_values 1 = .ok (.iconst 0, 1) := by decide +kernel
theorem dL_values_2 : decode cL_values 2 = .ok (.aload_n 0, 1) := by decide +kernel
theorem dL_values_3 : decode cL_values 3 = .ok (.iload_n 1, 1) := by decide +kernel
theorem dL_values_4 : decode cL_values 4 = .ok (.iload_n 2, 1) := by decide +kernel
theorem dL_values_5 : decode cL_values 5 = .ok (.invokevirtual 37, 3) := by decide +kernel
theorem dL_values_8 : decode cL_values 8 = .ok (.i2l, 1) := by decide +kernel
theorem dL_values_9 : decode cL_values 9 = .ok (.lastore, 1) := by decide +kernel
theorem dL_values_10 : decode cL_values 10 = .ok (.goto 11, 3) := by decide +kernel
theorem dL_values_13 : decode cL_values 13 = .ok (.astore 4, 2) := by decide +kernel
theorem dL_values_15 : decode cL_values 15 = .ok (.iconst 1, 1) := by decide +kernel
theorem dL_values_16 : decode cL_values 16 = .ok (.ireturn, 1) := by decide +kernel
theorem dL_values_17 : decode cL_values 17 = .ok (.astore 4, 2) := by decide +kernel
theorem dL_values_19 : decode cL_values 19 = .ok (.iconst 2, 1) := by decide +kernel
theorem dL_values_20 : decode cL_values 20 = .ok (.ireturn, 1) := by decide +kernel
theorem dL_values_21 : decode cL_values 21 = .ok (.iconst 0, 1) := by decide +kernel
theorem dL_values_22 : decode cL_values 22 = .ok (.ireturn, 1) := by decide +kernel
set_option maxRecDepth 20000 in
theorem ggL_setBudget_X7_setBudget : GoodIn wsL_setBudget wsX7_setBudget := goodIn_ca (goodIn_ca (goodIn_r _ [6, 7, 8, 9, 10, 11, 5, 12, 13, 14, 15, 16, 17, 18, 19, 20, 21, 22, 23, 24, 25, 26, 27, 28, 29, 30, 31, 32, 33, 34, 35, 36, 37, 38, 39, 40, 41, 42, 43, 44, 45, 46, 47, 48, 49, 50, 51, 52, 53, 54, 55, 56, 57, 58, 59, 60, 61, 62, 63, 64, 65, 66, 67, 68, 69, 70, 71, 72, 73] (by decide +kernel) (by decide +kernel)) (goodIn_sub (fun _ h => List.mem_cons_of_mem _ (List.mem_append_right _ h)) (by decide +kernel))) (goodIn_sub (fun _ h => List.mem_cons_of_mem _ (List.mem_append_left _ (List.mem_append_right _ h))) (by decide +kernel))
set_option maxRecDepth 20000 in
theorem gL_setBudget_X7_setBudget : GoodIn wsL_setBudget (wsV RL 40 RX7 yX7_setBudget wsX7_setBudget) := goodIn_app (goodIn_of _ (by decide +kernel)) ggL_setBudget_X7_setBudget
theorem dL_setBudget_0 : decode cL_setBudget 0 = .ok (.aload_n 3, 1) := by decide +kernel
theorem dL_setBudget_1 : decode cL_setBudget 1 = .ok (.iconst 0, 1) := by decide +kernel
theorem dL_setBudget_2 : decode cL_setBudget 2 = .ok (.aload_n 0, 1) := by decide +kernel
theorem dL_setBudget_3 : decode cL_setBudget 3 = .ok (.iload_n 1, 1) := by decide +kernel
theorem dL_setBudget_4 : decode cL_setBudget 4 = .ok (.iload_n 2, 1) := by decide +kernel
theorem dL_setBudget_5 : decode cL_setBudget 5 = .ok (.invokevirtual 40, 3) := by decide +kernel
theorem dL_setBudget_8 : decode cL_setBudget 8 = .ok (.i2l, 1) := by decide +kernel
theorem dL_setBudget_9 : decode cL_setBudget 9 = .ok (.lastore, 1) := by decide +kernel
theorem dL_setBudget_10 : decode cL_setBudget 10 = .ok (.goto 7, 3) := by decide +kernel
theorem dL_setBudget_13 : decode cL_setBudget 13 = .ok (.astore 4, 2) := by decide +kernel
theorem dL_setBudget_15 : decode cL_setBudget 15 = .ok (.iconst 1, 1) := by decide +kernel
theorem dL_setBudget_16 : decode cL_setBudget 16 = .ok (.ireturn, 1) := by decide +kernel
theorem dL_setBudget_17 : decode cL_setBudget 17 = .ok (.iconst 0, 1) := by decide +kernel
theorem dL_setBudget_18 : decode cL_setBudget 18 = .ok (.ireturn, 1) := by decide +kernel
set_option maxRecDepth 20000 in
theorem ggL_kept_X7_kept : GoodIn wsL_kept wsX7_kept := goodIn_ca (goodIn_r _ [6, 7, 8, 5, 9, 10, 11, 12, 13, 14, 15, 16, 17, 18, 19, 20, 21, 22, 23, 24, 25, 26, 27, 28, 29, 30, 31, 32, 33, 34, 35, 36, 37, 38, 39, 40, 41, 42, 43, 44, 45, 46, 47, 48, 49, 50, 51, 52, 53, 54, 55, 56, 57, 58, 59, 60, 61, 62, 63, 64] (by decide +kernel) (by decide +kernel)) (goodIn_sub (fun _ h => List.mem_cons_of_mem _ (List.mem_append_right _ h)) (by decide +kernel))
set_option maxRecDepth 20000 in
theorem gL_kept_X7_kept : GoodIn wsL_kept (wsV RL 43 RX7 yX7_kept wsX7_kept) := goodIn_app (goodIn_of _ (by decide +kernel)) ggL_kept_X7_kept
theorem dL_kept_0 : decode cL_kept 0 = .ok (.aload_n 2, 1) := by decide +kernel
theorem dL_kept_1 : decode cL_kept 1 = .ok (.iconst 0, 1) := by decide +kernel
theorem dL_kept_2 : decode cL_kept 2 = .ok (.aload_n 0, 1) := by decide +kernel
theorem dL_kept_3 : decode cL_kept 3 = .ok (.iload_n 1, 1) := by decide +kernel
theorem dL_kept_4 : decode cL_kept 4 = .ok (.invokevirtual 43, 3) := by decide +kernel
theorem dL_kept_7 : decode cL_kept 7 = .ok (.i2l, 1) := by decide +kernel
theorem dL_kept_8 : decode cL_kept 8 = .ok (.lastore, 1) := by decide +kernel
theorem dL_kept_9 : decode cL_kept 9 = .ok (.goto 6, 3) := by decide +kernel
theorem dL_kept_12 : decode cL_kept 12 = .ok (.astore_n 3, 1) := by decide +kernel
theorem dL_kept_13 : decode cL_kept 13 = .ok (.iconst 1, 1) := by decide +kernel
theorem dL_kept_14 : decode cL_kept 14 = .ok (.ireturn, 1) := by decide +kernel
theorem dL_kept_15 : decode cL_kept 15 = .ok (.iconst 0, 1) := by decide +kernel
theorem dL_kept_16 : decode cL_kept 16 = .ok (.ireturn, 1) := by decide +kernel
set_option maxRecDepth 20000 in
theorem ggL_dropped_X7_dropped : GoodIn wsL_dropped wsX7_dropped := goodIn_ca (goodIn_r _ [6, 7, 8, 9, 10, 5, 11, 12, 13, 14, 15, 16, 17, 18, 19, 20, 21, 22, 23, 24, 25, 26, 27, 28, 29, 30, 31, 32, 33, 34, 35, 36, 37, 38, 39, 40, 41, 42, 43, 44, 45, 46, 47, 48, 49, 50, 51, 52, 53, 54, 55, 56, 57, 58, 59, 60] (by decide +kernel) (by decide +kernel)) (goodIn_sub (fun _ h => List.mem_cons_of_mem _ (List.mem_append_right _ h)) (by decide +kernel))
set_option maxRecDepth 20000 in
theorem gL_dropped_X7_dropped : GoodIn wsL_dropped (wsV RL 46 RX7 yX7_dropped wsX7_dropped) := goodIn_app (goodIn_of _ (by decide +kernel)) ggL_dropped_X7_dropped
theorem dL_dropped_0 : decode cL_dropped 0 = .ok (.aload_n 2, 1) := by decide +kernel
theorem dL_dropped_1 : decode cL_dropped 1 = .ok (.iconst 0, 1) := by decide +kernel
theorem dL_dropped_2 : decode cL_dropped 2 = .ok (.aload_n 0, 1) := by decide +kernel
theorem dL_dropped_3 : decode cL_dropped 3 = .ok (.iload_n 1, 1) := by decide +kernel
theorem dL_dropped_4 : decode cL_dropped 4 = .ok (.invokevirtual 46, 3) := by decide +kernel
theorem dL_dropped_7 : decode cL_dropped 7 = .ok (.i2l, 1) := by decide +kernel
theorem dL_dropped_8 : decode cL_dropped 8 = .ok (.lastore, 1) := by decide +kernel
theorem dL_dropped_9 : decode cL_dropped 9 = .ok (.goto 6, 3) := by decide +kernel
theorem dL_dropped_12 : decode cL_dropped 12 = .ok (.astore_n 3, 1) := by decide +kernel
theorem dL_dropped_13 : decode cL_dropped 13 = .ok (.iconst 1, 1) := by decide +kernel
theorem dL_dropped_14 : decode cL_dropped 14 = .ok (.ireturn, 1) := by decide +kernel
theorem dL_dropped_15 : decode cL_dropped 15 = .ok (.iconst 0, 1) := by decide +kernel
theorem dL_dropped_16 : decode cL_dropped 16 = .ok (.ireturn, 1) := by decide +kernel
set_option maxRecDepth 20000 in
theorem ggL_archive_X7_archive : GoodIn wsL_archive wsX7_archive := goodIn_ca (goodIn_ca (goodIn_r _ [7, 8, 9, 10, 11, 12, 6, 13, 14, 15, 16, 17, 18, 19, 20, 21, 22, 23, 24, 25, 26, 27, 28, 29, 30, 31, 32, 33, 34, 35, 36, 37, 38, 39, 40, 41, 42, 43, 44, 45, 46, 47, 48, 49, 50, 51, 52, 53, 54, 55, 56, 57, 58, 59, 60, 61, 62] (by decide +kernel) (by decide +kernel)) (goodIn_sub (fun _ h => List.mem_cons_of_mem _ (List.mem_append_left _ (List.mem_append_right _ h))) (by decide +kernel))) (goodIn_sub (fun _ h => List.mem_cons_of_mem _ (List.mem_append_right _ h)) (by decide +kernel))
set_option maxRecDepth 20000 in
theorem gL_archive_X7_archive : GoodIn wsL_archive (wsV RL 49 RX7 yX7_archive wsX7_archive) := goodIn_app (goodIn_of _ (by decide +kernel)) ggL_archive_X7_archive
theorem dL_archive_0 : decode cL_archive 0 = .ok (.aload_n 2, 1) := by decide +kernel
theorem dL_archive_1 : decode cL_archive 1 = .ok (.iconst 0, 1) := by decide +kernel
theorem dL_archive_2 : decode cL_archive 2 = .ok (.aload_n 0, 1) := by decide +kernel
theorem dL_archive_3 : decode cL_archive 3 = .ok (.iload_n 1, 1) := by decide +kernel
theorem dL_archive_4 : decode cL_archive 4 = .ok (.invokevirtual 49, 3) := by decide +kernel
theorem dL_archive_7 : decode cL_archive 7 = .ok (.i2l, 1) := by decide +kernel
theorem dL_archive_8 : decode cL_archive 8 = .ok (.lastore, 1) := by decide +kernel
theorem dL_archive_9 : decode cL_archive 9 = .ok (.goto 9, 3) := by decide +kernel
theorem dL_archive_12 : decode cL_archive 12 = .ok (.astore_n 3, 1) := by decide +kernel
theorem dL_archive_13 : decode cL_archive 13 = .ok (.iconst 1, 1) := by decide +kernel
theorem dL_archive_14 : decode cL_archive 14 = .ok (.ireturn, 1) := by decide +kernel
theorem dL_archive_15 : decode cL_archive 15 = .ok (.astore_n 3, 1) := by decide +kernel
theorem dL_archive_16 : decode cL_archive 16 = .ok (.iconst 2, 1) := by decide +kernel
theorem dL_archive_17 : decode cL_archive 17 = .ok (.ireturn, 1) := by decide +kernel
theorem dL_archive_18 : decode cL_archive 18 = .ok (.iconst 0, 1) := by decide +kernel
theorem dL_archive_19 : decode cL_archive 19 = .ok (.ireturn, 1) := by decide +kernel
set_option maxRecDepth 20000 in
theorem ggL_request_X7_request : GoodIn wsL_request wsX7_request := goodIn_ca (goodIn_ca (goodIn_r _ [7, 8, 9, 10, 11, 12, 13, 14, 15, 16, 17, 18, 19, 20, 21, 6, 22, 23, 24, 25, 26, 27, 28, 29, 30, 31, 32, 33, 34, 35, 36, 37, 38, 39, 40, 41, 42, 43, 44, 45, 46, 47, 48, 49, 50, 51, 52, 53, 54, 55, 56, 57, 58, 59, 60, 61, 62, 63, 64, 65, 66, 67, 68, 69, 70, 71, 72, 73, 74, 75, 76, 77, 78, 79, 80, 81, 82, 83, 84, 85, 86, 87, 88, 89, 90, 91, 92, 93, 94, 95, 96, 97, 98, 99, 100, 101, 102, 103, 104, 105, 106, 107, 108, 109, 110, 111, 112, 113, 114, 115, 116, 117, 118, 119, 120, 121, 122, 123, 124, 125, 126, 127, 128, 129, 130, 131, 132, 133, 134, 135, 136, 137, 138, 139, 140, 141, 142, 143, 144, 145, 146, 147, 148, 149, 150, 151, 152, 153, 154, 155, 156, 157, 158, 159, 160, 161, 162, 163] (by decide +kernel) (by decide +kernel)) (goodIn_sub (fun _ h => List.mem_cons_of_mem _ (List.mem_append_left _ (List.mem_append_right _ h))) (by decide +kernel))) (goodIn_sub (fun _ h => List.mem_cons_of_mem _ (List.mem_append_right _ h)) (by decide +kernel))
set_option maxRecDepth 20000 in
theorem gL_request_X7_request : GoodIn wsL_request (wsV RL 52 RX7 yX7_request wsX7_request) := goodIn_app (goodIn_of _ (by decide +kernel)) ggL_request_X7_request
theorem dL_request_0 : decode cL_request 0 = .ok (.aload_n 3, 1) := by decide +kernel
theorem dL_request_1 : decode cL_request 1 = .ok (.iconst 0, 1) := by decide +kernel
theorem dL_request_2 : decode cL_request 2 = .ok (.aload_n 0, 1) := by decide +kernel
theorem dL_request_3 : decode cL_request 3 = .ok (.iload_n 1, 1) := by decide +kernel
theorem dL_request_4 : decode cL_request 4 = .ok (.iload_n 2, 1) := by decide +kernel
theorem dL_request_5 : decode cL_request 5 = .ok (.invokevirtual 52, 3) := by decide +kernel
theorem dL_request_8 : decode cL_request 8 = .ok (.i2l, 1) := by decide +kernel
theorem dL_request_9 : decode cL_request 9 = .ok (.lastore, 1) := by decide +kernel
theorem dL_request_10 : decode cL_request 10 = .ok (.goto 11, 3) := by decide +kernel
theorem dL_request_13 : decode cL_request 13 = .ok (.astore 4, 2) := by decide +kernel
theorem dL_request_15 : decode cL_request 15 = .ok (.iconst 1, 1) := by decide +kernel
theorem dL_request_16 : decode cL_request 16 = .ok (.ireturn, 1) := by decide +kernel
theorem dL_request_17 : decode cL_request 17 = .ok (.astore 4, 2) := by decide +kernel
theorem dL_request_19 : decode cL_request 19 = .ok (.iconst 2, 1) := by decide +kernel
theorem dL_request_20 : decode cL_request 20 = .ok (.ireturn, 1) := by decide +kernel
theorem dL_request_21 : decode cL_request 21 = .ok (.iconst 0, 1) := by decide +kernel
theorem dL_request_22 : decode cL_request 22 = .ok (.ireturn, 1) := by decide +kernel
set_option maxRecDepth 20000 in
theorem ggL_answer_X7_answer : GoodIn wsL_answer wsX7_answer := goodIn_ca (goodIn_ca (goodIn_r _ [7, 8, 9, 10, 11, 12, 13, 14, 15, 16, 17, 18, 19, 20, 21, 22, 23, 24, 25, 26, 27, 28, 29, 30, 31, 32, 33, 34, 35, 36, 37, 38, 39, 40, 41, 42, 43, 44, 45, 46, 47, 48, 49, 50] (by decide +kernel) (by decide +kernel)) (goodIn_sub (fun _ h => List.mem_cons_of_mem _ (List.mem_append_left _ (List.mem_append_right _ h))) (by decide +kernel))) (goodIn_sub (fun _ h => List.mem_cons_of_mem _ (List.mem_append_right _ h)) (by decide +kernel))
set_option maxRecDepth 20000 in
theorem gL_answer_X7_answer : GoodIn wsL_answer (wsV RL 55 RX7 yX7_answer wsX7_answer) := goodIn_app (goodIn_of _ (by decide +kernel)) ggL_answer_X7_answer
theorem dL_answer_0 : decode cL_answer 0 = .ok (.aload_n 2, 1) := by decide +kernel
theorem dL_answer_1 : decode cL_answer 1 = .ok (.iconst 0, 1) := by decide +kernel
theorem dL_answer_2 : decode cL_answer 2 = .ok (.aload_n 0, 1) := by decide +kernel
theorem dL_answer_3 : decode cL_answer 3 = .ok (.iload_n 1, 1) := by decide +kernel
theorem dL_answer_4 : decode cL_answer 4 = .ok (.invokevirtual 55, 3) := by decide +kernel
theorem dL_answer_7 : decode cL_answer 7 = .ok (.i2l, 1) := by decide +kernel
theorem dL_answer_8 : decode cL_answer 8 = .ok (.lastore, 1) := by decide +kernel
theorem dL_answer_9 : decode cL_answer 9 = .ok (.goto 9, 3) := by decide +kernel
theorem dL_answer_12 : decode cL_answer 12 = .ok (.astore_n 3, 1) := by decide +kernel
theorem dL_answer_13 : decode cL_answer 13 = .ok (.iconst 1, 1) := by decide +kernel
theorem dL_answer_14 : decode cL_answer 14 = .ok (.ireturn, 1) := by decide +kernel
theorem dL_answer_15 : decode cL_answer 15 = .ok (.astore_n 3, 1) := by decide +kernel
theorem dL_answer_16 : decode cL_answer 16 = .ok (.iconst 2, 1) := by decide +kernel
theorem dL_answer_17 : decode cL_answer 17 = .ok (.ireturn, 1) := by decide +kernel
theorem dL_answer_18 : decode cL_answer 18 = .ok (.iconst 0, 1) := by decide +kernel
theorem dL_answer_19 : decode cL_answer 19 = .ok (.ireturn, 1) := by decide +kernel
set_option maxRecDepth 20000 in
theorem ggL_addAlert_X7_addAlert : GoodIn wsL_addAlert wsX7_addAlert := goodIn_ca (goodIn_ca (goodIn_ca (goodIn_r _ [7, 8, 9, 10, 11, 12, 13, 14, 15, 16, 17, 18, 19, 20, 21, 22, 6, 23, 24, 25, 26, 27, 28, 29, 30, 31, 32, 33, 34, 35, 36, 37, 38, 39, 40, 41, 42, 43, 44, 45, 46, 47, 48, 49, 50, 51, 52, 53, 54, 55, 56, 57, 58, 59, 60, 61, 62, 63, 64, 65, 66, 67, 68, 69, 70, 71, 72, 73, 74, 75, 76, 77, 78, 79, 80, 81, 82, 83, 84, 85, 86, 87, 88, 89, 90, 91, 92, 93, 94, 95, 96, 97, 98, 99, 100, 101, 102, 103, 104, 105, 106, 107, 108, 109, 110, 111, 112, 113, 114, 115, 116, 117, 118, 119, 120, 121, 122, 123, 124, 125, 126, 127, 128, 129, 130, 131, 132, 133, 134, 135, 136, 137, 138, 139, 140, 141, 142, 143, 144, 145, 146, 147, 148, 149, 150, 151, 152, 153, 154, 155, 156, 157, 158, 159, 160, 161, 162, 163, 164, 165, 166, 167, 168, 169, 170, 171, 172, 173, 174, 175, 176, 177, 178, 179, 180, 181, 182, 183, 184, 185, 186, 187, 188, 189, 190, 191, 192, 193, 194, 195, 196, 197, 198, 199, 200, 201, 202, 203, 204, 205, 206, 207, 208, 209, 210, 211, 212, 213, 214, 215] (by decide +kernel) (by decide +kernel)) (goodIn_sub (fun _ h => List.mem_cons_of_mem _ (List.mem_append_left _ (List.mem_append_right _ h))) (by decide +kernel))) (goodIn_sub (fun _ h => List.mem_cons_of_mem _ (List.mem_append_right _ h)) (by decide +kernel))) (goodIn_sub (fun _ h => List.mem_cons_of_mem _ (List.mem_append_left _ (List.mem_append_left _ (List.mem_append_right _ h)))) (by decide +kernel))
set_option maxRecDepth 20000 in
theorem gL_addAlert_X7_addAlert : GoodIn wsL_addAlert (wsV RL 58 RX7 yX7_addAlert wsX7_addAlert) := goodIn_app (goodIn_of _ (by decide +kernel)) ggL_addAlert_X7_addAlert
theorem dL_addAlert_0 : decode cL_addAlert 0 = .ok (.aload 8, 2) := by decide +kernel
theorem dL_addAlert_2 : decode cL_addAlert 2 = .ok (.iconst 0, 1) := by decide +kernel
theorem dL_addAlert_3 : decode cL_addAlert 3 = .ok (.aload_n 0, 1) := by decide +kernel
theorem dL_addAlert_4 : decode cL_addAlert 4 = .ok (.iload_n 1, 1) := by decide +kernel
theorem dL_addAlert_5 : decode cL_addAlert 5 = .ok (.iload_n 2, 1) := by decide +kernel
theorem dL_addAlert_6 : decode cL_addAlert 6 = .ok (.iload_n 3, 1) := by decide +kernel
theorem dL_addAlert_7 : decode cL_addAlert 7 = .ok (.iload 4, 2) := by decide +kernel
theorem dL_addAlert_9 : decode cL_addAlert 9 = .ok (.iload 5, 2) := by decide +kernel
theorem dL_addAlert_11 : decode cL_addAlert 11 = .ok (.iload 6, 2) := by decide +kernel
theorem dL_addAlert_13 : decode cL_addAlert 13 = .ok (.iload 7, 2) := by decide +kernel
theorem dL_addAlert_15 : decode cL_addAlert 15 = .ok (.invokevirtual 58, 3) := by decide +kernel
theorem dL_addAlert_18 : decode cL_addAlert 18 = .ok (.i2l, 1) := by decide +kernel
theorem dL_addAlert_19 : decode cL_addAlert 19 = .ok (.lastore, 1) := by decide +kernel
theorem dL_addAlert_20 : decode cL_addAlert 20 = .ok (.goto 11, 3) := by decide +kernel
theorem dL_addAlert_23 : decode cL_addAlert 23 = .ok (.astore 9, 2) := by decide +kernel
theorem dL_addAlert_25 : decode cL_addAlert 25 = .ok (.iconst 1, 1) := by decide +kernel
theorem dL_addAlert_26 : decode cL_addAlert 26 = .ok (.ireturn, 1) := by decide +kernel
theorem dL_addAlert_27 : decode cL_addAlert 27 = .ok (.astore 9, 2) := by decide +kernel
theorem dL_addAlert_29 : decode cL_addAlert 29 = .ok (.iconst 2, 1) := by decide +kernel
theorem dL_addAlert_30 : decode cL_addAlert 30 = .ok (.ireturn, 1) := by decide +kernel
theorem dL_addAlert_31 : decode cL_addAlert 31 = .ok (.iconst 0, 1) := by decide +kernel
theorem dL_addAlert_32 : decode cL_addAlert 32 = .ok (.ireturn, 1) := by decide +kernel
set_option maxRecDepth 20000 in
theorem ggL_alertState_X7_alertState : GoodIn wsL_alertState wsX7_alertState := goodIn_ca (goodIn_r _ [6, 7, 8, 9, 5, 10, 11, 12, 13, 14, 15, 16, 17, 18, 19, 20, 21, 22, 23, 24, 25, 26, 27, 28, 29, 30, 31, 32, 33, 34, 35, 36, 37, 38, 39, 40, 41, 42, 43, 44, 45, 46, 47, 48, 49, 50, 51, 52, 53, 54, 55, 56] (by decide +kernel) (by decide +kernel)) (goodIn_sub (fun _ h => List.mem_cons_of_mem _ (List.mem_append_right _ h)) (by decide +kernel))
set_option maxRecDepth 20000 in
theorem gL_alertState_X7_alertState : GoodIn wsL_alertState (wsV RL 62 RX7 yX7_alertState wsX7_alertState) := goodIn_app (goodIn_of _ (by decide +kernel)) ggL_alertState_X7_alertState
theorem dL_alertState_0 : decode cL_alertState 0 = .ok (.aload_n 2, 1) := by decide +kernel
theorem dL_alertState_1 : decode cL_alertState 1 = .ok (.iconst 0, 1) := by decide +kernel
theorem dL_alertState_2 : decode cL_alertState 2 = .ok (.aload_n 0, 1) := by decide +kernel
theorem dL_alertState_3 : decode cL_alertState 3 = .ok (.iload_n 1, 1) := by decide +kernel
theorem dL_alertState_4 : decode cL_alertState 4 = .ok (.invokevirtual 62, 3) := by decide +kernel
theorem dL_alertState_7 : decode cL_alertState 7 = .ok (.i2l, 1) := by decide +kernel
theorem dL_alertState_8 : decode cL_alertState 8 = .ok (.lastore, 1) := by decide +kernel
theorem dL_alertState_9 : decode cL_alertState 9 = .ok (.goto 6, 3) := by decide +kernel
theorem dL_alertState_12 : decode cL_alertState 12 = .ok (.astore_n 3, 1) := by decide +kernel
theorem dL_alertState_13 : decode cL_alertState 13 = .ok (.iconst 1, 1) := by decide +kernel
theorem dL_alertState_14 : decode cL_alertState 14 = .ok (.ireturn, 1) := by decide +kernel
theorem dL_alertState_15 : decode cL_alertState 15 = .ok (.iconst 0, 1) := by decide +kernel
theorem dL_alertState_16 : decode cL_alertState 16 = .ok (.ireturn, 1) := by decide +kernel
set_option maxRecDepth 20000 in
theorem ggL_counted_X7_counted : GoodIn wsL_counted wsX7_counted := goodIn_ca (goodIn_r _ [6, 7, 8, 9, 5, 10, 11, 12, 13, 14, 15, 16, 17, 18, 19, 20, 21, 22, 23, 24, 25, 26, 27, 28, 29, 30, 31, 32, 33, 34, 35, 36, 37, 38, 39, 40, 41, 42, 43, 44, 45, 46, 47, 48, 49, 50, 51, 52, 53, 54, 55, 56] (by decide +kernel) (by decide +kernel)) (goodIn_sub (fun _ h => List.mem_cons_of_mem _ (List.mem_append_right _ h)) (by decide +kernel))
set_option maxRecDepth 20000 in
theorem gL_counted_X7_counted : GoodIn wsL_counted (wsV RL 67 RX7 yX7_counted wsX7_counted) := goodIn_app (goodIn_of _ (by decide +kernel)) ggL_counted_X7_counted
theorem dL_counted_0 : decode cL_counted 0 = .ok (.aload_n 2, 1) := by decide +kernel
theorem dL_counted_1 : decode cL_counted 1 = .ok (.iconst 0, 1) := by decide +kernel
theorem dL_counted_2 : decode cL_counted 2 = .ok (.aload_n 0, 1) := by decide +kernel
theorem dL_counted_3 : decode cL_counted 3 = .ok (.iload_n 1, 1) := by decide +kernel
theorem dL_counted_4 : decode cL_counted 4 = .ok (.invokevirtual 67, 3) := by decide +kernel
theorem dL_counted_7 : decode cL_counted 7 = .ok (.i2l, 1) := by decide +kernel
theorem dL_counted_8 : decode cL_counted 8 = .ok (.lastore, 1) := by decide +kernel
theorem dL_counted_9 : decode cL_counted 9 = .ok (.goto 6, 3) := by decide +kernel
theorem dL_counted_12 : decode cL_counted 12 = .ok (.astore_n 3, 1) := by decide +kernel
theorem dL_counted_13 : decode cL_counted 13 = .ok (.iconst 1, 1) := by decide +kernel
theorem dL_counted_14 : decode cL_counted 14 = .ok (.ireturn, 1) := by decide +kernel
theorem dL_counted_15 : decode cL_counted 15 = .ok (.iconst 0, 1) := by decide +kernel
theorem dL_counted_16 : decode cL_counted 16 = .ok (.ireturn, 1) := by decide +kernel
set_option maxRecDepth 20000 in
theorem ggL_countedAnew_X7_countedAnew : GoodIn wsL_countedAnew wsX7_countedAnew := goodIn_ca (goodIn_r _ [6, 7, 8, 9, 5, 10, 11, 12, 13, 14, 15, 16, 17, 18, 19, 20, 21, 22, 23, 24, 25, 26, 27, 28, 29, 30, 31, 32, 33, 34, 35, 36, 37, 38, 39, 40, 41, 42, 43, 44, 45, 46, 47, 48, 49, 50, 51, 52, 53, 54, 55, 56, 57, 58, 59, 60, 61, 62, 63, 64, 65, 66, 67, 68, 69, 70, 71, 72, 73, 74, 75, 76, 77, 78, 79, 80, 81, 82, 83, 84, 85, 86, 87, 88, 89, 90, 91, 92, 93, 94, 95, 96, 97, 98, 99, 100, 101, 102, 103, 104] (by decide +kernel) (by decide +kernel)) (goodIn_sub (fun _ h => List.mem_cons_of_mem _ (List.mem_append_right _ h)) (by decide +kernel))
set_option maxRecDepth 20000 in
theorem gL_countedAnew_X7_countedAnew : GoodIn wsL_countedAnew (wsV RL 70 RX7 yX7_countedAnew wsX7_countedAnew) := goodIn_app (goodIn_of _ (by decide +kernel)) ggL_countedAnew_X7_countedAnew
theorem dL_countedAnew_0 : decode cL_countedAnew 0 = .ok (.aload_n 2, 1) := by decide +kernel
theorem dL_countedAnew_1 : decode cL_countedAnew 1 = .ok (.iconst 0, 1) := by decide +kernel
theorem dL_countedAnew_2 : decode cL_countedAnew 2 = .ok (.aload_n 0, 1) := by decide +kernel
theorem dL_countedAnew_3 : decode cL_countedAnew 3 = .ok (.iload_n 1, 1) := by decide +kernel
theorem dL_countedAnew_4 : decode cL_countedAnew 4 = .ok (.invokevirtual 70, 3) := by decide +kernel
theorem dL_countedAnew_7 : decode cL_countedAnew 7 = .ok (.i2l, 1) := by decide +kernel
theorem dL_countedAnew_8 : decode cL_countedAnew 8 = .ok (.lastore, 1) := by decide +kernel
theorem dL_countedAnew_9 : decode cL_countedAnew 9 = .ok (.goto 6, 3) := by decide +kernel
theorem dL_countedAnew_12 : decode cL_countedAnew 12 = .ok (.astore_n 3, 1) := by decide +kernel
theorem dL_countedAnew_13 : decode cL_countedAnew 13 = .ok (.iconst 1, 1) := by decide +kernel
theorem dL_countedAnew_14 : decode cL_countedAnew 14 = .ok (.ireturn, 1) := by decide +kernel
theorem dL_countedAnew_15 : decode cL_countedAnew 15 = .ok (.iconst 0, 1) := by decide +kernel
theorem dL_countedAnew_16 : decode cL_countedAnew 16 = .ok (.ireturn, 1) := by decide +kernel
set_option maxRecDepth 20000 in
theorem ggL_heldFor_X7_heldFor : GoodIn wsL_heldFor wsX7_heldFor := goodIn_ca (goodIn_r _ [6, 7, 8, 9, 5, 10, 11, 12, 13, 14, 15, 16, 17, 18, 19, 20, 21, 22, 23, 24, 25, 26, 27, 28, 29, 30, 31, 32, 33, 34, 35, 36, 37, 38, 39, 40, 41, 42, 43, 44, 45, 46, 47, 48, 49, 50, 51, 52, 53, 54, 55, 56] (by decide +kernel) (by decide +kernel)) (goodIn_sub (fun _ h => List.mem_cons_of_mem _ (List.mem_append_right _ h)) (by decide +kernel))
set_option maxRecDepth 20000 in
theorem gL_heldFor_X7_heldFor : GoodIn wsL_heldFor (wsV RL 73 RX7 yX7_heldFor wsX7_heldFor) := goodIn_app (goodIn_of _ (by decide +kernel)) ggL_heldFor_X7_heldFor
theorem dL_heldFor_0 : decode cL_heldFor 0 = .ok (.aload_n 2, 1) := by decide +kernel
theorem dL_heldFor_1 : decode cL_heldFor 1 = .ok (.iconst 0, 1) := by decide +kernel
theorem dL_heldFor_2 : decode cL_heldFor 2 = .ok (.aload_n 0, 1) := by decide +kernel
theorem dL_heldFor_3 : decode cL_heldFor 3 = .ok (.iload_n 1, 1) := by decide +kernel
theorem dL_heldFor_4 : decode cL_heldFor 4 = .ok (.invokevirtual 73, 3) := by decide +kernel
theorem dL_heldFor_7 : decode cL_heldFor 7 = .ok (.i2l, 1) := by decide +kernel
theorem dL_heldFor_8 : decode cL_heldFor 8 = .ok (.lastore, 1) := by decide +kernel
theorem dL_heldFor_9 : decode cL_heldFor 9 = .ok (.goto 6, 3) := by decide +kernel
theorem dL_heldFor_12 : decode cL_heldFor 12 = .ok (.astore_n 3, 1) := by decide +kernel
theorem dL_heldFor_13 : decode cL_heldFor 13 = .ok (.iconst 1, 1) := by decide +kernel
theorem dL_heldFor_14 : decode cL_heldFor 14 = .ok (.ireturn, 1) := by decide +kernel
theorem dL_heldFor_15 : decode cL_heldFor 15 = .ok (.iconst 0, 1) := by decide +kernel
theorem dL_heldFor_16 : decode cL_heldFor 16 = .ok (.ireturn, 1) := by decide +kernel
set_option maxRecDepth 20000 in
theorem ggL_alertOf_X7_alertOf : GoodIn wsL_alertOf wsX7_alertOf := goodIn_ca (goodIn_r _ [6, 7, 8, 9, 5, 10, 11, 12, 13, 14, 15, 16, 17, 18, 19, 20, 21, 22, 23, 24, 25, 26, 27, 28, 29, 30, 31, 32, 33, 34, 35, 36, 37, 38, 39, 40, 41, 42, 43, 44, 45, 46, 47, 48, 49, 50, 51, 52, 53, 54, 55, 56, 57, 58, 59, 60, 61] (by decide +kernel) (by decide +kernel)) (goodIn_sub (fun _ h => List.mem_cons_of_mem _ (List.mem_append_right _ h)) (by decide +kernel))
set_option maxRecDepth 20000 in
theorem gL_alertOf_X7_alertOf : GoodIn wsL_alertOf (wsV RL 76 RX7 yX7_alertOf wsX7_alertOf) := goodIn_app (goodIn_of _ (by decide +kernel)) ggL_alertOf_X7_alertOf
theorem dL_alertOf_0 : decode cL_alertOf 0 = .ok (.aload_n 2, 1) := by decide +kernel
theorem dL_alertOf_1 : decode cL_alertOf 1 = .ok (.iconst 0, 1) := by decide +kernel
theorem dL_alertOf_2 : decode cL_alertOf 2 = .ok (.aload_n 0, 1) := by decide +kernel
theorem dL_alertOf_3 : decode cL_alertOf 3 = .ok (.iload_n 1, 1) := by decide +kernel
theorem dL_alertOf_4 : decode cL_alertOf 4 = .ok (.invokevirtual 76, 3) := by decide +kernel
theorem dL_alertOf_7 : decode cL_alertOf 7 = .ok (.i2l, 1) := by decide +kernel
theorem dL_alertOf_8 : decode cL_alertOf 8 = .ok (.lastore, 1) := by decide +kernel
theorem dL_alertOf_9 : decode cL_alertOf 9 = .ok (.goto 6, 3) := by decide +kernel
theorem dL_alertOf_12 : decode cL_alertOf 12 = .ok (.astore_n 3, 1) := by decide +kernel
theorem dL_alertOf_13 : decode cL_alertOf 13 = .ok (.iconst 1, 1) := by decide +kernel
theorem dL_alertOf_14 : decode cL_alertOf 14 = .ok (.ireturn, 1) := by decide +kernel
theorem dL_alertOf_15 : decode cL_alertOf 15 = .ok (.iconst 0, 1) := by decide +kernel
theorem dL_alertOf_16 : decode cL_alertOf 16 = .ok (.ireturn, 1) := by decide +kernel
set_option maxRecDepth 20000 in
theorem ggL_firedAt_X7_firedAt : GoodIn wsL_firedAt wsX7_firedAt := goodIn_ca (goodIn_r _ [6, 7, 8, 9, 5, 10, 11, 12, 13, 14, 15, 16, 17, 18, 19, 20, 21, 22, 23, 24, 25, 26, 27, 28, 29, 30, 31, 32, 33, 34, 35, 36, 37, 38, 39, 40, 41, 42, 43, 44, 45, 46, 47, 48, 49, 50, 51, 52] (by decide +kernel) (by decide +kernel)) (goodIn_sub (fun _ h => List.mem_cons_of_mem _ (List.mem_append_right _ h)) (by decide +kernel))
set_option maxRecDepth 20000 in
theorem gL_firedAt_X7_firedAt : GoodIn wsL_firedAt (wsV RL 79 RX7 yX7_firedAt wsX7_firedAt) := goodIn_app (goodIn_of _ (by decide +kernel)) ggL_firedAt_X7_firedAt
theorem dL_firedAt_0 : decode cL_firedAt 0 = .ok (.aload_n 2, 1) := by decide +kernel
theorem dL_firedAt_1 : decode cL_firedAt 1 = .ok (.iconst 0, 1) := by decide +kernel
theorem dL_firedAt_2 : decode cL_firedAt 2 = .ok (.aload_n 0, 1) := by decide +kernel
theorem dL_firedAt_3 : decode cL_firedAt 3 = .ok (.iload_n 1, 1) := by decide +kernel
theorem dL_firedAt_4 : decode cL_firedAt 4 = .ok (.invokevirtual 79, 3) := by decide +kernel
theorem dL_firedAt_7 : decode cL_firedAt 7 = .ok (.i2l, 1) := by decide +kernel
theorem dL_firedAt_8 : decode cL_firedAt 8 = .ok (.lastore, 1) := by decide +kernel
theorem dL_firedAt_9 : decode cL_firedAt 9 = .ok (.goto 6, 3) := by decide +kernel
theorem dL_firedAt_12 : decode cL_firedAt 12 = .ok (.astore_n 3, 1) := by decide +kernel
theorem dL_firedAt_13 : decode cL_firedAt 13 = .ok (.iconst 1, 1) := by decide +kernel
theorem dL_firedAt_14 : decode cL_firedAt 14 = .ok (.ireturn, 1) := by decide +kernel
theorem dL_firedAt_15 : decode cL_firedAt 15 = .ok (.iconst 0, 1) := by decide +kernel
theorem dL_firedAt_16 : decode cL_firedAt 16 = .ok (.ireturn, 1) := by decide +kernel
set_option maxRecDepth 20000 in
theorem ggL_ground_X7_ground : GoodIn wsL_ground wsX7_ground := goodIn_ca (goodIn_r _ [6, 7, 8, 9, 5, 10, 11, 12, 13, 14, 15, 16, 17, 18, 19, 20, 21, 22, 23, 24, 25, 26, 27, 28, 29, 30, 31, 32, 33, 34, 35, 36, 37, 38, 39, 40, 41, 42, 43, 44, 45, 46, 47, 48, 49, 50, 51, 52] (by decide +kernel) (by decide +kernel)) (goodIn_sub (fun _ h => List.mem_cons_of_mem _ (List.mem_append_right _ h)) (by decide +kernel))
set_option maxRecDepth 20000 in
theorem gL_ground_X7_ground : GoodIn wsL_ground (wsV RL 82 RX7 yX7_ground wsX7_ground) := goodIn_app (goodIn_of _ (by decide +kernel)) ggL_ground_X7_ground
theorem dL_ground_0 : decode cL_ground 0 = .ok (.aload_n 2, 1) := by decide +kernel
theorem dL_ground_1 : decode cL_ground 1 = .ok (.iconst 0, 1) := by decide +kernel
theorem dL_ground_2 : decode cL_ground 2 = .ok (.aload_n 0, 1) := by decide +kernel
theorem dL_ground_3 : decode cL_ground 3 = .ok (.iload_n 1, 1) := by decide +kernel
theorem dL_ground_4 : decode cL_ground 4 = .ok (.invokevirtual 82, 3) := by decide +kernel
theorem dL_ground_7 : decode cL_ground 7 = .ok (.i2l, 1) := by decide +kernel
theorem dL_ground_8 : decode cL_ground 8 = .ok (.lastore, 1) := by decide +kernel
theorem dL_ground_9 : decode cL_ground 9 = .ok (.goto 6, 3) := by decide +kernel
theorem dL_ground_12 : decode cL_ground 12 = .ok (.astore_n 3, 1) := by decide +kernel
theorem dL_ground_13 : decode cL_ground 13 = .ok (.iconst 1, 1) := by decide +kernel
theorem dL_ground_14 : decode cL_ground 14 = .ok (.ireturn, 1) := by decide +kernel
theorem dL_ground_15 : decode cL_ground 15 = .ok (.iconst 0, 1) := by decide +kernel
theorem dL_ground_16 : decode cL_ground 16 = .ok (.ireturn, 1) := by decide +kernel
set_option maxRecDepth 20000 in
theorem ggL_standsOn_X7_standsOn : GoodIn wsL_standsOn wsX7_standsOn := goodIn_ca (goodIn_ca (goodIn_r _ [6, 7, 8, 9, 5, 10, 11, 12, 13, 14, 15, 16, 17, 18, 19, 20, 21, 22, 23, 24, 25, 26, 27, 28, 29, 30, 31, 32, 33, 34, 35, 36, 37, 38, 39, 40, 41, 42, 43, 44, 45, 46, 47, 48, 49, 50, 51, 52, 53, 54, 55, 56, 57, 58, 59, 60, 61, 62, 63] (by decide +kernel) (by decide +kernel)) (goodIn_sub (fun _ h => List.mem_cons_of_mem _ (List.mem_append_right _ h)) (by decide +kernel))) (goodIn_sub (fun _ h => List.mem_cons_of_mem _ (List.mem_append_left _ (List.mem_append_right _ h))) (by decide +kernel))
set_option maxRecDepth 20000 in
theorem gL_standsOn_X7_standsOn : GoodIn wsL_standsOn (wsV RL 85 RX7 yX7_standsOn wsX7_standsOn) := goodIn_app (goodIn_of _ (by decide +kernel)) ggL_standsOn_X7_standsOn
theorem dL_standsOn_0 : decode cL_standsOn 0 = .ok (.aload_n 3, 1) := by decide +kernel
theorem dL_standsOn_1 : decode cL_standsOn 1 = .ok (.iconst 0, 1) := by decide +kernel
theorem dL_standsOn_2 : decode cL_standsOn 2 = .ok (.aload_n 0, 1) := by decide +kernel
theorem dL_standsOn_3 : decode cL_standsOn 3 = .ok (.iload_n 1, 1) := by decide +kernel
theorem dL_standsOn_4 : decode cL_standsOn 4 = .ok (.iload_n 2, 1) := by decide +kernel
theorem dL_standsOn_5 : decode cL_standsOn 5 = .ok (.invokevirtual 85, 3) := by decide +kernel
theorem dL_standsOn_8 : decode cL_standsOn 8 = .ok (.ifCond .eq 7, 3) := by decide +kernel
theorem dL_standsOn_11 : decode cL_standsOn 11 = .ok (.lconst 1, 1) := by decide +kernel
theorem dL_standsOn_12 : decode cL_standsOn 12 = .ok (.goto 4, 3) := by decide +kernel
theorem dL_standsOn_15 : decode cL_standsOn 15 = .ok (.lconst 0, 1) := by decide +kernel
theorem dL_standsOn_16 : decode cL_standsOn 16 = .ok (.lastore, 1) := by decide +kernel
theorem dL_standsOn_17 : decode cL_standsOn 17 = .ok (.goto 7, 3) := by decide +kernel
theorem dL_standsOn_20 : decode cL_standsOn 20 = .ok (.astore 4, 2) := by decide +kernel
theorem dL_standsOn_22 : decode cL_standsOn 22 = .ok (.iconst 1, 1) := by decide +kernel
theorem dL_standsOn_23 : decode cL_standsOn 23 = .ok (.ireturn, 1) := by decide +kernel
theorem dL_standsOn_24 : decode cL_standsOn 24 = .ok (.iconst 0, 1) := by decide +kernel
theorem dL_standsOn_25 : decode cL_standsOn 25 = .ok (.ireturn, 1) := by decide +kernel
set_option maxRecDepth 20000 in
theorem ggL_release_X7_release : GoodIn wsL_release wsX7_release := goodIn_ca (goodIn_ca (goodIn_ca (goodIn_ca (goodIn_r _ [8, 9, 10, 11, 12, 13, 14, 15, 7, 16, 17, 18, 19, 20, 21, 22, 23, 24, 25, 26, 27, 28, 29, 30, 31, 32, 33, 34, 35, 36, 37, 38, 39, 40, 41, 42, 43, 44, 45, 46, 47, 48, 49, 50, 51, 52, 53, 54, 55, 56, 57, 58, 59, 60, 61, 62, 63, 64, 65, 66, 67, 68, 69, 70, 71, 72, 73, 74, 75, 76, 77, 78, 79, 80, 81, 82, 83, 84, 85, 86, 87, 88, 89, 90, 91, 92, 93, 94, 95, 96, 97, 98, 99, 100, 101, 102, 103, 104, 105, 106, 107] (by decide +kernel) (by decide +kernel)) (goodIn_sub (fun _ h => List.mem_cons_of_mem _ (List.mem_append_left _ (List.mem_append_left _ (List.mem_append_right _ h)))) (by decide +kernel))) (goodIn_sub (fun _ h => List.mem_cons_of_mem _ (List.mem_append_left _ (List.mem_append_right _ h))) (by decide +kernel))) (goodIn_sub (fun _ h => List.mem_cons_of_mem _ (List.mem_append_right _ h)) (by decide +kernel))) (goodIn_sub (fun _ h => List.mem_cons_of_mem _ (List.mem_append_left _ (List.mem_append_left _ (List.mem_append_left _ (List.mem_append_right _ h))))) (by decide +kernel))
set_option maxRecDepth 20000 in
theorem gL_release_X7_release : GoodIn wsL_release (wsV RL 89 RX7 yX7_release wsX7_release) := goodIn_app (goodIn_of _ (by decide +kernel)) ggL_release_X7_release
theorem dL_release_0 : decode cL_release 0 = .ok (.aload_n 2, 1) := by decide +kernel
theorem dL_release_1 : decode cL_release 1 = .ok (.iconst 0, 1) := by decide +kernel
theorem dL_release_2 : decode cL_release 2 = .ok (.aload_n 0, 1) := by decide +kernel
theorem dL_release_3 : decode cL_release 3 = .ok (.iload_n 1, 1) := by decide +kernel
theorem dL_release_4 : decode cL_release 4 = .ok (.invokevirtual 89, 3) := by decide +kernel
theorem dL_release_7 : decode cL_release 7 = .ok (.i2l, 1) := by decide +kernel
theorem dL_release_8 : decode cL_release 8 = .ok (.lastore, 1) := by decide +kernel
theorem dL_release_9 : decode cL_release 9 = .ok (.goto 12, 3) := by decide +kernel
theorem dL_release_12 : decode cL_release 12 = .ok (.astore_n 3, 1) := by decide +kernel
theorem dL_release_13 : decode cL_release 13 = .ok (.iconst 1, 1) := by decide +kernel
theorem dL_release_14 : decode cL_release 14 = .ok (.ireturn, 1) := by decide +kernel
theorem dL_release_15 : decode cL_release 15 = .ok (.astore_n 3, 1) := by decide +kernel
theorem dL_release_16 : decode cL_release 16 = .ok (.iconst 2, 1) := by decide +kernel
theorem dL_release_17 : decode cL_release 17 = .ok (.ireturn, 1) := by decide +kernel
theorem dL_release_18 : decode cL_release 18 = .ok (.astore_n 3, 1) := by decide +kernel
theorem dL_release_19 : decode cL_release 19 = .ok (.iconst 3, 1) := by decide +kernel
theorem dL_release_20 : decode cL_release 20 = .ok (.ireturn, 1) := by decide +kernel
theorem dL_release_21 : decode cL_release 21 = .ok (.iconst 0, 1) := by decide +kernel
theorem dL_release_22 : decode cL_release 22 = .ok (.ireturn, 1) := by decide +kernel
set_option maxRecDepth 20000 in
theorem ggL_isGuarded_X7_isGuarded : GoodIn wsL_isGuarded wsX7_isGuarded := goodIn_ca (goodIn_r _ [6, 7, 8, 9, 5, 10, 11, 12, 13, 14, 15, 16, 17, 18, 19, 20, 21, 22, 23, 24, 25, 26, 27, 28, 29, 30, 31, 32, 33, 34, 35, 36, 37, 38, 39, 40, 41, 42, 43, 44, 45, 46, 47, 48, 49, 50, 51, 52, 53, 54, 55] (by decide +kernel) (by decide +kernel)) (goodIn_sub (fun _ h => List.mem_cons_of_mem _ (List.mem_append_right _ h)) (by decide +kernel))
set_option maxRecDepth 20000 in
theorem gL_isGuarded_X7_isGuarded : GoodIn wsL_isGuarded (wsV RL 94 RX7 yX7_isGuarded wsX7_isGuarded) := goodIn_app (goodIn_of _ (by decide +kernel)) ggL_isGuarded_X7_isGuarded
theorem dL_isGuarded_0 : decode cL_isGuarded 0 = .ok (.aload_n 2, 1) := by decide +kernel
theorem dL_isGuarded_1 : decode cL_isGuarded 1 = .ok (.iconst 0, 1) := by decide +kernel
theorem dL_isGuarded_2 : decode cL_isGuarded 2 = .ok (.aload_n 0, 1) := by decide +kernel
theorem dL_isGuarded_3 : decode cL_isGuarded 3 = .ok (.iload_n 1, 1) := by decide +kernel
theorem dL_isGuarded_4 : decode cL_isGuarded 4 = .ok (.invokevirtual 94, 3) := by decide +kernel
theorem dL_isGuarded_7 : decode cL_isGuarded 7 = .ok (.ifCond .eq 7, 3) := by decide +kernel
theorem dL_isGuarded_10 : decode cL_isGuarded 10 = .ok (.lconst 1, 1) := by decide +kernel
theorem dL_isGuarded_11 : decode cL_isGuarded 11 = .ok (.goto 4, 3) := by decide +kernel
theorem dL_isGuarded_14 : decode cL_isGuarded 14 = .ok (.lconst 0, 1) := by decide +kernel
theorem dL_isGuarded_15 : decode cL_isGuarded 15 = .ok (.lastore, 1) := by decide +kernel
theorem dL_isGuarded_16 : decode cL_isGuarded 16 = .ok (.goto 6, 3) := by decide +kernel
theorem dL_isGuarded_19 : decode cL_isGuarded 19 = .ok (.astore_n 3, 1) := by decide +kernel
theorem dL_isGuarded_20 : decode cL_isGuarded 20 = .ok (.iconst 1, 1) := by decide +kernel
theorem dL_isGuarded_21 : decode cL_isGuarded 21 = .ok (.ireturn, 1) := by decide +kernel
theorem dL_isGuarded_22 : decode cL_isGuarded 22 = .ok (.iconst 0, 1) := by decide +kernel
theorem dL_isGuarded_23 : decode cL_isGuarded 23 = .ok (.ireturn, 1) := by decide +kernel
set_option maxRecDepth 20000 in
theorem ggL_pass_X7_pass : GoodIn wsL_pass wsX7_pass := goodIn_ca (goodIn_ca (goodIn_ca (goodIn_r _ [7, 8, 9, 10, 11, 12, 13, 14, 6, 15, 16, 17, 18, 19, 20, 21, 22, 23, 24, 25, 26, 27, 28, 29, 30, 31, 32, 33, 34, 35, 36, 37, 38, 39, 40, 41, 42, 43, 44, 45, 46, 47, 48, 49, 50, 51, 52, 53, 54, 55, 56, 57, 58, 59, 60, 61, 62, 63, 64, 65, 66, 67, 68, 69, 70, 71, 72, 73, 74, 75, 76, 77, 78, 79, 80, 81, 82, 83, 84, 85, 86, 87, 88, 89, 90, 91, 92, 93, 94, 95, 96, 97, 98, 99, 100, 101, 102, 103, 104, 105, 106, 107, 108, 109, 110, 111, 112, 113, 114, 115, 116, 117, 118, 119, 120, 121, 122, 123, 124, 125, 126, 127, 128, 129, 130, 131, 132, 133, 134, 135, 136, 137, 138, 139, 140, 141, 142, 143, 144, 145, 146, 147, 148, 149, 150, 151, 152, 153, 154, 155, 156, 157, 158, 159, 160, 161, 162, 163, 164, 165, 166, 167, 168, 169, 170, 171, 172, 173, 174, 175, 176, 177, 178, 179, 180, 181, 182, 183, 184, 185, 186, 187, 188, 189, 190, 191, 192, 193, 194, 195, 196, 197, 198, 199, 200, 201, 202, 203, 204, 205, 206, 207, 208, 209, 210, 211, 212, 213, 214, 215, 216, 217, 218, 219, 220, 221, 222, 223, 224, 225, 226, 227, 228, 229, 230, 231, 232, 233] (by decide +kernel) (by decide +kernel)) (goodIn_sub (fun _ h => List.mem_cons_of_mem _ (List.mem_append_left _ (List.mem_append_right _ h))) (by decide +kernel))) (goodIn_sub (fun _ h => List.mem_cons_of_mem _ (List.mem_append_right _ h)) (by decide +kernel))) (goodIn_sub (fun _ h => List.mem_cons_of_mem _ (List.mem_append_left _ (List.mem_append_left _ (List.mem_append_right _ h)))) (by decide +kernel))
set_option maxRecDepth 20000 in
theorem gL_pass_X7_pass : GoodIn wsL_pass (wsV RL 98 RX7 yX7_pass wsX7_pass) := goodIn_app (goodIn_of _ (by decide +kernel)) ggL_pass_X7_pass
theorem dL_pass_0 : decode cL_pass 0 = .ok (.aload_n 2, 1) := by decide +kernel
theorem dL_pass_1 : decode cL_pass 1 = .ok (.iconst 0, 1) := by decide +kernel
theorem dL_pass_2 : decode cL_pass 2 = .ok (.aload_n 0, 1) := by decide +kernel
theorem dL_pass_3 : decode cL_pass 3 = .ok (.iload_n 1, 1) := by decide +kernel
theorem dL_pass_4 : decode cL_pass 4 = .ok (.invokevirtual 98, 3) := by decide +kernel
theorem dL_pass_7 : decode cL_pass 7 = .ok (.i2l, 1) := by decide +kernel
theorem dL_pass_8 : decode cL_pass 8 = .ok (.lastore, 1) := by decide +kernel
theorem dL_pass_9 : decode cL_pass 9 = .ok (.goto 9, 3) := by decide +kernel
theorem dL_pass_12 : decode cL_pass 12 = .ok (.astore_n 3, 1) := by decide +kernel
theorem dL_pass_13 : decode cL_pass 13 = .ok (.iconst 1, 1) := by decide +kernel
theorem dL_pass_14 : decode cL_pass 14 = .ok (.ireturn, 1) := by decide +kernel
theorem dL_pass_15 : decode cL_pass 15 = .ok (.astore_n 3, 1) := by decide +kernel
theorem dL_pass_16 : decode cL_pass 16 = .ok (.iconst 2, 1) := by decide +kernel
theorem dL_pass_17 : decode cL_pass 17 = .ok (.ireturn, 1) := by decide +kernel
theorem dL_pass_18 : decode cL_pass 18 = .ok (.iconst 0, 1) := by decide +kernel
theorem dL_pass_19 : decode cL_pass 19 = .ok (.ireturn, 1) := by decide +kernel
set_option maxRecDepth 20000 in
theorem ggL_droppedShare_X7_droppedShare : GoodIn wsL_droppedShare wsX7_droppedShare := goodIn_ca (goodIn_r _ [6, 7, 8, 9, 10, 11, 12, 13, 14, 15, 16, 17, 18, 19, 20, 21, 22, 23, 24, 25, 26, 27, 28, 29, 30, 31, 32, 33, 34, 35, 36, 37, 38, 39, 40, 41, 42, 43, 44, 45, 46, 47, 48, 49, 50, 51] (by decide +kernel) (by decide +kernel)) (goodIn_sub (fun _ h => List.mem_cons_of_mem _ (List.mem_append_right _ h)) (by decide +kernel))
set_option maxRecDepth 20000 in
theorem gL_droppedShare_X7_droppedShare : GoodIn wsL_droppedShare (wsV RL 101 RX7 yX7_droppedShare wsX7_droppedShare) := goodIn_app (goodIn_of _ (by decide +kernel)) ggL_droppedShare_X7_droppedShare
theorem dL_droppedShare_0 : decode cL_droppedShare 0 = .ok (.aload_n 1, 1) := by decide +kernel
theorem dL_droppedShare_1 : decode cL_droppedShare 1 = .ok (.iconst 0, 1) := by decide +kernel
theorem dL_droppedShare_2 : decode cL_droppedShare 2 = .ok (.aload_n 0, 1) := by decide +kernel
theorem dL_droppedShare_3 : decode cL_droppedShare 3 = .ok (.invokevirtual 101, 3) := by decide +kernel
theorem dL_droppedShare_6 : decode cL_droppedShare 6 = .ok (.f2d, 1) := by decide +kernel
theorem dL_droppedShare_7 : decode cL_droppedShare 7 = .ok (.dastore, 1) := by decide +kernel
theorem dL_droppedShare_8 : decode cL_droppedShare 8 = .ok (.goto 6, 3) := by decide +kernel
theorem dL_droppedShare_11 : decode cL_droppedShare 11 = .ok (.astore_n 2, 1) := by decide +kernel
theorem dL_droppedShare_12 : decode cL_droppedShare 12 = .ok (.iconst 1, 1) := by decide +kernel
theorem dL_droppedShare_13 : decode cL_droppedShare 13 = .ok (.ireturn, 1) := by decide +kernel
theorem dL_droppedShare_14 : decode cL_droppedShare 14 = .ok (.iconst 0, 1) := by decide +kernel
theorem dL_droppedShare_15 : decode cL_droppedShare 15 = .ok (.ireturn, 1) := by decide +kernel
set_option maxRecDepth 20000 in
theorem ggL_meanRank_X7_meanRank : GoodIn wsL_meanRank wsX7_meanRank := goodIn_ca (goodIn_r _ [6, 7, 8, 9, 10, 11, 12, 13, 14, 15, 16, 17, 18, 19, 20, 21, 22, 23, 24, 25, 26, 27, 28, 29, 30, 31, 32, 33, 34, 35, 36, 37, 38, 39, 40, 41, 42, 43, 44, 45, 46, 47, 48, 49, 50, 51] (by decide +kernel) (by decide +kernel)) (goodIn_sub (fun _ h => List.mem_cons_of_mem _ (List.mem_append_right _ h)) (by decide +kernel))
set_option maxRecDepth 20000 in
theorem gL_meanRank_X7_meanRank : GoodIn wsL_meanRank (wsV RL 107 RX7 yX7_meanRank wsX7_meanRank) := goodIn_app (goodIn_of _ (by decide +kernel)) ggL_meanRank_X7_meanRank
theorem dL_meanRank_0 : decode cL_meanRank 0 = .ok (.aload_n 1, 1) := by decide +kernel
theorem dL_meanRank_1 : decode cL_meanRank 1 = .ok (.iconst 0, 1) := by decide +kernel
theorem dL_meanRank_2 : decode cL_meanRank 2 = .ok (.aload_n 0, 1) := by decide +kernel
theorem dL_meanRank_3 : decode cL_meanRank 3 = .ok (.invokevirtual 107, 3) := by decide +kernel
theorem dL_meanRank_6 : decode cL_meanRank 6 = .ok (.dastore, 1) := by decide +kernel
theorem dL_meanRank_7 : decode cL_meanRank 7 = .ok (.goto 6, 3) := by decide +kernel
theorem dL_meanRank_10 : decode cL_meanRank 10 = .ok (.astore_n 2, 1) := by decide +kernel
theorem dL_meanRank_11 : decode cL_meanRank 11 = .ok (.iconst 1, 1) := by decide +kernel
theorem dL_meanRank_12 : decode cL_meanRank 12 = .ok (.ireturn, 1) := by decide +kernel
theorem dL_meanRank_13 : decode cL_meanRank 13 = .ok (.iconst 0, 1) := by decide +kernel
theorem dL_meanRank_14 : decode cL_meanRank 14 = .ok (.ireturn, 1) := by decide +kernel

