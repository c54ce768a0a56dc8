theorem dX8_init_222 : decode cX8_init 222 = .ok (.sipush 9999, 3) := by decide +kernel
theorem dX8_init_225 : decode cX8_init 225 = .ok (.iastore, 1) := by decide +kernel
theorem dX8_init_226 : decode cX8_init 226 = .ok (.dup, 1) := by decide +kernel
theorem dX8_init_227 : decode cX8_init 227 = .ok (.iconst 2, 1) := by decide +kernel
theorem dX8_init_228 : decode cX8_init 228 = .ok (.sipush 9999, 3) := by decide +kernel
theorem dX8_init_231 : decode cX8_init 231 = .ok (.iastore, 1) := by decide +kernel
theorem dX8_init_232 : decode cX8_init 232 = .ok (.dup, 1) := by decide +kernel
theorem dX8_init_233 : decode cX8_init 233 = .ok (.iconst 3, 1) := by decide +kernel
theorem dX8_init_234 : decode cX8_init 234 = .ok (.sipush 9999, 3) := by decide +kernel
theorem dX8_init_237 : decode cX8_init 237 = .ok (.iastore, 1) := by decide +kernel
theorem dX8_init_238 : decode cX8_init 238 = .ok (.putfield 85, 3) := by decide +kernel
theorem dX8_init_241 : decode cX8_init 241 = .ok (.aload_n 0, 1) := by decide +kernel
theorem dX8_init_242 : decode cX8_init 242 = .ok (.bipush 20, 2) := by decide +kernel
theorem dX8_init_244 : decode cX8_init 244 = .ok (.newarray .int, 2) := by decide +kernel
theorem dX8_init_246 : decode cX8_init 246 = .ok (.putfield 88, 3) := by decide +kernel
theorem dX8_init_249 : decode cX8_init 249 = .ok (.aload_n 0, 1) := by decide +kernel
theorem dX8_init_250 : decode cX8_init 250 = .ok (.bipush 20, 2) := by decide +kernel
theorem dX8_init_252 : decode cX8_init 252 = .ok (.newarray .int, 2) := by decide +kernel
theorem dX8_init_254 : decode cX8_init 254 = .ok (.putfield 91, 3) := by decide +kernel
theorem dX8_init_257 : decode cX8_init 257 = .ok (.aload_n 0, 1) := by decide +kernel
theorem dX8_init_258 : decode cX8_init 258 = .ok (.bipush 20, 2) := by decide +kernel
theorem dX8_init_260 : decode cX8_init 260 = .ok (.newarray .int, 2) := by decide +kernel
theorem dX8_init_262 : decode cX8_init 262 = .ok (.putfield 94, 3) := by decide +kernel
theorem dX8_init_265 : decode cX8_init 265 = .ok (.aload_n 0, 1) := by decide +kernel
theorem dX8_init_266 : decode cX8_init 266 = .ok (.bipush 20, 2) := by decide +kernel
theorem dX8_init_268 : decode cX8_init 268 = .ok (.newarray .int, 2) := by decide +kernel
theorem dX8_init_270 : decode cX8_init 270 = .ok (.putfield 97, 3) := by decide +kernel
theorem dX8_init_273 : decode cX8_init 273 = .ok (.return_, 1) := by decide +kernel
theorem dX8_thrown_0 : decode cX8_thrown 0 = .ok (.aload_n 0, 1) := by decide +kernel
theorem dX8_thrown_1 : decode cX8_thrown 1 = .ok (.getfield 100, 3) := by decide +kernel
theorem dX8_thrown_4 : decode cX8_thrown 4 = .ok (.ireturn, 1) := by decide +kernel
theorem dX8_in_0 : decode cX8_in 0 = .ok (.iload_n 0, 1) := by decide +kernel
theorem dX8_in_1 : decode cX8_in 1 = .ok (.iload_n 1, 1) := by decide +kernel
theorem dX8_in_2 : decode cX8_in 2 = .ok (.if_icmp .lt 12, 3) := by decide +kernel
theorem dX8_in_5 : decode cX8_in 5 = .ok (.iload_n 0, 1) := by decide +kernel
theorem dX8_in_6 : decode cX8_in 6 = .ok (.iload_n 2, 1) := by decide +kernel
theorem dX8_in_7 : decode cX8_in 7 = .ok (.if_icmp .gt 7, 3) := by decide +kernel
theorem dX8_in_10 : decode cX8_in 10 = .ok (.iconst 1, 1) := by decide +kernel
theorem dX8_in_11 : decode cX8_in 11 = .ok (.goto 4, 3) := by decide +kernel
theorem dX8_in_14 : decode cX8_in 14 = .ok (.iconst 0, 1) := by decide +kernel
theorem dX8_in_15 : decode cX8_in 15 = .ok (.ireturn, 1) := by decide +kernel
theorem dX8_fails_0 : decode cX8_fails 0 = .ok (.iload_n 1, 1) := by decide +kernel
theorem dX8_fails_1 : decode cX8_fails 1 = .ok (.ifCond .eq 15, 3) := by decide +kernel
theorem dX8_fails_4 : decode cX8_fails 4 = .ok (.aload_n 0, 1) := by decide +kernel
theorem dX8_fails_5 : decode cX8_fails 5 = .ok (.getfield 100, 3) := by decide +kernel
theorem dX8_fails_8 : decode cX8_fails 8 = .ok (.ifCond .ne 8, 3) := by decide +kernel
theorem dX8_fails_11 : decode cX8_fails 11 = .ok (.aload_n 0, 1) := by decide +kernel
theorem dX8_fails_12 : decode cX8_fails 12 = .ok (.iload_n 2, 1) := by decide +kernel
theorem dX8_fails_13 : decode cX8_fails 13 = .ok (.putfield 100, 3) := by decide +kernel
theorem dX8_fails_16 : decode cX8_fails 16 = .ok (.aload_n 0, 1) := by decide +kernel
theorem dX8_fails_17 : decode cX8_fails 17 = .ok (.getfield 100, 3) := by decide +kernel
theorem dX8_fails_20 : decode cX8_fails 20 = .ok (.ifCond .eq 7, 3) := by decide +kernel
theorem dX8_fails_23 : decode cX8_fails 23 = .ok (.iconst 1, 1) := by decide +kernel
theorem dX8_fails_24 : decode cX8_fails 24 = .ok (.goto 4, 3) := by decide +kernel
theorem dX8_fails_27 : decode cX8_fails 27 = .ok (.iconst 0, 1) := by decide +kernel
theorem dX8_fails_28 : decode cX8_fails 28 = .ok (.ireturn, 1) := by decide +kernel
set_option maxRecDepth 20000 in
theorem ggX8_noLine_X8_in : GoodIn wsX8_noLine wsX8_in := goodIn_r _ [5] (by decide +kernel) (by decide +kernel)
set_option maxRecDepth 20000 in
theorem gX8_noLine_X8_in : GoodIn wsX8_noLine (va_wsS RX8 107 yX8_in wsX8_in) := goodIn_app (goodIn_of _ (by decide +kernel)) ggX8_noLine_X8_in
theorem dX8_noLine_0 : decode cX8_noLine 0 = .ok (.iload_n 1, 1) := by decide +kernel
theorem dX8_noLine_1 : decode cX8_noLine 1 = .ok (.iconst 0, 1) := by decide +kernel
theorem dX8_noLine_2 : decode cX8_noLine 2 = .ok (.aload_n 0, 1) := by decide +kernel
theorem dX8_noLine_3 : decode cX8_noLine 3 = .ok (.getfield 104, 3) := by decide +kernel
theorem dX8_noLine_6 : decode cX8_noLine 6 = .ok (.iconst 1, 1) := by decide +kernel
theorem dX8_noLine_7 : decode cX8_noLine 7 = .ok (.isub, 1) := by decide +kernel
theorem dX8_noLine_8 : decode cX8_noLine 8 = .ok (.invokestatic 107, 3) := by decide +kernel
theorem dX8_noLine_11 : decode cX8_noLine 11 = .ok (.ifCond .ne 7, 3) := by decide +kernel
theorem dX8_noLine_14 : decode cX8_noLine 14 = .ok (.iconst 1, 1) := by decide +kernel
theorem dX8_noLine_15 : decode cX8_noLine 15 = .ok (.goto 4, 3) := by decide +kernel
theorem dX8_noLine_18 : decode cX8_noLine 18 = .ok (.iconst 0, 1) := by decide +kernel
theorem dX8_noLine_19 : decode cX8_noLine 19 = .ok (.ireturn, 1) := by decide +kernel
set_option maxRecDepth 20000 in
theorem ggX8_noPattern_X8_in : GoodIn wsX8_noPattern wsX8_in := goodIn_r _ [6] (by decide +kernel) (by decide +kernel)
set_option maxRecDepth 20000 in
theorem gX8_noPattern_X8_in : GoodIn wsX8_noPattern (va_wsS RX8 107 yX8_in wsX8_in) := goodIn_app (goodIn_of _ (by decide +kernel)) ggX8_noPattern_X8_in
theorem dX8_noPattern_0 : decode cX8_noPattern 0 = .ok (.iload_n 1, 1) := by decide +kernel
theorem dX8_noPattern_1 : decode cX8_noPattern 1 = .ok (.iconst 0, 1) := by decide +kernel
theorem dX8_noPattern_2 : decode cX8_noPattern 2 = .ok (.aload_n 0, 1) := by decide +kernel
theorem dX8_noPattern_3 : decode cX8_noPattern 3 = .ok (.getfield 111, 3) := by decide +kernel
theorem dX8_noPattern_6 : decode cX8_noPattern 6 = .ok (.iconst 1, 1) := by decide +kernel
theorem dX8_noPattern_7 : decode cX8_noPattern 7 = .ok (.isub, 1) := by decide +kernel
theorem dX8_noPattern_8 : decode cX8_noPattern 8 = .ok (.invokestatic 107, 3) := by decide +kernel
theorem dX8_noPattern_11 : decode cX8_noPattern 11 = .ok (.ifCond .eq 12, 3) := by decide +kernel
theorem dX8_noPattern_14 : decode cX8_noPattern 14 = .ok (.aload_n 0, 1) := by decide +kernel
theorem dX8_noPattern_15 : decode cX8_noPattern 15 = .ok (.getfield 38, 3) := by decide +kernel
theorem dX8_noPattern_18 : decode cX8_noPattern 18 = .ok (.iload_n 1, 1) := by decide +kernel
theorem dX8_noPattern_19 : decode cX8_noPattern 19 = .ok (.baload, 1) := by decide +kernel
theorem dX8_noPattern_20 : decode cX8_noPattern 20 = .ok (.ifCond .eq 7, 3) := by decide +kernel
theorem dX8_noPattern_23 : decode cX8_noPattern 23 = .ok (.iconst 1, 1) := by decide +kernel
theorem dX8_noPattern_24 : decode cX8_noPattern 24 = .ok (.goto 4, 3) := by decide +kernel
theorem dX8_noPattern_27 : decode cX8_noPattern 27 = .ok (.iconst 0, 1) := by decide +kernel
theorem dX8_noPattern_28 : decode cX8_noPattern 28 = .ok (.ireturn, 1) := by decide +kernel
set_option maxRecDepth 20000 in
theorem ggX8_noAlert_X8_in : GoodIn wsX8_noAlert wsX8_in := goodIn_r _ [5] (by decide +kernel) (by decide +kernel)
set_option maxRecDepth 20000 in
theorem gX8_noAlert_X8_in : GoodIn wsX8_noAlert (va_wsS RX8 107 yX8_in wsX8_in) := goodIn_app (goodIn_of _ (by decide +kernel)) ggX8_noAlert_X8_in
theorem dX8_noAlert_0 : decode cX8_noAlert 0 = .ok (.iload_n 1, 1) := by decide +kernel
theorem dX8_noAlert_1 : decode cX8_noAlert 1 = .ok (.iconst 0, 1) := by decide +kernel
theorem dX8_noAlert_2 : decode cX8_noAlert 2 = .ok (.aload_n 0, 1) := by decide +kernel
theorem dX8_noAlert_3 : decode cX8_noAlert 3 = .ok (.getfield 114, 3) := by decide +kernel
theorem dX8_noAlert_6 : decode cX8_noAlert 6 = .ok (.iconst 1, 1) := by decide +kernel
theorem dX8_noAlert_7 : decode cX8_noAlert 7 = .ok (.isub, 1) := by decide +kernel
theorem dX8_noAlert_8 : decode cX8_noAlert 8 = .ok (.invokestatic 107, 3) := by decide +kernel
theorem dX8_noAlert_11 : decode cX8_noAlert 11 = .ok (.ifCond .ne 7, 3) := by decide +kernel
theorem dX8_noAlert_14 : decode cX8_noAlert 14 = .ok (.iconst 1, 1) := by decide +kernel
theorem dX8_noAlert_15 : decode cX8_noAlert 15 = .ok (.goto 4, 3) := by decide +kernel
theorem dX8_noAlert_18 : decode cX8_noAlert 18 = .ok (.iconst 0, 1) := by decide +kernel
theorem dX8_noAlert_19 : decode cX8_noAlert 19 = .ok (.ireturn, 1) := by decide +kernel
set_option maxRecDepth 20000 in
theorem ggX8_noFiring_X8_in : GoodIn wsX8_noFiring wsX8_in := goodIn_r _ [5] (by decide +kernel) (by decide +kernel)
set_option maxRecDepth 20000 in
theorem gX8_noFiring_X8_in : GoodIn wsX8_noFiring (va_wsS RX8 107 yX8_in wsX8_in) := goodIn_app (goodIn_of _ (by decide +kernel)) ggX8_noFiring_X8_in
theorem dX8_noFiring_0 : decode cX8_noFiring 0 = .ok (.iload_n 1, 1) := by decide +kernel
theorem dX8_noFiring_1 : decode cX8_noFiring 1 = .ok (.iconst 0, 1) := by decide +kernel
theorem dX8_noFiring_2 : decode cX8_noFiring 2 = .ok (.aload_n 0, 1) := by decide +kernel
theorem dX8_noFiring_3 : decode cX8_noFiring 3 = .ok (.getfield 117, 3) := by decide +kernel
theorem dX8_noFiring_6 : decode cX8_noFiring 6 = .ok (.iconst 1, 1) := by decide +kernel
theorem dX8_noFiring_7 : decode cX8_noFiring 7 = .ok (.isub, 1) := by decide +kernel
theorem dX8_noFiring_8 : decode cX8_noFiring 8 = .ok (.invokestatic 107, 3) := by decide +kernel
theorem dX8_noFiring_11 : decode cX8_noFiring 11 = .ok (.ifCond .ne 7, 3) := by decide +kernel
theorem dX8_noFiring_14 : decode cX8_noFiring 14 = .ok (.iconst 1, 1) := by decide +kernel
theorem dX8_noFiring_15 : decode cX8_noFiring 15 = .ok (.goto 4, 3) := by decide +kernel
theorem dX8_noFiring_18 : decode cX8_noFiring 18 = .ok (.iconst 0, 1) := by decide +kernel
theorem dX8_noFiring_19 : decode cX8_noFiring 19 = .ok (.ireturn, 1) := by decide +kernel
set_option maxRecDepth 20000 in
theorem ggX8_isSource_X8_in : GoodIn wsX8_isSource wsX8_in := goodIn_r _ [4] (by decide +kernel) (by decide +kernel)
set_option maxRecDepth 20000 in
theorem gX8_isSource_X8_in : GoodIn wsX8_isSource (va_wsS RX8 107 yX8_in wsX8_in) := goodIn_app (goodIn_of _ (by decide +kernel)) ggX8_isSource_X8_in
theorem dX8_isSource_0 : decode cX8_isSource 0 = .ok (.iload_n 0, 1) := by decide +kernel
theorem dX8_isSource_1 : decode cX8_isSource 1 = .ok (.iconst 0, 1) := by decide +kernel
theorem dX8_isSource_2 : decode cX8_isSource 2 = .ok (.iconst 3, 1) := by decide +kernel
theorem dX8_isSource_3 : decode cX8_isSource 3 = .ok (.invokestatic 107, 3) := by decide +kernel
theorem dX8_isSource_6 : decode cX8_isSource 6 = .ok (.ireturn, 1) := by decide +kernel
set_option maxRecDepth 20000 in
theorem ggX8_isRank_X8_in : GoodIn wsX8_isRank wsX8_in := goodIn_r _ [4] (by decide +kernel) (by decide +kernel)
set_option maxRecDepth 20000 in
theorem gX8_isRank_X8_in : GoodIn wsX8_isRank (va_wsS RX8 107 yX8_in wsX8_in) := goodIn_app (goodIn_of _ (by decide +kernel)) ggX8_isRank_X8_in
theorem dX8_isRank_0 : decode cX8_isRank 0 = .ok (.iload_n 0, 1) := by decide +kernel
theorem dX8_isRank_1 : decode cX8_isRank 1 = .ok (.iconst 0, 1) := by decide +kernel
theorem dX8_isRank_2 : decode cX8_isRank 2 = .ok (.iconst 4, 1) := by decide +kernel
theorem dX8_isRank_3 : decode cX8_isRank 3 = .ok (.invokestatic 107, 3) := by decide +kernel
theorem dX8_isRank_6 : decode cX8_isRank 6 = .ok (.ireturn, 1) := by decide +kernel
theorem dX8_fits_0 : decode cX8_fits 0 = .ok (.aload_n 0, 1) := by decide +kernel
theorem dX8_fits_1 : decode cX8_fits 1 = .ok (.getfield 32, 3) := by decide +kernel
theorem dX8_fits_4 : decode cX8_fits 4 = .ok (.iload_n 2, 1) := by decide +kernel
theorem dX8_fits_5 : decode cX8_fits 5 = .ok (.iaload, 1) := by decide +kernel
theorem dX8_fits_6 : decode cX8_fits 6 = .ok (.aload_n 0, 1) := by decide +kernel
theorem dX8_fits_7 : decode cX8_fits 7 = .ok (.getfield 7, 3) := by decide +kernel
theorem dX8_fits_10 : decode cX8_fits 10 = .ok (.iload_n 1, 1) := by decide +kernel
theorem dX8_fits_11 : decode cX8_fits 11 = .ok (.iaload, 1) := by decide +kernel
theorem dX8_fits_12 : decode cX8_fits 12 = .ok (.if_icmp .ne 7, 3) := by decide +kernel
theorem dX8_fits_15 : decode cX8_fits 15 = .ok (.iconst 1, 1) := by decide +kernel
theorem dX8_fits_16 : decode cX8_fits 16 = .ok (.goto 4, 3) := by decide +kernel
theorem dX8_fits_19 : decode cX8_fits 19 = .ok (.iconst 0, 1) := by decide +kernel
theorem dX8_fits_20 : decode cX8_fits 20 = .ok (.istore_n 3, 1) := by decide +kernel
theorem dX8_fits_21 : decode cX8_fits 21 = .ok (.iconst 0, 1) := by decide +kernel
theorem dX8_fits_22 : decode cX8_fits 22 = .ok (.istore 4, 2) := by decide +kernel
theorem dX8_fits_24 : decode cX8_fits 24 = .ok (.iload 4, 2) := by decide +kernel
theorem dX8_fits_26 : decode cX8_fits 26 = .ok (.iconst 3, 1) := by decide +kernel
theorem dX8_fits_27 : decode cX8_fits 27 = .ok (.if_icmp .ge 59, 3) := by decide +kernel
theorem dX8_fits_30 : decode cX8_fits 30 = .ok (.iload_n 3, 1) := by decide +kernel
theorem dX8_fits_31 : decode cX8_fits 31 = .ok (.ifCond .eq 47, 3) := by decide +kernel
theorem dX8_fits_34 : decode cX8_fits 34 = .ok (.aload_n 0, 1) := by decide +kernel
theorem dX8_fits_35 : decode cX8_fits 35 = .ok (.getfield 35, 3) := by decide +kernel
theorem dX8_fits_38 : decode cX8_fits 38 = .ok (.iconst 3, 1) := by decide +kernel
theorem dX8_fits_39 : decode cX8_fits 39 = .ok (.iload_n 2, 1) := by decide +kernel
theorem dX8_fits_40 : decode cX8_fits 40 = .ok (.imul, 1) := by decide +kernel
theorem dX8_fits_41 : decode cX8_fits 41 = .ok (.iload 4, 2) := by decide +kernel
theorem dX8_fits_43 : decode cX8_fits 43 = .ok (.iadd, 1) := by decide +kernel
theorem dX8_fits_44 : decode cX8_fits 44 = .ok (.iaload, 1) := by decide +kernel
theorem dX8_fits_45 : decode cX8_fits 45 = .ok (.iconst (-1), 1) := by decide +kernel
theorem dX8_fits_46 : decode cX8_fits 46 = .ok (.if_icmp .eq 28, 3) := by decide +kernel
theorem dX8_fits_49 : decode cX8_fits 49 = .ok (.aload_n 0, 1) := by decide +kernel
theorem dX8_fits_50 : decode cX8_fits 50 = .ok (.getfield 35, 3) := by decide +kernel
theorem dX8_fits_53 : decode cX8_fits 53 = .ok (.iconst 3, 1) := by decide +kernel
theorem dX8_fits_54 : decode cX8_fits 54 = .ok (.iload_n 2, 1) := by decide +kernel
theorem dX8_fits_55 : decode cX8_fits 55 = .ok (.imul, 1) := by decide +kernel
theorem dX8_fits_56 : decode cX8_fits 56 = .ok (.iload 4, 2) := by decide +kernel
theorem dX8_fits_58 : decode cX8_fits 58 = .ok (.iadd, 1) := by decide +kernel
theorem dX8_fits_59 : decode cX8_fits 59 = .ok (.iaload, 1) := by decide +kernel
theorem dX8_fits_60 : decode cX8_fits 60 = .ok (.aload_n 0, 1) := by decide +kernel
theorem dX8_fits_61 : decode cX8_fits 61 = .ok (.getfield 16, 3) := by decide +kernel
theorem dX8_fits_64 : decode cX8_fits 64 = .ok (.iconst 3, 1) := by decide +kernel
theorem dX8_fits_65 : decode cX8_fits 65 = .ok (.iload_n 1, 1) := by decide +kernel
theorem dX8_fits_66 : decode cX8_fits 66 = .ok (.imul, 1) := by decide +kernel
theorem dX8_fits_67 : decode cX8_fits 67 = .ok (.iload 4, 2) := by decide +kernel
theorem dX8_fits_69 : decode cX8_fits 69 = .ok (.iadd, 1) := by decide +kernel
theorem dX8_fits_70 : decode cX8_fits 70 = .ok (.iaload, 1) := by decide +kernel
theorem dX8_fits_71 : decode cX8_fits 71 = .ok (.if_icmp .ne 7, 3) := by decide +kernel
theorem dX8_fits_74 : decode cX8_fits 74 = .ok (.iconst 1, 1) := by decide +kernel
theorem dX8_fits_75 : decode cX8_fits 75 = .ok (.goto 4, 3) := by decide +kernel
theorem dX8_fits_78 : decode cX8_fits 78 = .ok (.iconst 0, 1) := by decide +kernel
theorem dX8_fits_79 : decode cX8_fits 79 = .ok (.istore_n 3, 1) := by decide +kernel
theorem dX8_fits_80 : decode cX8_fits 80 = .ok (.iinc 4 1, 3) := by decide +kernel
theorem dX8_fits_83 : decode cX8_fits 83 = .ok (.goto (-59), 3) := by decide +kernel
theorem dX8_fits_86 : decode cX8_fits 86 = .ok (.iload_n 3, 1) := by decide +kernel
theorem dX8_fits_87 : decode cX8_fits 87 = .ok (.ireturn, 1) := by decide +kernel
theorem dX8_difference_0 : decode cX8_difference 0 = .ok (.iconst 0, 1) := by decide +kernel
theorem dX8_difference_1 : decode cX8_difference 1 = .ok (.istore_n 3, 1) := by decide +kernel
theorem dX8_difference_2 : decode cX8_difference 2 = .ok (.iconst (-1), 1) := by decide +kernel
theorem dX8_difference_3 : decode cX8_difference 3 = .ok (.istore 4, 2) := by decide +kernel
theorem dX8_difference_5 : decode cX8_difference 5 = .ok (.iconst 0, 1) := by decide +kernel
theorem dX8_difference_6 : decode cX8_difference 6 = .ok (.istore 5, 2) := by decide +kernel
theorem dX8_difference_8 : decode cX8_difference 8 = .ok (.iload 5, 2) := by decide +kernel
theorem dX8_difference_10 : decode cX8_difference 10 = .ok (.iconst 3, 1) := by decide +kernel
theorem dX8_difference_11 : decode cX8_difference 11 = .ok (.if_icmp .ge 41, 3) := by decide +kernel
theorem dX8_difference_14 : decode cX8_difference 14 = .ok (.aload_n 0, 1) := by decide +kernel
theorem dX8_difference_15 : decode cX8_difference 15 = .ok (.getfield 35, 3) := by decide +kernel
theorem dX8_difference_18 : decode cX8_difference 18 = .ok (.iconst 3, 1) := by decide +kernel
theorem dX8_difference_19 : decode cX8_difference 19 = .ok (.iload_n 1, 1) := by decide +kernel
theorem dX8_difference_20 : decode cX8_difference 20 = .ok (.imul, 1) := by decide +kernel
theorem dX8_difference_21 : decode cX8_difference 21 = .ok (.iload 5, 2) := by decide +kernel
theorem dX8_difference_23 : decode cX8_difference 23 = .ok (.iadd, 1) := by decide +kernel
theorem dX8_difference_24 : decode cX8_difference 24 = .ok (.iaload, 1) := by decide +kernel
theorem dX8_difference_25 : decode cX8_difference 25 = .ok (.aload_n 0, 1) := by decide +kernel
theorem dX8_difference_26 : decode cX8_difference 26 = .ok (.getfield 35, 3) := by decide +kernel
theorem dX8_difference_29 : decode cX8_difference 29 = .ok (.iconst 3, 1) := by decide +kernel
theorem dX8_difference_30 : decode cX8_difference 30 = .ok (.iload_n 2, 1) := by decide +kernel
theorem dX8_difference_31 : decode cX8_difference 31 = .ok (.imul, 1) := by decide +kernel
theorem dX8_difference_32 : decode cX8_difference 32 = .ok (.iload 5, 2) := by decide +kernel
theorem dX8_difference_34 : decode cX8_difference 34 = .ok (.iadd, 1) := by decide +kernel
theorem dX8_difference_35 : decode cX8_difference 35 = .ok (.iaload, 1) := by decide +kernel
theorem dX8_difference_36 : decode cX8_difference 36 = .ok (.if_icmp .eq 10, 3) := by decide +kernel
theorem dX8_difference_39 : decode cX8_difference 39 = .ok (.iinc 3 1, 3) := by decide +kernel
theorem dX8_difference_42 : decode cX8_difference 42 = .ok (.iload 5, 2) := by decide +kernel
theorem dX8_difference_44 : decode cX8_difference 44 = .ok (.istore 4, 2) := by decide +kernel
theorem dX8_difference_46 : decode cX8_difference 46 = .ok (.iinc 5 1, 3) := by decide +kernel
theorem dX8_difference_49 : decode cX8_difference 49 = .ok (.goto (-41), 3) := by decide +kernel
theorem dX8_difference_52 : decode cX8_difference 52 = .ok (.iload_n 3, 1) := by decide +kernel
theorem dX8_difference_53 : decode cX8_difference 53 = .ok (.iconst 1, 1) := by decide +kernel
theorem dX8_difference_54 : decode cX8_difference 54 = .ok (.if_icmp .ne 8, 3) := by decide +kernel
theorem dX8_difference_57 : decode cX8_difference 57 = .ok (.iload 4, 2) := by decide +kernel
theorem dX8_difference_59 : decode cX8_difference 59 = .ok (.goto 4, 3) := by decide +kernel
theorem dX8_difference_62 : decode cX8_difference 62 = .ok (.iconst (-1), 1) := by decide +kernel
theorem dX8_difference_63 : decode cX8_difference 63 = .ok (.ireturn, 1) := by decide +kernel
set_option maxRecDepth 20000 in
theorem ggX8_merges_X8_difference : GoodIn wsX8_merges wsX8_difference := goodIn_ca (goodIn_r _ [11, 4, 12, 13, 14, 15, 16, 17, 18, 19, 20, 21, 22, 23, 24, 25, 26, 27, 28, 29, 30, 31, 32, 33, 34, 35, 36, 37, 38, 39, 40, 41, 42, 43, 44, 45, 46, 47] (by decide +kernel) (by decide +kernel)) (goodIn_sub (fun _ h => List.mem_cons_of_mem _ (List.mem_append_right _ h)) (by decide +kernel))
set_option maxRecDepth 20000 in
theorem gX8_merges_X8_difference : GoodIn wsX8_merges (wsV RX8 120 RX8 yX8_difference wsX8_difference) := goodIn_app (goodIn_of _ (by decide +kernel)) ggX8_merges_X8_difference
theorem dX8_merges_0 : decode cX8_merges 0 = .ok (.iconst 0, 1) := by decide +kernel
theorem dX8_merges_1 : decode cX8_merges 1 = .ok (.istore_n 2, 1) := by decide +kernel
theorem dX8_merges_2 : decode cX8_merges 2 = .ok (.iload_n 2, 1) := by decide +kernel
theorem dX8_merges_3 : decode cX8_merges 3 = .ok (.aload_n 0, 1) := by decide +kernel
theorem dX8_merges_4 : decode cX8_merges 4 = .ok (.getfield 111, 3) := by decide +kernel
theorem dX8_merges_7 : decode cX8_merges 7 = .ok (.if_icmp .ge 163, 3) := by decide +kernel
theorem dX8_merges_10 : decode cX8_merges 10 = .ok (.iload_n 2, 1) := by decide +kernel
theorem dX8_merges_11 : decode cX8_merges 11 = .ok (.iconst 1, 1) := by decide +kernel
theorem dX8_merges_12 : decode cX8_merges 12 = .ok (.iadd, 1) := by decide +kernel
theorem dX8_merges_13 : decode cX8_merges 13 = .ok (.istore_n 3, 1) := by decide +kernel
theorem dX8_merges_14 : decode cX8_merges 14 = .ok (.iload_n 3, 1) := by decide +kernel
theorem dX8_merges_15 : decode cX8_merges 15 = .ok (.aload_n 0, 1) := by decide +kernel
theorem dX8_merges_16 : decode cX8_merges 16 = .ok (.getfield 111, 3) := by decide +kernel
theorem dX8_merges_19 : decode cX8_merges 19 = .ok (.if_icmp .ge 145, 3) := by decide +kernel
theorem dX8_merges_22 : decode cX8_merges 22 = .ok (.aload_n 0, 1) := by decide +kernel
theorem dX8_merges_23 : decode cX8_merges 23 = .ok (.getfield 32, 3) := by decide +kernel
theorem dX8_merges_26 : decode cX8_merges 26 = .ok (.iload_n 2, 1) := by decide +kernel
theorem dX8_merges_27 : decode cX8_merges 27 = .ok (.iaload, 1) := by decide +kernel
theorem dX8_merges_28 : decode cX8_merges 28 = .ok (.iload_n 1, 1) := by decide +kernel
theorem dX8_merges_29 : decode cX8_merges 29 = .ok (.if_icmp .ne 35, 3) := by decide +kernel
theorem dX8_merges_32 : decode cX8_merges 32 = .ok (.aload_n 0, 1) := by decide +kernel
theorem dX8_merges_33 : decode cX8_merges 33 = .ok (.getfield 32, 3) := by decide +kernel
theorem dX8_merges_36 : decode cX8_merges 36 = .ok (.iload_n 3, 1) := by decide +kernel
theorem dX8_merges_37 : decode cX8_merges 37 = .ok (.iaload, 1) := by decide +kernel
theorem dX8_merges_38 : decode cX8_merges 38 = .ok (.iload_n 1, 1) := by decide +kernel
theorem dX8_merges_39 : decode cX8_merges 39 = .ok (.if_icmp .ne 25, 3) := by decide +kernel
theorem dX8_merges_42 : decode cX8_merges 42 = .ok (.aload_n 0, 1) := by decide +kernel
theorem dX8_merges_43 : decode cX8_merges 43 = .ok (.getfield 38, 3) := by decide +kernel
theorem dX8_merges_46 : decode cX8_merges 46 = .ok (.iload_n 2, 1) := by decide +kernel
theorem dX8_merges_47 : decode cX8_merges 47 = .ok (.baload, 1) := by decide +kernel
theorem dX8_merges_48 : decode cX8_merges 48 = .ok (.ifCond .ne 16, 3) := by decide +kernel
theorem dX8_merges_51 : decode cX8_merges 51 = .ok (.aload_n 0, 1) := by decide +kernel
theorem dX8_merges_52 : decode cX8_merges 52 = .ok (.getfield 38, 3) := by decide +kernel
theorem dX8_merges_55 : decode cX8_merges 55 = .ok (.iload_n 3, 1) := by decide +kernel
theorem dX8_merges_56 : decode cX8_merges 56 = .ok (.baload, 1) := by decide +kernel
theorem dX8_merges_57 : decode cX8_merges 57 = .ok (.ifCond .ne 7, 3) := by decide +kernel
theorem dX8_merges_60 : decode cX8_merges 60 = .ok (.iconst 1, 1) := by decide +kernel
theorem dX8_merges_61 : decode cX8_merges 61 = .ok (.goto 4, 3) := by decide +kernel
theorem dX8_merges_64 : decode cX8_merges 64 = .ok (.iconst 0, 1) := by decide +kernel
theorem dX8_merges_65 : decode cX8_merges 65 = .ok (.istore 4, 2) := by decide +kernel
theorem dX8_merges_67 : decode cX8_merges 67 = .ok (.iload 4, 2) := by decide +kernel
theorem dX8_merges_69 : decode cX8_merges 69 = .ok (.ifCond .eq 12, 3) := by decide +kernel
theorem dX8_merges_72 : decode cX8_merges 72 = .ok (.aload_n 0, 1) := by decide +kernel
theorem dX8_merges_73 : decode cX8_merges 73 = .ok (.iload_n 2, 1) := by decide +kernel
theorem dX8_merges_74 : decode cX8_merges 74 = .ok (.iload_n 3, 1) := by decide +kernel
theorem dX8_merges_75 : decode cX8_merges 75 = .ok (.invokevirtual 120, 3) := by decide +kernel
theorem dX8_merges_78 : decode cX8_merges 78 = .ok (.goto 4, 3) := by decide +kernel
theorem dX8_merges_81 : decode cX8_merges 81 = .ok (.iconst (-1), 1) := by decide +kernel
theorem dX8_merges_82 : decode cX8_merges 82 = .ok (.istore 5, 2) := by decide +kernel
theorem dX8_merges_84 : decode cX8_merges 84 = .ok (.iload 5, 2) := by decide +kernel
theorem dX8_merges_86 : decode cX8_merges 86 = .ok (.iconst (-1), 1) := by decide +kernel
theorem dX8_merges_87 : decode cX8_merges 87 = .ok (.if_icmp .eq 71, 3) := by decide +kernel
theorem dX8_merges_90 : decode cX8_merges 90 = .ok (.aload_n 0, 1) := by decide +kernel
theorem dX8_merges_91 : decode cX8_merges 91 = .ok (.getfield 35, 3) := by decide +kernel
theorem dX8_merges_94 : decode cX8_merges 94 = .ok (.iconst 3, 1) := by decide +kernel
theorem dX8_merges_95 : decode cX8_merges 95 = .ok (.iload_n 2, 1) := by decide +kernel
theorem dX8_merges_96 : decode cX8_merges 96 = .ok (.imul, 1) := by decide +kernel
theorem dX8_merges_97 : decode cX8_merges 97 = .ok (.iload 5, 2) := by decide +kernel
theorem dX8_merges_99 : decode cX8_merges 99 = .ok (.iadd, 1) := by decide +kernel
theorem dX8_merges_100 : decode cX8_merges 100 = .ok (.iconst (-1), 1) := by decide +kernel
theorem dX8_merges_101 : decode cX8_merges 101 = .ok (.iastore, 1) := by decide +kernel
theorem dX8_merges_102 : decode cX8_merges 102 = .ok (.aload_n 0, 1) := by decide +kernel
theorem dX8_merges_103 : decode cX8_merges 103 = .ok (.getfield 38, 3) := by decide +kernel
theorem dX8_merges_106 : decode cX8_merges 106 = .ok (.iload_n 3, 1) := by decide +kernel
theorem dX8_merges_107 : decode cX8_merges 107 = .ok (.iconst 1, 1) := by decide +kernel
theorem dX8_merges_108 : decode cX8_merges 108 = .ok (.bastore, 1) := by decide +kernel
theorem dX8_merges_109 : decode cX8_merges 109 = .ok (.iconst 0, 1) := by decide +kernel
theorem dX8_merges_110 : decode cX8_merges 110 = .ok (.istore 6, 2) := by decide +kernel
theorem dX8_merges_112 : decode cX8_merges 112 = .ok (.iload 6, 2) := by decide +kernel
theorem dX8_merges_114 : decode cX8_merges 114 = .ok (.aload_n 0, 1) := by decide +kernel
theorem dX8_merges_115 : decode cX8_merges 115 = .ok (.getfield 104, 3) := by decide +kernel
theorem dX8_merges_118 : decode cX8_merges 118 = .ok (.if_icmp .ge 38, 3) := by decide +kernel
theorem dX8_merges_121 : decode cX8_merges 121 = .ok (.aload_n 0, 1) := by decide +kernel
theorem dX8_merges_122 : decode cX8_merges 122 = .ok (.getfield 29, 3) := by decide +kernel
theorem dX8_merges_125 : decode cX8_merges 125 = .ok (.iload 6, 2) := by decide +kernel
theorem dX8_merges_127 : decode cX8_merges 127 = .ok (.aload_n 0, 1) := by decide +kernel
theorem dX8_merges_128 : decode cX8_merges 128 = .ok (.getfield 29, 3) := by decide +kernel
theorem dX8_merges_131 : decode cX8_merges 131 = .ok (.iload 6, 2) := by decide +kernel
theorem dX8_merges_133 : decode cX8_merges 133 = .ok (.iaload, 1) := by decide +kernel
theorem dX8_merges_134 : decode cX8_merges 134 = .ok (.iload_n 3, 1) := by decide +kernel
theorem dX8_merges_135 : decode cX8_merges 135 = .ok (.if_icmp .ne 7, 3) := by decide +kernel
theorem dX8_merges_138 : decode cX8_merges 138 = .ok (.iload_n 2, 1) := by decide +kernel
theorem dX8_merges_139 : decode cX8_merges 139 = .ok (.goto 10, 3) := by decide +kernel
theorem dX8_merges_142 : decode cX8_merges 142 = .ok (.aload_n 0, 1) := by decide +kernel
theorem dX8_merges_143 : decode cX8_merges 143 = .ok (.getfield 29, 3) := by decide +kernel
theorem dX8_merges_146 : decode cX8_merges 146 = .ok (.iload 6, 2) := by decide +kernel
theorem dX8_merges_148 : decode cX8_merges 148 = .ok (.iaload, 1) := by decide +kernel
theorem dX8_merges_149 : decode cX8_merges 149 = .ok (.iastore, 1) := by decide +kernel
theorem dX8_merges_150 : decode cX8_merges 150 = .ok (.iinc 6 1, 3) := by decide +kernel
theorem dX8_merges_153 : decode cX8_merges 153 = .ok (.goto (-41), 3) := by decide +kernel
theorem dX8_merges_156 : decode cX8_merges 156 = .ok (.iconst 1, 1) := by decide +kernel
theorem dX8_merges_157 : decode cX8_merges 157 = .ok (.ireturn, 1) := by decide +kernel
theorem dX8_merges_158 : decode cX8_merges 158 = .ok (.iinc 3 1, 3) := by decide +kernel
theorem dX8_merges_161 : decode cX8_merges 161 = .ok (.goto (-147), 3) := by decide +kernel
theorem dX8_merges_164 : decode cX8_merges 164 = .ok (.iinc 2 1, 3) := by decide +kernel
theorem dX8_merges_167 : decode cX8_merges 167 = .ok (.goto (-165), 3) := by decide +kernel
theorem dX8_merges_170 : decode cX8_merges 170 = .ok (.iconst 0, 1) := by decide +kernel
theorem dX8_merges_171 : decode cX8_merges 171 = .ok (.ireturn, 1) := by decide +kernel
set_option maxRecDepth 20000 in
theorem ggX8_read_X8_fits : GoodIn wsX8_read wsX8_fits := goodIn_ca (goodIn_r _ [12, 3, 4, 5, 6, 22, 23, 24, 25, 26, 27, 28, 29, 30, 31, 32, 33, 34, 35, 36, 37, 38, 39, 40, 41, 42, 43, 44, 45, 46, 47, 48, 49, 50, 51, 52, 53, 54, 55, 56, 57] (by decide +kernel) (by decide +kernel)) (goodIn_sub (fun _ h => List.mem_cons_of_mem _ (List.mem_append_right _ h)) (by decide +kernel))
set_option maxRecDepth 20000 in
theorem gX8_read_X8_fits : GoodIn wsX8_read (wsV RX8 124 RX8 yX8_fits wsX8_fits) := goodIn_app (goodIn_of _ (by decide +kernel)) ggX8_read_X8_fits
set_option maxRecDepth 20000 in
theorem ggX8_read_X8_merges : GoodIn wsX8_read wsX8_merges := goodIn_ca (goodIn_r _ [16, 1, 3, 2, 5, 17, 7, 18, 19, 20, 11, 21, 22, 23, 24, 25, 26, 27, 28, 29, 30, 31, 32, 33, 34, 35, 36, 37, 38, 39, 40, 41, 42, 43, 44, 45, 46, 47, 48, 49, 50, 51, 52, 53, 54, 55, 56, 57] (by decide +kernel) (by decide +kernel)) (goodIn_sub (fun _ h => List.mem_cons_of_mem _ (List.mem_append_right _ h)) (by decide +kernel))
set_option maxRecDepth 20000 in
theorem gX8_read_X8_merges : GoodIn wsX8_read (wsV RX8 128 RX8 yX8_merges wsX8_merges) := goodIn_app (goodIn_of _ (by decide +kernel)) ggX8_read_X8_merges
theorem dX8_read_0 : decode cX8_read 0 = .ok (.iconst (-1), 1) := by decide +kernel
theorem dX8_read_1 : decode cX8_read 1 = .ok (.istore_n 2, 1) := by decide +kernel
theorem dX8_read_2 : decode cX8_read 2 = .ok (.aload_n 0, 1) := by decide +kernel
theorem dX8_read_3 : decode cX8_read 3 = .ok (.getfield 111, 3) := by decide +kernel
theorem dX8_read_6 : decode cX8_read 6 = .ok (.iconst 1, 1) := by decide +kernel
theorem dX8_read_7 : decode cX8_read 7 = .ok (.isub, 1) := by decide +kernel
theorem dX8_read_8 : decode cX8_read 8 = .ok (.istore_n 3, 1) := by decide +kernel
theorem dX8_read_9 : decode cX8_read 9 = .ok (.iload_n 3, 1) := by decide +kernel
theorem dX8_read_10 : decode cX8_read 10 = .ok (.ifCond .lt 33, 3) := by decide +kernel
theorem dX8_read_13 : decode cX8_read 13 = .ok (.aload_n 0, 1) := by decide +kernel
theorem dX8_read_14 : decode cX8_read 14 = .ok (.getfield 38, 3) := by decide +kernel
theorem dX8_read_17 : decode cX8_read 17 = .ok (.iload_n 3, 1) := by decide +kernel
theorem dX8_read_18 : decode cX8_read 18 = .ok (.baload, 1) := by decide +kernel
theorem dX8_read_19 : decode cX8_read 19 = .ok (.ifCond .ne 16, 3) := by decide +kernel
theorem dX8_read_22 : decode cX8_read 22 = .ok (.aload_n 0, 1) := by decide +kernel
theorem dX8_read_23 : decode cX8_read 23 = .ok (.iload_n 1, 1) := by decide +kernel
theorem dX8_read_24 : decode cX8_read 24 = .ok (.iload_n 3, 1) := by decide +kernel
theorem dX8_read_25 : decode cX8_read 25 = .ok (.invokevirtual 124, 3) := by decide +kernel
theorem dX8_read_28 : decode cX8_read 28 = .ok (.ifCond .eq 7, 3) := by decide +kernel
theorem dX8_read_31 : decode cX8_read 31 = .ok (.iload_n 3, 1) := by decide +kernel
theorem dX8_read_32 : decode cX8_read 32 = .ok (.goto 4, 3) := by decide +kernel
theorem dX8_read_35 : decode cX8_read 35 = .ok (.iload_n 2, 1) := by decide +kernel
theorem dX8_read_36 : decode cX8_read 36 = .ok (.istore_n 2, 1) := by decide +kernel
theorem dX8_read_37 : decode cX8_read 37 = .ok (.iinc 3 (-1), 3) := by decide +kernel
theorem dX8_read_40 : decode cX8_read 40 = .ok (.goto (-31), 3) := by decide +kernel
theorem dX8_read_43 : decode cX8_read 43 = .ok (.iload_n 2, 1) := by decide +kernel
theorem dX8_read_44 : decode cX8_read 44 = .ok (.iconst (-1), 1) := by decide +kernel
theorem dX8_read_45 : decode cX8_read 45 = .ok (.if_icmp .ne 63, 3) := by decide +kernel
theorem dX8_read_48 : decode cX8_read 48 = .ok (.aload_n 0, 1) := by decide +kernel
theorem dX8_read_49 : decode cX8_read 49 = .ok (.getfield 111, 3) := by decide +kernel
theorem dX8_read_52 : decode cX8_read 52 = .ok (.istore_n 2, 1) := by decide +kernel
theorem dX8_read_53 : decode cX8_read 53 = .ok (.aload_n 0, 1) := by decide +kernel
theorem dX8_read_54 : decode cX8_read 54 = .ok (.getfield 32, 3) := by decide +kernel
theorem dX8_read_57 : decode cX8_read 57 = .ok (.iload_n 2, 1) := by decide +kernel
theorem dX8_read_58 : decode cX8_read 58 = .ok (.aload_n 0, 1) := by decide +kernel
theorem dX8_read_59 : decode cX8_read 59 = .ok (.getfield 7, 3) := by decide +kernel
theorem dX8_read_62 : decode cX8_read 62 = .ok (.iload_n 1, 1) := by decide +kernel
theorem dX8_read_63 : decode cX8_read 63 = .ok (.iaload, 1) := by decide +kernel
theorem dX8_read_64 : decode cX8_read 64 = .ok (.iastore, 1) := by decide +kernel
theorem dX8_read_65 : decode cX8_read 65 = .ok (.iconst 0, 1) := by decide +kernel
theorem dX8_read_66 : decode cX8_read 66 = .ok (.istore_n 3, 1) := by decide +kernel
theorem dX8_read_67 : decode cX8_read 67 = .ok (.iload_n 3, 1) := by decide +kernel
theorem dX8_read_68 : decode cX8_read 68 = .ok (.iconst 3, 1) := by decide +kernel
theorem dX8_read_69 : decode cX8_read 69 = .ok (.if_icmp .ge 29, 3) := by decide +kernel
theorem dX8_read_72 : decode cX8_read 72 = .ok (.aload_n 0, 1) := by decide +kernel
theorem dX8_read_73 : decode cX8_read 73 = .ok (.getfield 35, 3) := by decide +kernel
theorem dX8_read_76 : decode cX8_read 76 = .ok (.iconst 3, 1) := by decide +kernel
theorem dX8_read_77 : decode cX8_read 77 = .ok (.iload_n 2, 1) := by decide +kernel
theorem dX8_read_78 : decode cX8_read 78 = .ok (.imul, 1) := by decide +kernel
theorem dX8_read_79 : decode cX8_read 79 = .ok (.iload_n 3, 1) := by decide +kernel
theorem dX8_read_80 : decode cX8_read 80 = .ok (.iadd, 1) := by decide +kernel
theorem dX8_read_81 : decode cX8_read 81 = .ok (.aload_n 0, 1) := by decide +kernel
theorem dX8_read_82 : decode cX8_read 82 = .ok (.getfield 16, 3) := by decide +kernel
theorem dX8_read_85 : decode cX8_read 85 = .ok (.iconst 3, 1) := by decide +kernel
theorem dX8_read_86 : decode cX8_read 86 = .ok (.iload_n 1, 1) := by decide +kernel
theorem dX8_read_87 : decode cX8_read 87 = .ok (.imul, 1) := by decide +kernel
theorem dX8_read_88 : decode cX8_read 88 = .ok (.iload_n 3, 1) := by decide +kernel
theorem dX8_read_89 : decode cX8_read 89 = .ok (.iadd, 1) := by decide +kernel
theorem dX8_read_90 : decode cX8_read 90 = .ok (.iaload, 1) := by decide +kernel
theorem dX8_read_91 : decode cX8_read 91 = .ok (.iastore, 1) := by decide +kernel
theorem dX8_read_92 : decode cX8_read 92 = .ok (.iinc 3 1, 3) := by decide +kernel
theorem dX8_read_95 : decode cX8_read 95 = .ok (.goto (-28), 3) := by decide +kernel
theorem dX8_read_98 : decode cX8_read 98 = .ok (.aload_n 0, 1) := by decide +kernel
theorem dX8_read_99 : decode cX8_read 99 = .ok (.dup, 1) := by decide +kernel
theorem dX8_read_100 : decode cX8_read 100 = .ok (.getfield 111, 3) := by decide +kernel
theorem dX8_read_103 : decode cX8_read 103 = .ok (.iconst 1, 1) := by decide +kernel
theorem dX8_read_104 : decode cX8_read 104 = .ok (.iadd, 1) := by decide +kernel
theorem dX8_read_105 : decode cX8_read 105 = .ok (.putfield 111, 3) := by decide +kernel
theorem dX8_read_108 : decode cX8_read 108 = .ok (.aload_n 0, 1) := by decide +kernel
theorem dX8_read_109 : decode cX8_read 109 = .ok (.getfield 29, 3) := by decide +kernel
theorem dX8_read_112 : decode cX8_read 112 = .ok (.iload_n 1, 1) := by decide +kernel
theorem dX8_read_113 : decode cX8_read 113 = .ok (.iload_n 2, 1) := by decide +kernel
theorem dX8_read_114 : decode cX8_read 114 = .ok (.iastore, 1) := by decide +kernel
theorem dX8_read_115 : decode cX8_read 115 = .ok (.iconst 1, 1) := by decide +kernel
theorem dX8_read_116 : decode cX8_read 116 = .ok (.istore_n 3, 1) := by decide +kernel
theorem dX8_read_117 : decode cX8_read 117 = .ok (.iload_n 3, 1) := by decide +kernel
theorem dX8_read_118 : decode cX8_read 118 = .ok (.ifCond .eq 17, 3) := by decide +kernel
theorem dX8_read_121 : decode cX8_read 121 = .ok (.aload_n 0, 1) := by decide +kernel
theorem dX8_read_122 : decode cX8_read 122 = .ok (.aload_n 0, 1) := by decide +kernel
theorem dX8_read_123 : decode cX8_read 123 = .ok (.getfield 7, 3) := by decide +kernel
theorem dX8_read_126 : decode cX8_read 126 = .ok (.iload_n 1, 1) := by decide +kernel
theorem dX8_read_127 : decode cX8_read 127 = .ok (.iaload, 1) := by decide +kernel
theorem dX8_read_128 : decode cX8_read 128 = .ok (.invokevirtual 128, 3) := by decide +kernel
theorem dX8_read_131 : decode cX8_read 131 = .ok (.istore_n 3, 1) := by decide +kernel
theorem dX8_read_132 : decode cX8_read 132 = .ok (.goto (-15), 3) := by decide +kernel
theorem dX8_read_135 : decode cX8_read 135 = .ok (.return_, 1) := by decide +kernel
theorem dX8_counts_0 : decode cX8_counts 0 = .ok (.aload_n 0, 1) := by decide +kernel
theorem dX8_counts_1 : decode cX8_counts 1 = .ok (.getfield 25, 3) := by decide +kernel
theorem dX8_counts_4 : decode cX8_counts 4 = .ok (.iload_n 2, 1) := by decide +kernel
theorem dX8_counts_5 : decode cX8_counts 5 = .ok (.caload, 1) := by decide +kernel
theorem dX8_counts_6 : decode cX8_counts 6 = .ok (.bipush 100, 2) := by decide +kernel
theorem dX8_counts_8 : decode cX8_counts 8 = .ok (.if_icmp .eq 57, 3) := by decide +kernel
theorem dX8_counts_11 : decode cX8_counts 11 = .ok (.aload_n 0, 1) := by decide +kernel
theorem dX8_counts_12 : decode cX8_counts 12 = .ok (.getfield 7, 3) := by decide +kernel
theorem dX8_counts_15 : decode cX8_counts 15 = .ok (.iload_n 2, 1) := by decide +kernel
theorem dX8_counts_16 : decode cX8_counts 16 = .ok (.iaload, 1) := by decide +kernel
theorem dX8_counts_17 : decode cX8_counts 17 = .ok (.aload_n 0, 1) := by decide +kernel
theorem dX8_counts_18 : decode cX8_counts 18 = .ok (.getfield 42, 3) := by decide +kernel
theorem dX8_counts_21 : decode cX8_counts 21 = .ok (.iload_n 1, 1) := by decide +kernel
theorem dX8_counts_22 : decode cX8_counts 22 = .ok (.iaload, 1) := by decide +kernel
theorem dX8_counts_23 : decode cX8_counts 23 = .ok (.if_icmp .ne 42, 3) := by decide +kernel
theorem dX8_counts_26 : decode cX8_counts 26 = .ok (.aload_n 0, 1) := by decide +kernel
theorem dX8_counts_27 : decode cX8_counts 27 = .ok (.getfield 13, 3) := by decide +kernel
theorem dX8_counts_30 : decode cX8_counts 30 = .ok (.iload_n 2, 1) := by decide +kernel
theorem dX8_counts_31 : decode cX8_counts 31 = .ok (.iaload, 1) := by decide +kernel
theorem dX8_counts_32 : decode cX8_counts 32 = .ok (.aload_n 0, 1) := by decide +kernel
theorem dX8_counts_33 : decode cX8_counts 33 = .ok (.getfield 45, 3) := by decide +kernel
theorem dX8_counts_36 : decode cX8_counts 36 = .ok (.iload_n 1, 1) := by decide +kernel
theorem dX8_counts_37 : decode cX8_counts 37 = .ok (.iaload, 1) := by decide +kernel
theorem dX8_counts_38 : decode cX8_counts 38 = .ok (.if_icmp .lt 27, 3) := by decide +kernel
theorem dX8_counts_41 : decode cX8_counts 41 = .ok (.aload_n 0, 1) := by decide +kernel
theorem dX8_counts_42 : decode cX8_counts 42 = .ok (.getfield 132, 3) := by decide +kernel
theorem dX8_counts_45 : decode cX8_counts 45 = .ok (.aload_n 0, 1) := by decide +kernel
theorem dX8_counts_46 : decode cX8_counts 46 = .ok (.getfield 22, 3) := by decide +kernel
theorem dX8_counts_49 : decode cX8_counts 49 = .ok (.iload_n 2, 1) := by decide +kernel
theorem dX8_counts_50 : decode cX8_counts 50 = .ok (.iaload, 1) := by decide +kernel
theorem dX8_counts_51 : decode cX8_counts 51 = .ok (.isub, 1) := by decide +kernel
theorem dX8_counts_52 : decode cX8_counts 52 = .ok (.aload_n 0, 1) := by decide +kernel
theorem dX8_counts_53 : decode cX8_counts 53 = .ok (.getfield 57, 3) := by decide +kernel
theorem dX8_counts_56 : decode cX8_counts 56 = .ok (.iload_n 1, 1) := by decide +kernel
theorem dX8_counts_57 : decode cX8_counts 57 = .ok (.iaload, 1) := by decide +kernel
theorem dX8_counts_58 : decode cX8_counts 58 = .ok (.if_icmp .ge 7, 3) := by decide +kernel
theorem dX8_counts_61 : decode cX8_counts 61 = .ok (.iconst 1, 1) := by decide +kernel
theorem dX8_counts_62 : decode cX8_counts 62 = .ok (.goto 4, 3) := by decide +kernel
theorem dX8_counts_65 : decode cX8_counts 65 = .ok (.iconst 0, 1) := by decide +kernel
theorem dX8_counts_66 : decode cX8_counts 66 = .ok (.istore_n 3, 1) := by decide +kernel
theorem dX8_counts_67 : decode cX8_counts 67 = .ok (.iload_n 3, 1) := by decide +kernel
theorem dX8_counts_68 : decode cX8_counts 68 = .ok (.ifCond .eq 41, 3) := by decide +kernel
theorem dX8_counts_71 : decode cX8_counts 71 = .ok (.aload_n 0, 1) := by decide +kernel
theorem dX8_counts_72 : decode cX8_counts 72 = .ok (.getfield 48, 3) := by decide +kernel
theorem dX8_counts_75 : decode cX8_counts 75 = .ok (.iload_n 1, 1) := by decide +kernel
theorem dX8_counts_76 : decode cX8_counts 76 = .ok (.iaload, 1) := by decide +kernel
theorem dX8_counts_77 : decode cX8_counts 77 = .ok (.iconst (-1), 1) := by decide +kernel
theorem dX8_counts_78 : decode cX8_counts 78 = .ok (.if_icmp .eq 27, 3) := by decide +kernel
theorem dX8_counts_81 : decode cX8_counts 81 = .ok (.aload_n 0, 1) := by decide +kernel
theorem dX8_counts_82 : decode cX8_counts 82 = .ok (.getfield 16, 3) := by decide +kernel
theorem dX8_counts_85 : decode cX8_counts 85 = .ok (.iconst 3, 1) := by decide +kernel
theorem dX8_counts_86 : decode cX8_counts 86 = .ok (.iload_n 2, 1) := by decide +kernel
theorem dX8_counts_87 : decode cX8_counts 87 = .ok (.imul, 1) := by decide +kernel
theorem dX8_counts_88 : decode cX8_counts 88 = .ok (.aload_n 0, 1) := by decide +kernel
theorem dX8_counts_89 : decode cX8_counts 89 = .ok (.getfield 48, 3) := by decide +kernel
theorem dX8_counts_92 : decode cX8_counts 92 = .ok (.iload_n 1, 1) := by decide +kernel
theorem dX8_counts_93 : decode cX8_counts 93 = .ok (.iaload, 1) := by decide +kernel
theorem dX8_counts_94 : decode cX8_counts 94 = .ok (.iadd, 1) := by decide +kernel
theorem dX8_counts_95 : decode cX8_counts 95 = .ok (.iaload, 1) := by decide +kernel
theorem dX8_counts_96 : decode cX8_counts 96 = .ok (.aload_n 0, 1) := by decide +kernel
theorem dX8_counts_97 : decode cX8_counts 97 = .ok (.getfield 51, 3) := by decide +kernel
theorem dX8_counts_100 : decode cX8_counts 100 = .ok (.iload_n 1, 1) := by decide +kernel
theorem dX8_counts_101 : decode cX8_counts 101 = .ok (.iaload, 1) := by decide +kernel
theorem dX8_counts_102 : decode cX8_counts 102 = .ok (.if_icmp .ne 7, 3) := by decide +kernel
theorem dX8_counts_105 : decode cX8_counts 105 = .ok (.iconst 1, 1) := by decide +kernel
theorem dX8_counts_106 : decode cX8_counts 106 = .ok (.goto 4, 3) := by decide +kernel
theorem dX8_counts_109 : decode cX8_counts 109 = .ok (.iconst 0, 1) := by decide +kernel
theorem dX8_counts_110 : decode cX8_counts 110 = .ok (.ireturn, 1) := by decide +kernel
set_option maxRecDepth 20000 in
theorem ggX8_countNow_X8_counts : GoodIn wsX8_countNow wsX8_counts := goodIn_ca (goodIn_r _ [6, 7, 8, 9, 10, 11, 12, 13, 14, 15, 16, 17, 18, 19, 20, 21, 22, 23, 24, 25, 26, 27, 28, 29, 30, 31, 32, 33, 34, 35, 36, 37, 38, 39, 40, 41, 42, 43, 44, 45, 46, 47, 48, 49, 50, 51, 52, 53] (by decide +kernel) (by decide +kernel)) (goodIn_sub (fun _ h => List.mem_cons_of_mem _ (List.mem_append_right _ h)) (by decide +kernel))
set_option maxRecDepth 20000 in
theorem gX8_countNow_X8_counts : GoodIn wsX8_countNow (wsV RX8 135 RX8 yX8_counts wsX8_counts) := goodIn_app (goodIn_of _ (by decide +kernel)) ggX8_countNow_X8_counts
theorem dX8_countNow_0 : decode cX8_countNow 0 = .ok (.iconst 0, 1) := by decide +kernel
theorem dX8_countNow_1 : decode cX8_countNow 1 = .ok (.istore_n 2, 1) := by decide +kernel
theorem dX8_countNow_2 : decode cX8_countNow 2 = .ok (.iconst 0, 1) := by decide +kernel
theorem dX8_countNow_3 : decode cX8_countNow 3 = .ok (.istore_n 3, 1) := by decide +kernel
theorem dX8_countNow_4 : decode cX8_countNow 4 = .ok (.iload_n 3, 1) := by decide +kernel
theorem dX8_countNow_5 : decode cX8_countNow 5 = .ok (.aload_n 0, 1) := by decide +kernel
theorem dX8_countNow_6 : decode cX8_countNow 6 = .ok (.getfield 104, 3) := by decide +kernel
theorem dX8_countNow_9 : decode cX8_countNow 9 = .ok (.if_icmp .ge 26, 3) := by decide +kernel
theorem dX8_countNow_12 : decode cX8_countNow 12 = .ok (.iload_n 2, 1) := by decide +kernel
theorem dX8_countNow_13 : decode cX8_countNow 13 = .ok (.aload_n 0, 1) := by decide +kernel
theorem dX8_countNow_14 : decode cX8_countNow 14 = .ok (.iload_n 1, 1) := by decide +kernel
theorem dX8_countNow_15 : decode cX8_countNow 15 = .ok (.iload_n 3, 1) := by decide +kernel
theorem dX8_countNow_16 : decode cX8_countNow 16 = .ok (.invokevirtual 135, 3) := by decide +kernel
theorem dX8_countNow_19 : decode cX8_countNow 19 = .ok (.ifCond .eq 7, 3) := by decide +kernel
theorem dX8_countNow_22 : decode cX8_countNow 22 = .ok (.iconst 1, 1) := by decide +kernel
theorem dX8_countNow_23 : decode cX8_countNow 23 = .ok (.goto 4, 3) := by decide +kernel
theorem dX8_countNow_26 : decode cX8_countNow 26 = .ok (.iconst 0, 1) := by decide +kernel
theorem dX8_countNow_27 : decode cX8_countNow 27 = .ok (.iadd, 1) := by decide +kernel
theorem dX8_countNow_28 : decode cX8_countNow 28 = .ok (.istore_n 2, 1) := by decide +kernel
theorem dX8_countNow_29 : decode cX8_countNow 29 = .ok (.iinc 3 1, 3) := by decide +kernel
theorem dX8_countNow_32 : decode cX8_countNow 32 = .ok (.goto (-28), 3) := by decide +kernel
theorem dX8_countNow_35 : decode cX8_countNow 35 = .ok (.iload_n 2, 1) := by decide +kernel
theorem dX8_countNow_36 : decode cX8_countNow 36 = .ok (.ireturn, 1) := by decide +kernel
theorem dX8_isOn_0 : decode cX8_isOn 0 = .ok (.aload_n 0, 1) := by decide +kernel
theorem dX8_isOn_1 : decode cX8_isOn 1 = .ok (.getfield 78, 3) := by decide +kernel
theorem dX8_isOn_4 : decode cX8_isOn 4 = .ok (.iload_n 1, 1) := by decide +kernel
theorem dX8_isOn_5 : decode cX8_isOn 5 = .ok (.baload, 1) := by decide +kernel
theorem dX8_isOn_6 : decode cX8_isOn 6 = .ok (.ifCond .ne 32, 3) := by decide +kernel
theorem dX8_isOn_9 : decode cX8_isOn 9 = .ok (.aload_n 0, 1) := by decide +kernel
theorem dX8_isOn_10 : decode cX8_isOn 10 = .ok (.getfield 81, 3) := by decide +kernel
theorem dX8_isOn_13 : decode cX8_isOn 13 = .ok (.iconst 4, 1) := by decide +kernel
theorem dX8_isOn_14 : decode cX8_isOn 14 = .ok (.iload_n 1, 1) := by decide +kernel
theorem dX8_isOn_15 : decode cX8_isOn 15 = .ok (.imul, 1) := by decide +kernel
theorem dX8_isOn_16 : decode cX8_isOn 16 = .ok (.iload_n 2, 1) := by decide +kernel
theorem dX8_isOn_17 : decode cX8_isOn 17 = .ok (.bipush 50, 2) := by decide +kernel
theorem dX8_isOn_19 : decode cX8_isOn 19 = .ok (.idiv, 1) := by decide +kernel
theorem dX8_isOn_20 : decode cX8_isOn 20 = .ok (.iadd, 1) := by decide +kernel
theorem dX8_isOn_21 : decode cX8_isOn 21 = .ok (.laload, 1) := by decide +kernel
theorem dX8_isOn_22 : decode cX8_isOn 22 = .ok (.iload_n 2, 1) := by decide +kernel
theorem dX8_isOn_23 : decode cX8_isOn 23 = .ok (.bipush 50, 2) := by decide +kernel
theorem dX8_isOn_25 : decode cX8_isOn 25 = .ok (.irem, 1) := by decide +kernel
theorem dX8_isOn_26 : decode cX8_isOn 26 = .ok (.lshr, 1) := by decide +kernel
theorem dX8_isOn_27 : decode cX8_isOn 27 = .ok (.lconst 1, 1) := by decide +kernel
theorem dX8_isOn_28 : decode cX8_isOn 28 = .ok (.land, 1) := by decide +kernel
theorem dX8_isOn_29 : decode cX8_isOn 29 = .ok (.lconst 1, 1) := by decide +kernel
theorem dX8_isOn_30 : decode cX8_isOn 30 = .ok (.lcmp, 1) := by decide +kernel
theorem dX8_isOn_31 : decode cX8_isOn 31 = .ok (.ifCond .ne 7, 3) := by decide +kernel
theorem dX8_isOn_34 : decode cX8_isOn 34 = .ok (.iconst 1, 1) := by decide +kernel
theorem dX8_isOn_35 : decode cX8_isOn 35 = .ok (.goto 4, 3) := by decide +kernel
theorem dX8_isOn_38 : decode cX8_isOn 38 = .ok (.iconst 0, 1) := by decide +kernel
theorem dX8_isOn_39 : decode cX8_isOn 39 = .ok (.ireturn, 1) := by decide +kernel
set_option maxRecDepth 20000 in
theorem ggX8_look_X8_countNow : GoodIn wsX8_look wsX8_countNow := goodIn_ca (goodIn_r _ [16, 10, 17, 18, 19, 15, 20, 21, 22, 23, 24, 25, 9, 26, 27, 28, 29, 30, 31, 32, 33, 34, 35, 36, 37, 38, 39, 40, 41, 42, 43, 44, 45, 46, 47, 48, 49, 50, 51, 52, 53, 54, 55, 56, 57, 58, 59, 60, 61, 62, 63, 64, 65, 66] (by decide +kernel) (by decide +kernel)) (goodIn_sub (fun _ h => List.mem_cons_of_mem _ (List.mem_append_right _ h)) (by decide +kernel))
set_option maxRecDepth 20000 in
theorem gX8_look_X8_countNow : GoodIn wsX8_look (wsV RX8 138 RX8 yX8_countNow wsX8_countNow) := goodIn_app (goodIn_of _ (by decide +kernel)) ggX8_look_X8_countNow
set_option maxRecDepth 20000 in
theorem ggX8_look_X8_counts : GoodIn wsX8_look wsX8_counts := goodIn_ca (goodIn_r _ [20, 21, 22, 23, 24, 25, 9, 26, 27, 28, 29, 30, 31, 32, 33, 34, 35, 36, 37, 38, 39, 40, 41, 42, 43, 44, 45, 46, 47, 48, 49, 50, 51, 52, 53, 54, 55, 56, 57, 58, 59, 60, 61, 62, 63, 64, 65, 66] (by decide +kernel) (by decide +kernel)) (goodIn_sub (fun _ h => List.mem_cons_of_mem _ (List.mem_append_right _ h)) (by decide +kernel))
set_option maxRecDepth 20000 in
theorem gX8_look_X8_counts : GoodIn wsX8_look (wsV RX8 135 RX8 yX8_counts wsX8_counts) := goodIn_app (goodIn_of _ (by decide +kernel)) ggX8_look_X8_counts
theorem dX8_look_0 : decode cX8_look 0 = .ok (.aload_n 0, 1) := by decide +kernel
theorem dX8_look_1 : decode cX8_look 1 = .ok (.iload_n 1, 1) := by decide +kernel
theorem dX8_look_2 : decode cX8_look 2 = .ok (.invokevirtual 138, 3) := by decide +kernel
theorem dX8_look_5 : decode cX8_look 5 = .ok (.aload_n 0, 1) := by decide +kernel
theorem dX8_look_6 : decode cX8_look 6 = .ok (.getfield 54, 3) := by decide +kernel
theorem dX8_look_9 : decode cX8_look 9 = .ok (.iload_n 1, 1) := by decide +kernel
theorem dX8_look_10 : decode cX8_look 10 = .ok (.iaload, 1) := by decide +kernel
theorem dX8_look_11 : decode cX8_look 11 = .ok (.if_icmp .ge 49, 3) := by decide +kernel
theorem dX8_look_14 : decode cX8_look 14 = .ok (.aload_n 0, 1) := by decide +kernel
theorem dX8_look_15 : decode cX8_look 15 = .ok (.getfield 63, 3) := by decide +kernel
theorem dX8_look_18 : decode cX8_look 18 = .ok (.iload_n 1, 1) := by decide +kernel
theorem dX8_look_19 : decode cX8_look 19 = .ok (.caload, 1) := by decide +kernel
theorem dX8_look_20 : decode cX8_look 20 = .ok (.bipush 102, 2) := by decide +kernel
theorem dX8_look_22 : decode cX8_look 22 = .ok (.if_icmp .ne 37, 3) := by decide +kernel
theorem dX8_look_25 : decode cX8_look 25 = .ok (.aload_n 0, 1) := by decide +kernel
theorem dX8_look_26 : decode cX8_look 26 = .ok (.getfield 63, 3) := by decide +kernel
theorem dX8_look_29 : decode cX8_look 29 = .ok (.iload_n 1, 1) := by decide +kernel
theorem dX8_look_30 : decode cX8_look 30 = .ok (.aload_n 0, 1) := by decide +kernel
theorem dX8_look_31 : decode cX8_look 31 = .ok (.getfield 60, 3) := by decide +kernel
theorem dX8_look_34 : decode cX8_look 34 = .ok (.iload_n 1, 1) := by decide +kernel
theorem dX8_look_35 : decode cX8_look 35 = .ok (.iaload, 1) := by decide +kernel
theorem dX8_look_36 : decode cX8_look 36 = .ok (.ifCond .ne 8, 3) := by decide +kernel
theorem dX8_look_39 : decode cX8_look 39 = .ok (.bipush 113, 2) := by decide +kernel
theorem dX8_look_41 : decode cX8_look 41 = .ok (.goto 5, 3) := by decide +kernel
theorem dX8_look_44 : decode cX8_look 44 = .ok (.bipush 104, 2) := by decide +kernel
theorem dX8_look_46 : decode cX8_look 46 = .ok (.castore, 1) := by decide +kernel
theorem dX8_look_47 : decode cX8_look 47 = .ok (.aload_n 0, 1) := by decide +kernel
theorem dX8_look_48 : decode cX8_look 48 = .ok (.getfield 66, 3) := by decide +kernel
theorem dX8_look_51 : decode cX8_look 51 = .ok (.iload_n 1, 1) := by decide +kernel
theorem dX8_look_52 : decode cX8_look 52 = .ok (.aload_n 0, 1) := by decide +kernel
theorem dX8_look_53 : decode cX8_look 53 = .ok (.getfield 60, 3) := by decide +kernel
theorem dX8_look_56 : decode cX8_look 56 = .ok (.iload_n 1, 1) := by decide +kernel
theorem dX8_look_57 : decode cX8_look 57 = .ok (.iaload, 1) := by decide +kernel
theorem dX8_look_58 : decode cX8_look 58 = .ok (.iastore, 1) := by decide +kernel
theorem dX8_look_59 : decode cX8_look 59 = .ok (.return_, 1) := by decide +kernel
theorem dX8_look_60 : decode cX8_look 60 = .ok (.aload_n 0, 1) := by decide +kernel
theorem dX8_look_61 : decode cX8_look 61 = .ok (.getfield 63, 3) := by decide +kernel
theorem dX8_look_64 : decode cX8_look 64 = .ok (.iload_n 1, 1) := by decide +kernel
theorem dX8_look_65 : decode cX8_look 65 = .ok (.caload, 1) := by decide +kernel
theorem dX8_look_66 : decode cX8_look 66 = .ok (.bipush 113, 2) := by decide +kernel
theorem dX8_look_68 : decode cX8_look 68 = .ok (.if_icmp .ne 46, 3) := by decide +kernel
theorem dX8_look_71 : decode cX8_look 71 = .ok (.aload_n 0, 1) := by decide +kernel
theorem dX8_look_72 : decode cX8_look 72 = .ok (.getfield 69, 3) := by decide +kernel
theorem dX8_look_75 : decode cX8_look 75 = .ok (.iload_n 1, 1) := by decide +kernel
theorem dX8_look_76 : decode cX8_look 76 = .ok (.aload_n 0, 1) := by decide +kernel
theorem dX8_look_77 : decode cX8_look 77 = .ok (.getfield 117, 3) := by decide +kernel
theorem dX8_look_80 : decode cX8_look 80 = .ok (.iastore, 1) := by decide +kernel
theorem dX8_look_81 : decode cX8_look 81 = .ok (.aload_n 0, 1) := by decide +kernel
theorem dX8_look_82 : decode cX8_look 82 = .ok (.getfield 72, 3) := by decide +kernel
theorem dX8_look_85 : decode cX8_look 85 = .ok (.aload_n 0, 1) := by decide +kernel
theorem dX8_look_86 : decode cX8_look 86 = .ok (.getfield 117, 3) := by decide +kernel
theorem dX8_look_89 : decode cX8_look 89 = .ok (.iload_n 1, 1) := by decide +kernel
theorem dX8_look_90 : decode cX8_look 90 = .ok (.iastore, 1) := by decide +kernel
theorem dX8_look_91 : decode cX8_look 91 = .ok (.aload_n 0, 1) := by decide +kernel
theorem dX8_look_92 : decode cX8_look 92 = .ok (.getfield 75, 3) := by decide +kernel
theorem dX8_look_95 : decode cX8_look 95 = .ok (.aload_n 0, 1) := by decide +kernel
theorem dX8_look_96 : decode cX8_look 96 = .ok (.getfield 117, 3) := by decide +kernel
theorem dX8_look_99 : decode cX8_look 99 = .ok (.aload_n 0, 1) := by decide +kernel
theorem dX8_look_100 : decode cX8_look 100 = .ok (.getfield 132, 3) := by decide +kernel
theorem dX8_look_103 : decode cX8_look 103 = .ok (.iastore, 1) := by decide +kernel
theorem dX8_look_104 : decode cX8_look 104 = .ok (.aload_n 0, 1) := by decide +kernel
theorem dX8_look_105 : decode cX8_look 105 = .ok (.dup, 1) := by decide +kernel
theorem dX8_look_106 : decode cX8_look 106 = .ok (.getfield 117, 3) := by decide +kernel
theorem dX8_look_109 : decode cX8_look 109 = .ok (.iconst 1, 1) := by decide +kernel
theorem dX8_look_110 : decode cX8_look 110 = .ok (.iadd, 1) := by decide +kernel
theorem dX8_look_111 : decode cX8_look 111 = .ok (.putfield 117, 3) := by decide +kernel
theorem dX8_look_114 : decode cX8_look 114 = .ok (.aload_n 0, 1) := by decide +kernel
theorem dX8_look_115 : decode cX8_look 115 = .ok (.getfield 63, 3) := by decide +kernel
theorem dX8_look_118 : decode cX8_look 118 = .ok (.iload_n 1, 1) := by decide +kernel
theorem dX8_look_119 : decode cX8_look 119 = .ok (.bipush 102, 2) := by decide +kernel
theorem dX8_look_121 : decode cX8_look 121 = .ok (.castore, 1) := by decide +kernel
theorem dX8_look_122 : decode cX8_look 122 = .ok (.aload_n 0, 1) := by decide +kernel
theorem dX8_look_123 : decode cX8_look 123 = .ok (.getfield 66, 3) := by decide +kernel
theorem dX8_look_126 : decode cX8_look 126 = .ok (.iload_n 1, 1) := by decide +kernel
theorem dX8_look_127 : decode cX8_look 127 = .ok (.iconst 0, 1) := by decide +kernel
theorem dX8_look_128 : decode cX8_look 128 = .ok (.iastore, 1) := by decide +kernel
theorem dX8_look_129 : decode cX8_look 129 = .ok (.iconst 0, 1) := by decide +kernel
theorem dX8_look_130 : decode cX8_look 130 = .ok (.istore_n 2, 1) := by decide +kernel
theorem dX8_look_131 : decode cX8_look 131 = .ok (.iload_n 2, 1) := by decide +kernel
theorem dX8_look_132 : decode cX8_look 132 = .ok (.aload_n 0, 1) := by decide +kernel
theorem dX8_look_133 : decode cX8_look 133 = .ok (.getfield 104, 3) := by decide +kernel
theorem dX8_look_136 : decode cX8_look 136 = .ok (.if_icmp .ge 45, 3) := by decide +kernel
theorem dX8_look_139 : decode cX8_look 139 = .ok (.aload_n 0, 1) := by decide +kernel
theorem dX8_look_140 : decode cX8_look 140 = .ok (.iload_n 1, 1) := by decide +kernel
theorem dX8_look_141 : decode cX8_look 141 = .ok (.iload_n 2, 1) := by decide +kernel
theorem dX8_look_142 : decode cX8_look 142 = .ok (.invokevirtual 135, 3) := by decide +kernel
theorem dX8_look_145 : decode cX8_look 145 = .ok (.ifCond .eq 30, 3) := by decide +kernel
theorem dX8_look_148 : decode cX8_look 148 = .ok (.aload_n 0, 1) := by decide +kernel
theorem dX8_look_149 : decode cX8_look 149 = .ok (.getfield 81, 3) := by decide +kernel
theorem dX8_look_152 : decode cX8_look 152 = .ok (.iconst 4, 1) := by decide +kernel
theorem dX8_look_153 : decode cX8_look 153 = .ok (.aload_n 0, 1) := by decide +kernel
theorem dX8_look_154 : decode cX8_look 154 = .ok (.getfield 69, 3) := by decide +kernel
theorem dX8_look_157 : decode cX8_look 157 = .ok (.iload_n 1, 1) := by decide +kernel
theorem dX8_look_158 : decode cX8_look 158 = .ok (.iaload, 1) := by decide +kernel
theorem dX8_look_159 : decode cX8_look 159 = .ok (.imul, 1) := by decide +kernel
theorem dX8_look_160 : decode cX8_look 160 = .ok (.iload_n 2, 1) := by decide +kernel
theorem dX8_look_161 : decode cX8_look 161 = .ok (.bipush 50, 2) := by decide +kernel
theorem dX8_look_163 : decode cX8_look 163 = .ok (.idiv, 1) := by decide +kernel
theorem dX8_look_164 : decode cX8_look 164 = .ok (.iadd, 1) := by decide +kernel
theorem dX8_look_165 : decode cX8_look 165 = .ok (.dup2, 1) := by decide +kernel
theorem dX8_look_166 : decode cX8_look 166 = .ok (.laload, 1) := by decide +kernel
theorem dX8_look_167 : decode cX8_look 167 = .ok (.lconst 1, 1) := by decide +kernel
theorem dX8_look_168 : decode cX8_look 168 = .ok (.iload_n 2, 1) := by decide +kernel
theorem dX8_look_169 : decode cX8_look 169 = .ok (.bipush 50, 2) := by decide +kernel
theorem dX8_look_171 : decode cX8_look 171 = .ok (.irem, 1) := by decide +kernel
theorem dX8_look_172 : decode cX8_look 172 = .ok (.lshl, 1) := by decide +kernel
theorem dX8_look_173 : decode cX8_look 173 = .ok (.lor, 1) := by decide +kernel
theorem dX8_look_174 : decode cX8_look 174 = .ok (.lastore, 1) := by decide +kernel
theorem dX8_look_175 : decode cX8_look 175 = .ok (.iinc 2 1, 3) := by decide +kernel
theorem dX8_look_178 : decode cX8_look 178 = .ok (.goto (-47), 3) := by decide +kernel
theorem dX8_look_181 : decode cX8_look 181 = .ok (.return_, 1) := by decide +kernel
set_option maxRecDepth 20000 in
theorem ggX8_isGuardedNow_X8_counts : GoodIn wsX8_isGuardedNow wsX8_counts := goodIn_ca (goodIn_r _ [8, 3, 9, 10, 11, 12, 13, 14, 15, 16, 17, 18, 25, 26, 27, 28, 29, 30, 31, 32, 33, 34, 35, 36, 37, 38, 39, 40, 41, 42, 43, 44, 45, 46, 47, 48, 49, 50, 51, 52, 53, 54, 55, 56, 57, 58, 59, 60] (by decide +kernel) (by decide +kernel)) (goodIn_sub (fun _ h => List.mem_cons_of_mem _ (List.mem_append_right _ h)) (by decide +kernel))
set_option maxRecDepth 20000 in
theorem gX8_isGuardedNow_X8_counts : GoodIn wsX8_isGuardedNow (wsV RX8 135 RX8 yX8_counts wsX8_counts) := goodIn_app (goodIn_of _ (by decide +kernel)) ggX8_isGuardedNow_X8_counts
set_option maxRecDepth 20000 in
theorem ggX8_isGuardedNow_X8_isOn : GoodIn wsX8_isGuardedNow wsX8_isOn := goodIn_ca (goodIn_r _ [22, 23, 24, 25, 26, 27, 28, 29, 30, 31, 32, 33, 34, 35, 36, 37, 38, 39, 40, 41, 42, 43, 44, 45, 46, 47, 48, 49, 50, 51, 52, 53, 54, 55, 56, 57, 58, 59, 60] (by decide +kernel) (by decide +kernel)) (goodIn_sub (fun _ h => List.mem_cons_of_mem _ (List.mem_append_right _ h)) (by decide +kernel))
set_option maxRecDepth 20000 in
theorem gX8_isGuardedNow_X8_isOn : GoodIn wsX8_isGuardedNow (wsV RX8 142 RX8 yX8_isOn wsX8_isOn) := goodIn_app (goodIn_of _ (by decide +kernel)) ggX8_isGuardedNow_X8_isOn
theorem dX8_isGuardedNow_0 : decode cX8_isGuardedNow 0 = .ok (.iconst 0, 1) := by decide +kernel
theorem dX8_isGuardedNow_1 : decode cX8_isGuardedNow 1 = .ok (.istore_n 2, 1) := by decide +kernel
theorem dX8_isGuardedNow_2 : decode cX8_isGuardedNow 2 = .ok (.iconst 0, 1) := by decide +kernel
theorem dX8_isGuardedNow_3 : decode cX8_isGuardedNow 3 = .ok (.istore_n 3, 1) := by decide +kernel
theorem dX8_isGuardedNow_4 : decode cX8_isGuardedNow 4 = .ok (.iload_n 3, 1) := by decide +kernel
theorem dX8_isGuardedNow_5 : decode cX8_isGuardedNow 5 = .ok (.aload_n 0, 1) := by decide +kernel
theorem dX8_isGuardedNow_6 : decode cX8_isGuardedNow 6 = .ok (.getfield 114, 3) := by decide +kernel
theorem dX8_isGuardedNow_9 : decode cX8_isGuardedNow 9 = .ok (.if_icmp .ge 28, 3) := by decide +kernel
theorem dX8_isGuardedNow_12 : decode cX8_isGuardedNow 12 = .ok (.iload_n 2, 1) := by decide +kernel
theorem dX8_isGuardedNow_13 : decode cX8_isGuardedNow 13 = .ok (.ifCond .ne 12, 3) := by decide +kernel
theorem dX8_isGuardedNow_16 : decode cX8_isGuardedNow 16 = .ok (.aload_n 0, 1) := by decide +kernel
theorem dX8_isGuardedNow_17 : decode cX8_isGuardedNow 17 = .ok (.iload_n 3, 1) := by decide +kernel
theorem dX8_isGuardedNow_18 : decode cX8_isGuardedNow 18 = .ok (.iload_n 1, 1) := by decide +kernel
theorem dX8_isGuardedNow_19 : decode cX8_isGuardedNow 19 = .ok (.invokevirtual 135, 3) := by decide +kernel
theorem dX8_isGuardedNow_22 : decode cX8_isGuardedNow 22 = .ok (.ifCond .eq 7, 3) := by decide +kernel
theorem dX8_isGuardedNow_25 : decode cX8_isGuardedNow 25 = .ok (.iconst 1, 1) := by decide +kernel
theorem dX8_isGuardedNow_26 : decode cX8_isGuardedNow 26 = .ok (.goto 4, 3) := by decide +kernel
theorem dX8_isGuardedNow_29 : decode cX8_isGuardedNow 29 = .ok (.iconst 0, 1) := by decide +kernel
theorem dX8_isGuardedNow_30 : decode cX8_isGuardedNow 30 = .ok (.istore_n 2, 1) := by decide +kernel
theorem dX8_isGuardedNow_31 : decode cX8_isGuardedNow 31 = .ok (.iinc 3 1, 3) := by decide +kernel
theorem dX8_isGuardedNow_34 : decode cX8_isGuardedNow 34 = .ok (.goto (-30), 3) := by decide +kernel
theorem dX8_isGuardedNow_37 : decode cX8_isGuardedNow 37 = .ok (.iconst 0, 1) := by decide +kernel
theorem dX8_isGuardedNow_38 : decode cX8_isGuardedNow 38 = .ok (.istore_n 3, 1) := by decide +kernel
theorem dX8_isGuardedNow_39 : decode cX8_isGuardedNow 39 = .ok (.iload_n 3, 1) := by decide +kernel
theorem dX8_isGuardedNow_40 : decode cX8_isGuardedNow 40 = .ok (.aload_n 0, 1) := by decide +kernel
theorem dX8_isGuardedNow_41 : decode cX8_isGuardedNow 41 = .ok (.getfield 117, 3) := by decide +kernel
theorem dX8_isGuardedNow_44 : decode cX8_isGuardedNow 44 = .ok (.if_icmp .ge 28, 3) := by decide +kernel
theorem dX8_isGuardedNow_47 : decode cX8_isGuardedNow 47 = .ok (.iload_n 2, 1) := by decide +kernel
theorem dX8_isGuardedNow_48 : decode cX8_isGuardedNow 48 = .ok (.ifCond .ne 12, 3) := by decide +kernel
theorem dX8_isGuardedNow_51 : decode cX8_isGuardedNow 51 = .ok (.aload_n 0, 1) := by decide +kernel
theorem dX8_isGuardedNow_52 : decode cX8_isGuardedNow 52 = .ok (.iload_n 3, 1) := by decide +kernel
theorem dX8_isGuardedNow_53 : decode cX8_isGuardedNow 53 = .ok (.iload_n 1, 1) := by decide +kernel
theorem dX8_isGuardedNow_54 : decode cX8_isGuardedNow 54 = .ok (.invokevirtual 142, 3) := by decide +kernel
theorem dX8_isGuardedNow_57 : decode cX8_isGuardedNow 57 = .ok (.ifCond .eq 7, 3) := by decide +kernel
theorem dX8_isGuardedNow_60 : decode cX8_isGuardedNow 60 = .ok (.iconst 1, 1) := by decide +kernel
theorem dX8_isGuardedNow_61 : decode cX8_isGuardedNow 61 = .ok (.goto 4, 3) := by decide +kernel
theorem dX8_isGuardedNow_64 : decode cX8_isGuardedNow 64 = .ok (.iconst 0, 1) := by decide +kernel
theorem dX8_isGuardedNow_65 : decode cX8_isGuardedNow 65 = .ok (.istore_n 2, 1) := by decide +kernel
theorem dX8_isGuardedNow_66 : decode cX8_isGuardedNow 66 = .ok (.iinc 3 1, 3) := by decide +kernel
theorem dX8_isGuardedNow_69 : decode cX8_isGuardedNow 69 = .ok (.goto (-30), 3) := by decide +kernel
theorem dX8_isGuardedNow_72 : decode cX8_isGuardedNow 72 = .ok (.iload_n 2, 1) := by decide +kernel
theorem dX8_isGuardedNow_73 : decode cX8_isGuardedNow 73 = .ok (.ifCond .eq 18, 3) := by decide +kernel
theorem dX8_isGuardedNow_76 : decode cX8_isGuardedNow 76 = .ok (.aload_n 0, 1) := by decide +kernel
theorem dX8_isGuardedNow_77 : decode cX8_isGuardedNow 77 = .ok (.getfield 25, 3) := by decide +kernel
theorem dX8_isGuardedNow_80 : decode cX8_isGuardedNow 80 = .ok (.iload_n 1, 1) := by decide +kernel
theorem dX8_isGuardedNow_81 : decode cX8_isGuardedNow 81 = .ok (.caload, 1) := by decide +kernel
theorem dX8_isGuardedNow_82 : decode cX8_isGuardedNow 82 = .ok (.bipush 100, 2) := by decide +kernel
theorem dX8_isGuardedNow_84 : decode cX8_isGuardedNow 84 = .ok (.if_icmp .eq 7, 3) := by decide +kernel
theorem dX8_isGuardedNow_87 : decode cX8_isGuardedNow 87 = .ok (.iconst 1, 1) := by decide +kernel
theorem dX8_isGuardedNow_88 : decode cX8_isGuardedNow 88 = .ok (.goto 4, 3) := by decide +kernel
theorem dX8_isGuardedNow_91 : decode cX8_isGuardedNow 91 = .ok (.iconst 0, 1) := by decide +kernel
theorem dX8_isGuardedNow_92 : decode cX8_isGuardedNow 92 = .ok (.ireturn, 1) := by decide +kernel
theorem dX8_keptNow_0 : decode cX8_keptNow 0 = .ok (.iconst 0, 1) := by decide +kernel
theorem dX8_keptNow_1 : decode cX8_keptNow 1 = .ok (.istore_n 2, 1) := by decide +kernel
theorem dX8_keptNow_2 : decode cX8_keptNow 2 = .ok (.iconst 0, 1) := by decide +kernel
theorem dX8_keptNow_3 : decode cX8_keptNow 3 = .ok (.istore_n 3, 1) := by decide +kernel
theorem dX8_keptNow_4 : decode cX8_keptNow 4 = .ok (.iload_n 3, 1) := by decide +kernel
theorem dX8_keptNow_5 : decode cX8_keptNow 5 = .ok (.aload_n 0, 1) := by decide +kernel
theorem dX8_keptNow_6 : decode cX8_keptNow 6 = .ok (.getfield 104, 3) := by decide +kernel
theorem dX8_keptNow_9 : decode cX8_keptNow 9 = .ok (.if_icmp .ge 43, 3) := by decide +kernel
theorem dX8_keptNow_12 : decode cX8_keptNow 12 = .ok (.iload_n 2, 1) := by decide +kernel
theorem dX8_keptNow_13 : decode cX8_keptNow 13 = .ok (.aload_n 0, 1) := by decide +kernel
theorem dX8_keptNow_14 : decode cX8_keptNow 14 = .ok (.getfield 7, 3) := by decide +kernel
theorem dX8_keptNow_17 : decode cX8_keptNow 17 = .ok (.iload_n 3, 1) := by decide +kernel
theorem dX8_keptNow_18 : decode cX8_keptNow 18 = .ok (.iaload, 1) := by decide +kernel
theorem dX8_keptNow_19 : decode cX8_keptNow 19 = .ok (.iload_n 1, 1) := by decide +kernel
theorem dX8_keptNow_20 : decode cX8_keptNow 20 = .ok (.if_icmp .ne 23, 3) := by decide +kernel
theorem dX8_keptNow_23 : decode cX8_keptNow 23 = .ok (.aload_n 0, 1) := by decide +kernel
theorem dX8_keptNow_24 : decode cX8_keptNow 24 = .ok (.getfield 25, 3) := by decide +kernel
theorem dX8_keptNow_27 : decode cX8_keptNow 27 = .ok (.iload_n 3, 1) := by decide +kernel
theorem dX8_keptNow_28 : decode cX8_keptNow 28 = .ok (.caload, 1) := by decide +kernel
theorem dX8_keptNow_29 : decode cX8_keptNow 29 = .ok (.bipush 107, 2) := by decide +kernel
theorem dX8_keptNow_31 : decode cX8_keptNow 31 = .ok (.if_icmp .ne 12, 3) := by decide +kernel
theorem dX8_keptNow_34 : decode cX8_keptNow 34 = .ok (.aload_n 0, 1) := by decide +kernel
theorem dX8_keptNow_35 : decode cX8_keptNow 35 = .ok (.getfield 19, 3) := by decide +kernel
theorem dX8_keptNow_38 : decode cX8_keptNow 38 = .ok (.iload_n 3, 1) := by decide +kernel
theorem dX8_keptNow_39 : decode cX8_keptNow 39 = .ok (.iaload, 1) := by decide +kernel
theorem dX8_keptNow_40 : decode cX8_keptNow 40 = .ok (.goto 4, 3) := by decide +kernel
theorem dX8_keptNow_43 : decode cX8_keptNow 43 = .ok (.iconst 0, 1) := by decide +kernel
theorem dX8_keptNow_44 : decode cX8_keptNow 44 = .ok (.iadd, 1) := by decide +kernel
theorem dX8_keptNow_45 : decode cX8_keptNow 45 = .ok (.istore_n 2, 1) := by decide +kernel
theorem dX8_keptNow_46 : decode cX8_keptNow 46 = .ok (.iinc 3 1, 3) := by decide +kernel
theorem dX8_keptNow_49 : decode cX8_keptNow 49 = .ok (.goto (-45), 3) := by decide +kernel
theorem dX8_keptNow_52 : decode cX8_keptNow 52 = .ok (.iload_n 2, 1) := by decide +kernel
theorem dX8_keptNow_53 : decode cX8_keptNow 53 = .ok (.ireturn, 1) := by decide +kernel
set_option maxRecDepth 20000 in
theorem ggX8_drops_X8_keptNow : GoodIn wsX8_drops wsX8_keptNow := goodIn_ca (goodIn_r _ [10, 2, 3, 4, 11, 36, 37, 38, 39, 40, 41, 42, 43, 44, 45, 46, 47, 48, 49, 50, 51, 52, 53, 54, 55, 56, 57, 58, 59, 60, 61, 62, 63, 64, 65, 66, 67, 68, 69, 70, 71] (by decide +kernel) (by decide +kernel)) (goodIn_sub (fun _ h => List.mem_cons_of_mem _ (List.mem_append_right _ h)) (by decide +kernel))
set_option maxRecDepth 20000 in
theorem gX8_drops_X8_keptNow : GoodIn wsX8_drops (wsV RX8 145 RX8 yX8_keptNow wsX8_keptNow) := goodIn_app (goodIn_of _ (by decide +kernel)) ggX8_drops_X8_keptNow
set_option maxRecDepth 20000 in
theorem ggX8_drops_X8_isGuardedNow : GoodIn wsX8_drops wsX8_isGuardedNow := goodIn_ca (goodIn_r _ [15, 16, 17, 4, 18, 19, 20, 9, 21, 3, 22, 5, 23, 24, 25, 26, 27, 28, 29, 30, 31, 32, 33, 34, 35, 36, 37, 38, 39, 40, 41, 42, 43, 44, 45, 46, 47, 48, 49, 50, 51, 52, 53, 54, 55, 56, 57, 58, 59, 60, 61, 62, 63, 64, 65, 66, 67, 68, 69, 70, 71] (by decide +kernel) (by decide +kernel)) (goodIn_sub (fun _ h => List.mem_cons_of_mem _ (List.mem_append_right _ h)) (by decide +kernel))
set_option maxRecDepth 20000 in
theorem gX8_drops_X8_isGuardedNow : GoodIn wsX8_drops (wsV RX8 148 RX8 yX8_isGuardedNow wsX8_isGuardedNow) := goodIn_app (goodIn_of _ (by decide +kernel)) ggX8_drops_X8_isGuardedNow
theorem dX8_drops_0 : decode cX8_drops 0 = .ok (.iconst 0, 1) := by decide +kernel
theorem dX8_drops_1 : decode cX8_drops 1 = .ok (.istore_n 2, 1) := by decide +kernel
theorem dX8_drops_2 : decode cX8_drops 2 = .ok (.iconst 1, 1) := by decide +kernel
theorem dX8_drops_3 : decode cX8_drops 3 = .ok (.istore_n 3, 1) := by decide +kernel
theorem dX8_drops_4 : decode cX8_drops 4 = .ok (.iload_n 3, 1) := by decide +kernel
theorem dX8_drops_5 : decode cX8_drops 5 = .ok (.ifCond .eq 145, 3) := by decide +kernel
theorem dX8_drops_8 : decode cX8_drops 8 = .ok (.aload_n 0, 1) := by decide +kernel
theorem dX8_drops_9 : decode cX8_drops 9 = .ok (.iload_n 1, 1) := by decide +kernel
theorem dX8_drops_10 : decode cX8_drops 10 = .ok (.invokevirtual 145, 3) := by decide +kernel
theorem dX8_drops_13 : decode cX8_drops 13 = .ok (.aload_n 0, 1) := by decide +kernel
theorem dX8_drops_14 : decode cX8_drops 14 = .ok (.getfield 85, 3) := by decide +kernel
theorem dX8_drops_17 : decode cX8_drops 17 = .ok (.iload_n 1, 1) := by decide +kernel
theorem dX8_drops_18 : decode cX8_drops 18 = .ok (.iaload, 1) := by decide +kernel
theorem dX8_drops_19 : decode cX8_drops 19 = .ok (.if_icmp .le 131, 3) := by decide +kernel
theorem dX8_drops_22 : decode cX8_drops 22 = .ok (.iconst (-1), 1) := by decide +kernel
theorem dX8_drops_23 : decode cX8_drops 23 = .ok (.istore 4, 2) := by decide +kernel
theorem dX8_drops_25 : decode cX8_drops 25 = .ok (.iconst 0, 1) := by decide +kernel
theorem dX8_drops_26 : decode cX8_drops 26 = .ok (.istore 5, 2) := by decide +kernel
theorem dX8_drops_28 : decode cX8_drops 28 = .ok (.iload 5, 2) := by decide +kernel
theorem dX8_drops_30 : decode cX8_drops 30 = .ok (.aload_n 0, 1) := by decide +kernel
theorem dX8_drops_31 : decode cX8_drops 31 = .ok (.getfield 104, 3) := by decide +kernel
theorem dX8_drops_34 : decode cX8_drops 34 = .ok (.if_icmp .ge 85, 3) := by decide +kernel
theorem dX8_drops_37 : decode cX8_drops 37 = .ok (.aload_n 0, 1) := by decide +kernel
theorem dX8_drops_38 : decode cX8_drops 38 = .ok (.getfield 7, 3) := by decide +kernel
theorem dX8_drops_41 : decode cX8_drops 41 = .ok (.iload 5, 2) := by decide +kernel
theorem dX8_drops_43 : decode cX8_drops 43 = .ok (.iaload, 1) := by decide +kernel
theorem dX8_drops_44 : decode cX8_drops 44 = .ok (.iload_n 1, 1) := by decide +kernel
theorem dX8_drops_45 : decode cX8_drops 45 = .ok (.if_icmp .ne 42, 3) := by decide +kernel
theorem dX8_drops_48 : decode cX8_drops 48 = .ok (.aload_n 0, 1) := by decide +kernel
theorem dX8_drops_49 : decode cX8_drops 49 = .ok (.getfield 25, 3) := by decide +kernel
theorem dX8_drops_52 : decode cX8_drops 52 = .ok (.iload 5, 2) := by decide +kernel
theorem dX8_drops_54 : decode cX8_drops 54 = .ok (.caload, 1) := by decide +kernel
theorem dX8_drops_55 : decode cX8_drops 55 = .ok (.bipush 107, 2) := by decide +kernel
theorem dX8_drops_57 : decode cX8_drops 57 = .ok (.if_icmp .ne 30, 3) := by decide +kernel
theorem dX8_drops_60 : decode cX8_drops 60 = .ok (.iload 4, 2) := by decide +kernel
theorem dX8_drops_62 : decode cX8_drops 62 = .ok (.iconst (-1), 1) := by decide +kernel
theorem dX8_drops_63 : decode cX8_drops 63 = .ok (.if_icmp .eq 20, 3) := by decide +kernel
theorem dX8_drops_66 : decode cX8_drops 66 = .ok (.aload_n 0, 1) := by decide +kernel
theorem dX8_drops_67 : decode cX8_drops 67 = .ok (.getfield 13, 3) := by decide +kernel
theorem dX8_drops_70 : decode cX8_drops 70 = .ok (.iload 5, 2) := by decide +kernel
theorem dX8_drops_72 : decode cX8_drops 72 = .ok (.iaload, 1) := by decide +kernel
theorem dX8_drops_73 : decode cX8_drops 73 = .ok (.aload_n 0, 1) := by decide +kernel
theorem dX8_drops_74 : decode cX8_drops 74 = .ok (.getfield 13, 3) := by decide +kernel
theorem dX8_drops_77 : decode cX8_drops 77 = .ok (.iload 4, 2) := by decide +kernel
theorem dX8_drops_79 : decode cX8_drops 79 = .ok (.iaload, 1) := by decide +kernel
theorem dX8_drops_80 : decode cX8_drops 80 = .ok (.if_icmp .ge 7, 3) := by decide +kernel
theorem dX8_drops_83 : decode cX8_drops 83 = .ok (.iconst 1, 1) := by decide +kernel
theorem dX8_drops_84 : decode cX8_drops 84 = .ok (.goto 4, 3) := by decide +kernel
theorem dX8_drops_87 : decode cX8_drops 87 = .ok (.iconst 0, 1) := by decide +kernel
theorem dX8_drops_88 : decode cX8_drops 88 = .ok (.istore 6, 2) := by decide +kernel
theorem dX8_drops_90 : decode cX8_drops 90 = .ok (.iload 6, 2) := by decide +kernel
theorem dX8_drops_92 : decode cX8_drops 92 = .ok (.ifCond .eq 17, 3) := by decide +kernel
theorem dX8_drops_95 : decode cX8_drops 95 = .ok (.aload_n 0, 1) := by decide +kernel
theorem dX8_drops_96 : decode cX8_drops 96 = .ok (.iload 5, 2) := by decide +kernel
theorem dX8_drops_98 : decode cX8_drops 98 = .ok (.invokevirtual 148, 3) := by decide +kernel
theorem dX8_drops_101 : decode cX8_drops 101 = .ok (.ifCond .ne 8, 3) := by decide +kernel
theorem dX8_drops_104 : decode cX8_drops 104 = .ok (.iload 5, 2) := by decide +kernel
theorem dX8_drops_106 : decode cX8_drops 106 = .ok (.goto 5, 3) := by decide +kernel
theorem dX8_drops_109 : decode cX8_drops 109 = .ok (.iload 4, 2) := by decide +kernel
theorem dX8_drops_111 : decode cX8_drops 111 = .ok (.istore 4, 2) := by decide +kernel
theorem dX8_drops_113 : decode cX8_drops 113 = .ok (.iinc 5 1, 3) := by decide +kernel
theorem dX8_drops_116 : decode cX8_drops 116 = .ok (.goto (-88), 3) := by decide +kernel
theorem dX8_drops_119 : decode cX8_drops 119 = .ok (.iload 4, 2) := by decide +kernel
theorem dX8_drops_121 : decode cX8_drops 121 = .ok (.iconst (-1), 1) := by decide +kernel
theorem dX8_drops_122 : decode cX8_drops 122 = .ok (.if_icmp .eq 7, 3) := by decide +kernel
theorem dX8_drops_125 : decode cX8_drops 125 = .ok (.iconst 1, 1) := by decide +kernel
theorem dX8_drops_126 : decode cX8_drops 126 = .ok (.goto 4, 3) := by decide +kernel
theorem dX8_drops_129 : decode cX8_drops 129 = .ok (.iconst 0, 1) := by decide +kernel
theorem dX8_drops_130 : decode cX8_drops 130 = .ok (.istore_n 3, 1) := by decide +kernel
theorem dX8_drops_131 : decode cX8_drops 131 = .ok (.iload_n 3, 1) := by decide +kernel
theorem dX8_drops_132 : decode cX8_drops 132 = .ok (.ifCond .eq 15, 3) := by decide +kernel
theorem dX8_drops_135 : decode cX8_drops 135 = .ok (.aload_n 0, 1) := by decide +kernel
theorem dX8_drops_136 : decode cX8_drops 136 = .ok (.getfield 25, 3) := by decide +kernel
theorem dX8_drops_139 : decode cX8_drops 139 = .ok (.iload 4, 2) := by decide +kernel
theorem dX8_drops_141 : decode cX8_drops 141 = .ok (.bipush 100, 2) := by decide +kernel
theorem dX8_drops_143 : decode cX8_drops 143 = .ok (.castore, 1) := by decide +kernel
theorem dX8_drops_144 : decode cX8_drops 144 = .ok (.iinc 2 1, 3) := by decide +kernel
theorem dX8_drops_147 : decode cX8_drops 147 = .ok (.goto (-143), 3) := by decide +kernel
theorem dX8_drops_150 : decode cX8_drops 150 = .ok (.iload_n 2, 1) := by decide +kernel
theorem dX8_drops_151 : decode cX8_drops 151 = .ok (.ireturn, 1) := by decide +kernel
set_option maxRecDepth 20000 in
theorem ggX8_dropsAll_X8_drops : GoodIn wsX8_dropsAll wsX8_drops := goodIn_ca (goodIn_r _ [5, 6, 7, 8, 9, 10, 11, 12, 13, 4, 14, 15, 16, 17, 18, 19, 20, 21, 22, 23, 24, 25, 26, 27, 28, 29, 30, 31, 32, 33, 34, 35, 36, 37, 38, 39, 40, 41, 42, 43, 44, 45, 46, 47, 48, 49, 50, 51, 52, 53, 54, 55, 56, 57, 58, 59, 60, 61, 62, 63, 64, 65, 66, 67, 68, 69, 70, 71, 72, 73, 74, 75] (by decide +kernel) (by decide +kernel)) (goodIn_sub (fun _ h => List.mem_cons_of_mem _ (List.mem_append_right _ h)) (by decide +kernel))
set_option maxRecDepth 20000 in
theorem gX8_dropsAll_X8_drops : GoodIn wsX8_dropsAll (wsV RX8 151 RX8 yX8_drops wsX8_drops) := goodIn_app (goodIn_of _ (by decide +kernel)) ggX8_dropsAll_X8_drops
theorem dX8_dropsAll_0 : decode cX8_dropsAll 0 = .ok (.aload_n 0, 1) := by decide +kernel
theorem dX8_dropsAll_1 : decode cX8_dropsAll 1 = .ok (.iconst 0, 1) := by decide +kernel
theorem dX8_dropsAll_2 : decode cX8_dropsAll 2 = .ok (.invokevirtual 151, 3) := by decide +kernel
theorem dX8_dropsAll_5 : decode cX8_dropsAll 5 = .ok (.aload_n 0, 1) := by decide +kernel
theorem dX8_dropsAll_6 : decode cX8_dropsAll 6 = .ok (.iconst 1, 1) := by decide +kernel
theorem dX8_dropsAll_7 : decode cX8_dropsAll 7 = .ok (.invokevirtual 151, 3) := by decide +kernel
theorem dX8_dropsAll_10 : decode cX8_dropsAll 10 = .ok (.iadd, 1) := by decide +kernel
theorem dX8_dropsAll_11 : decode cX8_dropsAll 11 = .ok (.aload_n 0, 1) := by decide +kernel
theorem dX8_dropsAll_12 : decode cX8_dropsAll 12 = .ok (.iconst 2, 1) := by decide +kernel
theorem dX8_dropsAll_13 : decode cX8_dropsAll 13 = .ok (.invokevirtual 151, 3) := by decide +kernel
theorem dX8_dropsAll_16 : decode cX8_dropsAll 16 = .ok (.iadd, 1) := by decide +kernel
theorem dX8_dropsAll_17 : decode cX8_dropsAll 17 = .ok (.aload_n 0, 1) := by decide +kernel
theorem dX8_dropsAll_18 : decode cX8_dropsAll 18 = .ok (.iconst 3, 1) := by decide +kernel
theorem dX8_dropsAll_19 : decode cX8_dropsAll 19 = .ok (.invokevirtual 151, 3) := by decide +kernel
theorem dX8_dropsAll_22 : decode cX8_dropsAll 22 = .ok (.iadd, 1) := by decide +kernel
theorem dX8_dropsAll_23 : decode cX8_dropsAll 23 = .ok (.ireturn, 1) := by decide +kernel
set_option maxRecDepth 20000 in
theorem ggX8_addLine_X8_isSource : GoodIn wsX8_addLine wsX8_isSource := goodIn_r _ [14, 15, 16, 13, 17] (by decide +kernel) (by decide +kernel)
set_option maxRecDepth 20000 in
theorem gX8_addLine_X8_isSource : GoodIn wsX8_addLine (va_wsS RX8 154 yX8_isSource wsX8_isSource) := goodIn_app (goodIn_of _ (by decide +kernel)) ggX8_addLine_X8_isSource
set_option maxRecDepth 20000 in
theorem ggX8_addLine_X8_isRank : GoodIn wsX8_addLine wsX8_isRank := goodIn_r _ [20, 15, 16, 13, 17] (by decide +kernel) (by decide +kernel)
set_option maxRecDepth 20000 in
theorem gX8_addLine_X8_isRank : GoodIn wsX8_addLine (va_wsS RX8 157 yX8_isRank wsX8_isRank) := goodIn_app (goodIn_of _ (by decide +kernel)) ggX8_addLine_X8_isRank
set_option maxRecDepth 20000 in
theorem ggX8_addLine_X8_in : GoodIn wsX8_addLine wsX8_in := goodIn_r _ [17] (by decide +kernel) (by decide +kernel)
set_option maxRecDepth 20000 in
theorem gX8_addLine_X8_in : GoodIn wsX8_addLine (va_wsS RX8 107 yX8_in wsX8_in) := goodIn_app (goodIn_of _ (by decide +kernel)) ggX8_addLine_X8_in
set_option maxRecDepth 20000 in
theorem ggX8_addLine_X8_fails : GoodIn wsX8_addLine wsX8_fails := goodIn_r _ [24, 1, 90, 91, 92, 93, 94, 95, 96, 97, 98, 99, 100, 101, 102, 103, 104, 105, 106, 107, 108, 109, 110, 111, 112, 113, 114, 115, 116, 117, 118, 119, 120, 121, 122, 123, 124, 125] (by decide +kernel) (by decide +kernel)
set_option maxRecDepth 20000 in
theorem gX8_addLine_X8_fails : GoodIn wsX8_addLine (wsV RX8 160 RX8 yX8_fails wsX8_fails) := goodIn_app (goodIn_of _ (by decide +kernel)) ggX8_addLine_X8_fails
set_option maxRecDepth 20000 in
theorem ggX8_addLine_X8_read : GoodIn wsX8_addLine wsX8_read := goodIn_ca (goodIn_r _ [28, 29, 30, 31, 3, 32, 5, 33, 34, 35, 36, 13, 37, 38, 39, 40, 41, 2, 42, 43, 44, 45, 90, 91, 92, 93, 94, 95, 96, 97, 98, 99, 100, 101, 102, 103, 104, 105, 106, 107, 108, 109, 110, 111, 112, 113, 114, 115, 116, 117, 118, 119, 120, 121, 122, 123, 124, 125] (by decide +kernel) (by decide +kernel)) (goodIn_sub (fun _ h => List.mem_cons_of_mem _ (List.mem_append_right _ h)) (by decide +kernel))
set_option maxRecDepth 20000 in
theorem gX8_addLine_X8_read : GoodIn wsX8_addLine (wsV RX8 164 RX8 yX8_read wsX8_read) := goodIn_app (goodIn_of _ (by decide +kernel)) ggX8_addLine_X8_read
set_option maxRecDepth 20000 in
theorem ggX8_addLine_X8_look : GoodIn wsX8_addLine wsX8_look := goodIn_ca (goodIn_r _ [49, 50, 51, 52, 53, 54, 55, 56, 57, 8, 2, 58, 59, 60, 61, 13, 62, 63, 64, 65, 66, 9, 3, 67, 4, 68, 7, 69, 70, 5, 71, 90, 91, 92, 93, 94, 95, 96, 97, 98, 99, 100, 101, 102, 103, 104, 105, 106, 107, 108, 109, 110, 111, 112, 113, 114, 115, 116, 117, 118, 119, 120, 121, 122, 123, 124, 125] (by decide +kernel) (by decide +kernel)) (goodIn_sub (fun _ h => List.mem_cons_of_mem _ (List.mem_append_right _ h)) (by decide +kernel))
set_option maxRecDepth 20000 in
theorem gX8_addLine_X8_look : GoodIn wsX8_addLine (wsV RX8 168 RX8 yX8_look wsX8_look) := goodIn_app (goodIn_of _ (by decide +kernel)) ggX8_addLine_X8_look
set_option maxRecDepth 20000 in
theorem ggX8_addLine_X8_drops : GoodIn wsX8_addLine wsX8_drops := goodIn_ca (goodIn_r _ [75, 76, 2, 3, 9, 4, 77, 78, 79, 13, 80, 6, 81, 82, 83, 84, 10, 55, 63, 64, 65, 66, 67, 68, 8, 7, 69, 70, 5, 71, 85, 86, 87, 88, 89, 58, 90, 91, 92, 93, 94, 95, 96, 97, 98, 99, 100, 101, 102, 103, 104, 105, 106, 107, 108, 109, 110, 111, 112, 113, 114, 115, 116, 117, 118, 119, 120, 121, 122, 123, 124, 125] (by decide +kernel) (by decide +kernel)) (goodIn_sub (fun _ h => List.mem_cons_of_mem _ (List.mem_append_right _ h)) (by decide +kernel))
set_option maxRecDepth 20000 in
theorem gX8_addLine_X8_drops : GoodIn wsX8_addLine (wsV RX8 151 RX8 yX8_drops wsX8_drops) := goodIn_app (goodIn_of _ (by decide +kernel)) ggX8_addLine_X8_drops
theorem dX8_addLine_0 : decode cX8_addLine 0 = .ok (.aload_n 0, 1) := by decide +kernel
theorem dX8_addLine_1 : decode cX8_addLine 1 = .ok (.iconst 0, 1) := by decide +kernel
theorem dX8_addLine_2 : decode cX8_addLine 2 = .ok (.putfield 100, 3) := by decide +kernel
theorem dX8_addLine_5 : decode cX8_addLine 5 = .ok (.iload_n 1, 1) := by decide +kernel
theorem dX8_addLine_6 : decode cX8_addLine 6 = .ok (.invokestatic 154, 3) := by decide +kernel
theorem dX8_addLine_9 : decode cX8_addLine 9 = .ok (.ifCond .eq 57, 3) := by decide +kernel
theorem dX8_addLine_12 : decode cX8_addLine 12 = .ok (.iload_n 2, 1) := by decide +kernel
theorem dX8_addLine_13 : decode cX8_addLine 13 = .ok (.invokestatic 157, 3) := by decide +kernel
theorem dX8_addLine_16 : decode cX8_addLine 16 = .ok (.ifCond .eq 50, 3) := by decide +kernel
theorem dX8_addLine_19 : decode cX8_addLine 19 = .ok (.iload_n 3, 1) := by decide +kernel
theorem dX8_addLine_20 : decode cX8_addLine 20 = .ok (.iconst 0, 1) := by decide +kernel
theorem dX8_addLine_21 : decode cX8_addLine 21 = .ok (.bipush 99, 2) := by decide +kernel
theorem dX8_addLine_23 : decode cX8_addLine 23 = .ok (.invokestatic 107, 3) := by decide +kernel
theorem dX8_addLine_26 : decode cX8_addLine 26 = .ok (.ifCond .eq 40, 3) := by decide +kernel
theorem dX8_addLine_29 : decode cX8_addLine 29 = .ok (.iload 4, 2) := by decide +kernel
theorem dX8_addLine_31 : decode cX8_addLine 31 = .ok (.iconst 0, 1) := by decide +kernel
theorem dX8_addLine_32 : decode cX8_addLine 32 = .ok (.bipush 99, 2) := by decide +kernel
theorem dX8_addLine_34 : decode cX8_addLine 34 = .ok (.invokestatic 107, 3) := by decide +kernel
theorem dX8_addLine_37 : decode cX8_addLine 37 = .ok (.ifCond .eq 29, 3) := by decide +kernel
theorem dX8_addLine_40 : decode cX8_addLine 40 = .ok (.iload 5, 2) := by decide +kernel
theorem dX8_addLine_42 : decode cX8_addLine 42 = .ok (.iconst 0, 1) := by decide +kernel
theorem dX8_addLine_43 : decode cX8_addLine 43 = .ok (.bipush 99, 2) := by decide +kernel
theorem dX8_addLine_45 : decode cX8_addLine 45 = .ok (.invokestatic 107, 3) := by decide +kernel
theorem dX8_addLine_48 : decode cX8_addLine 48 = .ok (.ifCond .eq 18, 3) := by decide +kernel
theorem dX8_addLine_51 : decode cX8_addLine 51 = .ok (.iload 6, 2) := by decide +kernel
theorem dX8_addLine_53 : decode cX8_addLine 53 = .ok (.iconst 1, 1) := by decide +kernel
theorem dX8_addLine_54 : decode cX8_addLine 54 = .ok (.bipush 99, 2) := by decide +kernel
theorem dX8_addLine_56 : decode cX8_addLine 56 = .ok (.invokestatic 107, 3) := by decide +kernel
theorem dX8_addLine_59 : decode cX8_addLine 59 = .ok (.ifCond .eq 7, 3) := by decide +kernel
theorem dX8_addLine_62 : decode cX8_addLine 62 = .ok (.iconst 1, 1) := by decide +kernel
theorem dX8_addLine_63 : decode cX8_addLine 63 = .ok (.goto 4, 3) := by decide +kernel
theorem dX8_addLine_66 : decode cX8_addLine 66 = .ok (.iconst 0, 1) := by decide +kernel
theorem dX8_addLine_67 : decode cX8_addLine 67 = .ok (.istore 7, 2) := by decide +kernel
theorem dX8_addLine_69 : decode cX8_addLine 69 = .ok (.aload_n 0, 1) := by decide +kernel
theorem dX8_addLine_70 : decode cX8_addLine 70 = .ok (.iload 7, 2) := by decide +kernel
theorem dX8_addLine_72 : decode cX8_addLine 72 = .ok (.ifCond .ne 7, 3) := by decide +kernel
theorem dX8_addLine_75 : decode cX8_addLine 75 = .ok (.iconst 1, 1) := by decide +kernel
theorem dX8_addLine_76 : decode cX8_addLine 76 = .ok (.goto 4, 3) := by decide +kernel
theorem dX8_addLine_79 : decode cX8_addLine 79 = .ok (.iconst 0, 1) := by decide +kernel
theorem dX8_addLine_80 : decode cX8_addLine 80 = .ok (.iconst 1, 1) := by decide +kernel
theorem dX8_addLine_81 : decode cX8_addLine 81 = .ok (.invokevirtual 160, 3) := by decide +kernel
theorem dX8_addLine_84 : decode cX8_addLine 84 = .ok (.ifCond .ne 26, 3) := by decide +kernel
theorem dX8_addLine_87 : decode cX8_addLine 87 = .ok (.aload_n 0, 1) := by decide +kernel
theorem dX8_addLine_88 : decode cX8_addLine 88 = .ok (.aload_n 0, 1) := by decide +kernel
theorem dX8_addLine_89 : decode cX8_addLine 89 = .ok (.getfield 104, 3) := by decide +kernel
theorem dX8_addLine_92 : decode cX8_addLine 92 = .ok (.sipush 200, 3) := by decide +kernel
theorem dX8_addLine_95 : decode cX8_addLine 95 = .ok (.if_icmp .ne 7, 3) := by decide +kernel
theorem dX8_addLine_98 : decode cX8_addLine 98 = .ok (.iconst 1, 1) := by decide +kernel
theorem dX8_addLine_99 : decode cX8_addLine 99 = .ok (.goto 4, 3) := by decide +kernel
theorem dX8_addLine_102 : decode cX8_addLine 102 = .ok (.iconst 0, 1) := by decide +kernel
theorem dX8_addLine_103 : decode cX8_addLine 103 = .ok (.iconst 2, 1) := by decide +kernel
theorem dX8_addLine_104 : decode cX8_addLine 104 = .ok (.invokevirtual 160, 3) := by decide +kernel
theorem dX8_addLine_107 : decode cX8_addLine 107 = .ok (.ifCond .eq 5, 3) := by decide +kernel
theorem dX8_addLine_110 : decode cX8_addLine 110 = .ok (.iconst 0, 1) := by decide +kernel
theorem dX8_addLine_111 : decode cX8_addLine 111 = .ok (.ireturn, 1) := by decide +kernel
theorem dX8_addLine_112 : decode cX8_addLine 112 = .ok (.aload_n 0, 1) := by decide +kernel
theorem dX8_addLine_113 : decode cX8_addLine 113 = .ok (.getfield 104, 3) := by decide +kernel
theorem dX8_addLine_116 : decode cX8_addLine 116 = .ok (.istore 8, 2) := by decide +kernel
theorem dX8_addLine_118 : decode cX8_addLine 118 = .ok (.aload_n 0, 1) := by decide +kernel
theorem dX8_addLine_119 : decode cX8_addLine 119 = .ok (.getfield 7, 3) := by decide +kernel
theorem dX8_addLine_122 : decode cX8_addLine 122 = .ok (.iload 8, 2) := by decide +kernel
theorem dX8_addLine_124 : decode cX8_addLine 124 = .ok (.iload_n 1, 1) := by decide +kernel
theorem dX8_addLine_125 : decode cX8_addLine 125 = .ok (.iastore, 1) := by decide +kernel
theorem dX8_addLine_126 : decode cX8_addLine 126 = .ok (.aload_n 0, 1) := by decide +kernel
theorem dX8_addLine_127 : decode cX8_addLine 127 = .ok (.getfield 13, 3) := by decide +kernel
theorem dX8_addLine_130 : decode cX8_addLine 130 = .ok (.iload 8, 2) := by decide +kernel
theorem dX8_addLine_132 : decode cX8_addLine 132 = .ok (.iload_n 2, 1) := by decide +kernel
theorem dX8_addLine_133 : decode cX8_addLine 133 = .ok (.iastore, 1) := by decide +kernel
theorem dX8_addLine_134 : decode cX8_addLine 134 = .ok (.aload_n 0, 1) := by decide +kernel
theorem dX8_addLine_135 : decode cX8_addLine 135 = .ok (.getfield 16, 3) := by decide +kernel
theorem dX8_addLine_138 : decode cX8_addLine 138 = .ok (.iconst 3, 1) := by decide +kernel
theorem dX8_addLine_139 : decode cX8_addLine 139 = .ok (.iload 8, 2) := by decide +kernel
theorem dX8_addLine_141 : decode cX8_addLine 141 = .ok (.imul, 1) := by decide +kernel
theorem dX8_addLine_142 : decode cX8_addLine 142 = .ok (.iload_n 3, 1) := by decide +kernel
theorem dX8_addLine_143 : decode cX8_addLine 143 = .ok (.iastore, 1) := by decide +kernel
theorem dX8_addLine_144 : decode cX8_addLine 144 = .ok (.aload_n 0, 1) := by decide +kernel
theorem dX8_addLine_145 : decode cX8_addLine 145 = .ok (.getfield 16, 3) := by decide +kernel
theorem dX8_addLine_148 : decode cX8_addLine 148 = .ok (.iconst 3, 1) := by decide +kernel
theorem dX8_addLine_149 : decode cX8_addLine 149 = .ok (.iload 8, 2) := by decide +kernel
theorem dX8_addLine_151 : decode cX8_addLine 151 = .ok (.imul, 1) := by decide +kernel
theorem dX8_addLine_152 : decode cX8_addLine 152 = .ok (.iconst 1, 1) := by decide +kernel
theorem dX8_addLine_153 : decode cX8_addLine 153 = .ok (.iadd, 1) := by decide +kernel
theorem dX8_addLine_154 : decode cX8_addLine 154 = .ok (.iload 4, 2) := by decide +kernel
theorem dX8_addLine_156 : decode cX8_addLine 156 = .ok (.iastore, 1) := by decide +kernel
theorem dX8_addLine_157 : decode cX8_addLine 157 = .ok (.aload_n 0, 1) := by decide +kernel
theorem dX8_addLine_158 : decode cX8_addLine 158 = .ok (.getfield 16, 3) := by decide +kernel
theorem dX8_addLine_161 : decode cX8_addLine 161 = .ok (.iconst 3, 1) := by decide +kernel
theorem dX8_addLine_162 : decode cX8_addLine 162 = .ok (.iload 8, 2) := by decide +kernel
theorem dX8_addLine_164 : decode cX8_addLine 164 = .ok (.imul, 1) := by decide +kernel
theorem dX8_addLine_165 : decode cX8_addLine 165 = .ok (.iconst 2, 1) := by decide +kernel
theorem dX8_addLine_166 : decode cX8_addLine 166 = .ok (.iadd, 1) := by decide +kernel
theorem dX8_addLine_167 : decode cX8_addLine 167 = .ok (.iload 5, 2) := by decide +kernel
theorem dX8_addLine_169 : decode cX8_addLine 169 = .ok (.iastore, 1) := by decide +kernel
theorem dX8_addLine_170 : decode cX8_addLine 170 = .ok (.aload_n 0, 1) := by decide +kernel
theorem dX8_addLine_171 : decode cX8_addLine 171 = .ok (.getfield 19, 3) := by decide +kernel
theorem dX8_addLine_174 : decode cX8_addLine 174 = .ok (.iload 8, 2) := by decide +kernel
theorem dX8_addLine_176 : decode cX8_addLine 176 = .ok (.iload 6, 2) := by decide +kernel
theorem dX8_addLine_178 : decode cX8_addLine 178 = .ok (.iastore, 1) := by decide +kernel
theorem dX8_addLine_179 : decode cX8_addLine 179 = .ok (.aload_n 0, 1) := by decide +kernel
theorem dX8_addLine_180 : decode cX8_addLine 180 = .ok (.getfield 22, 3) := by decide +kernel
theorem dX8_addLine_183 : decode cX8_addLine 183 = .ok (.iload 8, 2) := by decide +kernel
theorem dX8_addLine_185 : decode cX8_addLine 185 = .ok (.aload_n 0, 1) := by decide +kernel
theorem dX8_addLine_186 : decode cX8_addLine 186 = .ok (.getfield 132, 3) := by decide +kernel
theorem dX8_addLine_189 : decode cX8_addLine 189 = .ok (.iastore, 1) := by decide +kernel
theorem dX8_addLine_190 : decode cX8_addLine 190 = .ok (.aload_n 0, 1) := by decide +kernel
theorem dX8_addLine_191 : decode cX8_addLine 191 = .ok (.getfield 25, 3) := by decide +kernel
theorem dX8_addLine_194 : decode cX8_addLine 194 = .ok (.iload 8, 2) := by decide +kernel
theorem dX8_addLine_196 : decode cX8_addLine 196 = .ok (.bipush 107, 2) := by decide +kernel
theorem dX8_addLine_198 : decode cX8_addLine 198 = .ok (.castore, 1) := by decide +kernel
theorem dX8_addLine_199 : decode cX8_addLine 199 = .ok (.aload_n 0, 1) := by decide +kernel
theorem dX8_addLine_200 : decode cX8_addLine 200 = .ok (.dup, 1) := by decide +kernel
theorem dX8_addLine_201 : decode cX8_addLine 201 = .ok (.getfield 104, 3) := by decide +kernel
theorem dX8_addLine_204 : decode cX8_addLine 204 = .ok (.iconst 1, 1) := by decide +kernel
theorem dX8_addLine_205 : decode cX8_addLine 205 = .ok (.iadd, 1) := by decide +kernel
theorem dX8_addLine_206 : decode cX8_addLine 206 = .ok (.putfield 104, 3) := by decide +kernel
theorem dX8_addLine_209 : decode cX8_addLine 209 = .ok (.aload_n 0, 1) := by decide +kernel
theorem dX8_addLine_210 : decode cX8_addLine 210 = .ok (.iload 8, 2) := by decide +kernel
theorem dX8_addLine_212 : decode cX8_addLine 212 = .ok (.invokevirtual 164, 3) := by decide +kernel
theorem dX8_addLine_215 : decode cX8_addLine 215 = .ok (.iconst 0, 1) := by decide +kernel
theorem dX8_addLine_216 : decode cX8_addLine 216 = .ok (.istore 9, 2) := by decide +kernel
theorem dX8_addLine_218 : decode cX8_addLine 218 = .ok (.iload 9, 2) := by decide +kernel
theorem dX8_addLine_220 : decode cX8_addLine 220 = .ok (.aload_n 0, 1) := by decide +kernel
theorem dX8_addLine_221 : decode cX8_addLine 221 = .ok (.getfield 114, 3) := by decide +kernel
theorem dX8_addLine_224 : decode cX8_addLine 224 = .ok (.if_icmp .ge 15, 3) := by decide +kernel
theorem dX8_addLine_227 : decode cX8_addLine 227 = .ok (.aload_n 0, 1) := by decide +kernel
theorem dX8_addLine_228 : decode cX8_addLine 228 = .ok (.iload 9, 2) := by decide +kernel
theorem dX8_addLine_230 : decode cX8_addLine 230 = .ok (.invokevirtual 168, 3) := by decide +kernel
theorem dX8_addLine_233 : decode cX8_addLine 233 = .ok (.iinc 9 1, 3) := by decide +kernel
theorem dX8_addLine_236 : decode cX8_addLine 236 = .ok (.goto (-18), 3) := by decide +kernel
theorem dX8_addLine_239 : decode cX8_addLine 239 = .ok (.aload_n 0, 1) := by decide +kernel
theorem dX8_addLine_240 : decode cX8_addLine 240 = .ok (.iload_n 1, 1) := by decide +kernel
theorem dX8_addLine_241 : decode cX8_addLine 241 = .ok (.invokevirtual 151, 3) := by decide +kernel
theorem dX8_addLine_244 : decode cX8_addLine 244 = .ok (.pop, 1) := by decide +kernel
theorem dX8_addLine_245 : decode cX8_addLine 245 = .ok (.iload 8, 2) := by decide +kernel
theorem dX8_addLine_247 : decode cX8_addLine 247 = .ok (.ireturn, 1) := by decide +kernel
theorem dX8_lines_0 : decode cX8_lines 0 = .ok (.aload_n 0, 1) := by decide +kernel
theorem dX8_lines_1 : decode cX8_lines 1 = .ok (.iconst 0, 1) := by decide +kernel
theorem dX8_lines_2 : decode cX8_lines 2 = .ok (.putfield 100, 3) := by decide +kernel
theorem dX8_lines_5 : decode cX8_lines 5 = .ok (.aload_n 0, 1) := by decide +kernel
theorem dX8_lines_6 : decode cX8_lines 6 = .ok (.getfield 104, 3) := by decide +kernel
theorem dX8_lines_9 : decode cX8_lines 9 = .ok (.ireturn, 1) := by decide +kernel
set_option maxRecDepth 20000 in
theorem ggX8_stateOf_X8_noLine : GoodIn wsX8_stateOf wsX8_noLine := goodIn_r _ [7, 8, 9, 10, 6, 11, 16, 17, 18, 19, 20, 21, 22, 23, 24, 25, 26, 27, 28, 29, 30, 31, 32, 33, 34, 35, 36, 37, 38, 39, 40, 41, 42, 43, 44, 45, 46, 47, 48, 49, 50, 51] (by decide +kernel) (by decide +kernel)
set_option maxRecDepth 20000 in
theorem gX8_stateOf_X8_noLine : GoodIn wsX8_stateOf (wsV RX8 171 RX8 yX8_noLine wsX8_noLine) := goodIn_app (goodIn_of _ (by decide +kernel)) ggX8_stateOf_X8_noLine
set_option maxRecDepth 20000 in
theorem ggX8_stateOf_X8_fails : GoodIn wsX8_stateOf wsX8_fails := goodIn_r _ [15, 1, 16, 17, 18, 19, 20, 21, 22, 23, 24, 25, 26, 27, 28, 29, 30, 31, 32, 33, 34, 35, 36, 37, 38, 39, 40, 41, 42, 43, 44, 45, 46, 47, 48, 49, 50, 51] (by decide +kernel) (by decide +kernel)
set_option maxRecDepth 20000 in
theorem gX8_stateOf_X8_fails : GoodIn wsX8_stateOf (wsV RX8 160 RX8 yX8_fails wsX8_fails) := goodIn_app (goodIn_of _ (by decide +kernel)) ggX8_stateOf_X8_fails
theorem dX8_stateOf_0 : decode cX8_stateOf 0 = .ok (.aload_n 0, 1) := by decide +kernel
theorem dX8_stateOf_1 : decode cX8_stateOf 1 = .ok (.iconst 0, 1) := by decide +kernel
theorem dX8_stateOf_2 : decode cX8_stateOf 2 = .ok (.putfield 100, 3) := by decide +kernel
theorem dX8_stateOf_5 : decode cX8_stateOf 5 = .ok (.aload_n 0, 1) := by decide +kernel
theorem dX8_stateOf_6 : decode cX8_stateOf 6 = .ok (.aload_n 0, 1) := by decide +kernel
theorem dX8_stateOf_7 : decode cX8_stateOf 7 = .ok (.iload_n 1, 1) := by decide +kernel
theorem dX8_stateOf_8 : decode cX8_stateOf 8 = .ok (.invokevirtual 171, 3) := by decide +kernel
theorem dX8_stateOf_11 : decode cX8_stateOf 11 = .ok (.iconst 1, 1) := by decide +kernel
theorem dX8_stateOf_12 : decode cX8_stateOf 12 = .ok (.invokevirtual 160, 3) := by decide +kernel
theorem dX8_stateOf_15 : decode cX8_stateOf 15 = .ok (.ifCond .eq 7, 3) := by decide +kernel
theorem dX8_stateOf_18 : decode cX8_stateOf 18 = .ok (.iconst 0, 1) := by decide +kernel
theorem dX8_stateOf_19 : decode cX8_stateOf 19 = .ok (.goto 9, 3) := by decide +kernel
theorem dX8_stateOf_22 : decode cX8_stateOf 22 = .ok (.aload_n 0, 1) := by decide +kernel
theorem dX8_stateOf_23 : decode cX8_stateOf 23 = .ok (.getfield 25, 3) := by decide +kernel
theorem dX8_stateOf_26 : decode cX8_stateOf 26 = .ok (.iload_n 1, 1) := by decide +kernel
theorem dX8_stateOf_27 : decode cX8_stateOf 27 = .ok (.caload, 1) := by decide +kernel
theorem dX8_stateOf_28 : decode cX8_stateOf 28 = .ok (.ireturn, 1) := by decide +kernel
set_option maxRecDepth 20000 in
theorem ggX8_patternOf_X8_noLine : GoodIn wsX8_patternOf wsX8_noLine := goodIn_r _ [7, 8, 9, 10, 6, 11, 16, 17, 18, 19, 20, 21, 22, 23, 24, 25, 26, 27, 28, 29, 30, 31, 32, 33, 34, 35, 36, 37, 38, 39, 40, 41, 42, 43, 44, 45, 46, 47, 48, 49, 50, 51] (by decide +kernel) (by decide +kernel)
set_option maxRecDepth 20000 in
theorem gX8_patternOf_X8_noLine : GoodIn wsX8_patternOf (wsV RX8 171 RX8 yX8_noLine wsX8_noLine) := goodIn_app (goodIn_of _ (by decide +kernel)) ggX8_patternOf_X8_noLine
set_option maxRecDepth 20000 in
theorem ggX8_patternOf_X8_fails : GoodIn wsX8_patternOf wsX8_fails := goodIn_r _ [15, 1, 16, 17, 18, 19, 20, 21, 22, 23, 24, 25, 26, 27, 28, 29, 30, 31, 32, 33, 34, 35, 36, 37, 38, 39, 40, 41, 42, 43, 44, 45, 46, 47, 48, 49, 50, 51] (by decide +kernel) (by decide +kernel)
set_option maxRecDepth 20000 in
theorem gX8_patternOf_X8_fails : GoodIn wsX8_patternOf (wsV RX8 160 RX8 yX8_fails wsX8_fails) := goodIn_app (goodIn_of _ (by decide +kernel)) ggX8_patternOf_X8_fails
theorem dX8_patternOf_0 : decode cX8_patternOf 0 = .ok (.aload_n 0, 1) := by decide +kernel
theorem dX8_patternOf_1 : decode cX8_patternOf 1 = .ok (.iconst 0, 1) := by decide +kernel
theorem dX8_patternOf_2 : decode cX8_patternOf 2 = .ok (.putfield 100, 3) := by decide +kernel
theorem dX8_patternOf_5 : decode cX8_patternOf 5 = .ok (.aload_n 0, 1) := by decide +kernel
theorem dX8_patternOf_6 : decode cX8_patternOf 6 = .ok (.aload_n 0, 1) := by decide +kernel
theorem dX8_patternOf_7 : decode cX8_patternOf 7 = .ok (.iload_n 1, 1) := by decide +kernel
theorem dX8_patternOf_8 : decode cX8_patternOf 8 = .ok (.invokevirtual 171, 3) := by decide +kernel
theorem dX8_patternOf_11 : decode cX8_patternOf 11 = .ok (.iconst 1, 1) := by decide +kernel
theorem dX8_patternOf_12 : decode cX8_patternOf 12 = .ok (.invokevirtual 160, 3) := by decide +kernel
theorem dX8_patternOf_15 : decode cX8_patternOf 15 = .ok (.ifCond .eq 7, 3) := by decide +kernel
theorem dX8_patternOf_18 : decode cX8_patternOf 18 = .ok (.iconst 0, 1) := by decide +kernel
theorem dX8_patternOf_19 : decode cX8_patternOf 19 = .ok (.goto 9, 3) := by decide +kernel
theorem dX8_patternOf_22 : decode cX8_patternOf 22 = .ok (.aload_n 0, 1) := by decide +kernel
theorem dX8_patternOf_23 : decode cX8_patternOf 23 = .ok (.getfield 29, 3) := by decide +kernel
theorem dX8_patternOf_26 : decode cX8_patternOf 26 = .ok (.iload_n 1, 1) := by decide +kernel
theorem dX8_patternOf_27 : decode cX8_patternOf 27 = .ok (.iaload, 1) := by decide +kernel
theorem dX8_patternOf_28 : decode cX8_patternOf 28 = .ok (.ireturn, 1) := by decide +kernel
set_option maxRecDepth 20000 in
theorem ggX8_patterns_X8_isSource : GoodIn wsX8_patterns wsX8_isSource := goodIn_r _ [8, 9, 10, 7, 11] (by decide +kernel) (by decide +kernel)
set_option maxRecDepth 20000 in
theorem gX8_patterns_X8_isSource : GoodIn wsX8_patterns (va_wsS RX8 154 yX8_isSource wsX8_isSource) := goodIn_app (goodIn_of _ (by decide +kernel)) ggX8_patterns_X8_isSource
set_option maxRecDepth 20000 in
theorem ggX8_patterns_X8_fails : GoodIn wsX8_patterns wsX8_fails := goodIn_r _ [15, 1, 16, 17, 18, 19, 20, 21, 22, 23, 24, 25, 26, 27, 28, 29, 30, 31, 32, 33, 34, 35, 36, 37, 38, 39, 40, 41, 42, 43, 44, 45, 46, 47, 48, 49, 50, 51] (by decide +kernel) (by decide +kernel)
set_option maxRecDepth 20000 in
theorem gX8_patterns_X8_fails : GoodIn wsX8_patterns (wsV RX8 160 RX8 yX8_fails wsX8_fails) := goodIn_app (goodIn_of _ (by decide +kernel)) ggX8_patterns_X8_fails
theorem dX8_patterns_0 : decode cX8_patterns 0 = .ok (.aload_n 0, 1) := by decide +kernel
theorem dX8_patterns_1 : decode cX8_patterns 1 = .ok (.iconst 0, 1) := by decide +kernel
theorem dX8_patterns_2 : decode cX8_patterns 2 = .ok (.putfield 100, 3) := by decide +kernel
theorem dX8_patterns_5 : decode cX8_patterns 5 = .ok (.aload_n 0, 1) := by decide +kernel
theorem dX8_patterns_6 : decode cX8_patterns 6 = .ok (.iload_n 1, 1) := by decide +kernel
theorem dX8_patterns_7 : decode cX8_patterns 7 = .ok (.invokestatic 154, 3) := by decide +kernel
theorem dX8_patterns_10 : decode cX8_patterns 10 = .ok (.ifCond .ne 7, 3) := by decide +kernel
theorem dX8_patterns_13 : decode cX8_patterns 13 = .ok (.iconst 1, 1) := by decide +kernel
theorem dX8_patterns_14 : decode cX8_patterns 14 = .ok (.goto 4, 3) := by decide +kernel
theorem dX8_patterns_17 : decode cX8_patterns 17 = .ok (.iconst 0, 1) := by decide +kernel
theorem dX8_patterns_18 : decode cX8_patterns 18 = .ok (.iconst 1, 1) := by decide +kernel
theorem dX8_patterns_19 : decode cX8_patterns 19 = .ok (.invokevirtual 160, 3) := by decide +kernel
theorem dX8_patterns_22 : decode cX8_patterns 22 = .ok (.ifCond .eq 5, 3) := by decide +kernel
theorem dX8_patterns_25 : decode cX8_patterns 25 = .ok (.iconst 0, 1) := by decide +kernel
theorem dX8_patterns_26 : decode cX8_patterns 26 = .ok (.ireturn, 1) := by decide +kernel
theorem dX8_patterns_27 : decode cX8_patterns 27 = .ok (.iconst 0, 1) := by decide +kernel
theorem dX8_patterns_28 : decode cX8_patterns 28 = .ok (.istore_n 2, 1) := by decide +kernel
theorem dX8_patterns_29 : decode cX8_patterns 29 = .ok (.iconst 0, 1) := by decide +kernel
theorem dX8_patterns_30 : decode cX8_patterns 30 = .ok (.istore_n 3, 1) := by decide +kernel
theorem dX8_patterns_31 : decode cX8_patterns 31 = .ok (.iload_n 3, 1) := by decide +kernel
theorem dX8_patterns_32 : decode cX8_patterns 32 = .ok (.aload_n 0, 1) := by decide +kernel
theorem dX8_patterns_33 : decode cX8_patterns 33 = .ok (.getfield 111, 3) := by decide +kernel
theorem dX8_patterns_36 : decode cX8_patterns 36 = .ok (.if_icmp .ge 36, 3) := by decide +kernel
theorem dX8_patterns_39 : decode cX8_patterns 39 = .ok (.iload_n 2, 1) := by decide +kernel
theorem dX8_patterns_40 : decode cX8_patterns 40 = .ok (.aload_n 0, 1) := by decide +kernel
theorem dX8_patterns_41 : decode cX8_patterns 41 = .ok (.getfield 32, 3) := by decide +kernel
theorem dX8_patterns_44 : decode cX8_patterns 44 = .ok (.iload_n 3, 1) := by decide +kernel
theorem dX8_patterns_45 : decode cX8_patterns 45 = .ok (.iaload, 1) := by decide +kernel
theorem dX8_patterns_46 : decode cX8_patterns 46 = .ok (.iload_n 1, 1) := by decide +kernel
theorem dX8_patterns_47 : decode cX8_patterns 47 = .ok (.if_icmp .ne 16, 3) := by decide +kernel
theorem dX8_patterns_50 : decode cX8_patterns 50 = .ok (.aload_n 0, 1) := by decide +kernel
theorem dX8_patterns_51 : decode cX8_patterns 51 = .ok (.getfield 38, 3) := by decide +kernel
theorem dX8_patterns_54 : decode cX8_patterns 54 = .ok (.iload_n 3, 1) := by decide +kernel
theorem dX8_patterns_55 : decode cX8_patterns 55 = .ok (.baload, 1) := by decide +kernel
theorem dX8_patterns_56 : decode cX8_patterns 56 = .ok (.ifCond .ne 7, 3) := by decide +kernel
theorem dX8_patterns_59 : decode cX8_patterns 59 = .ok (.iconst 1, 1) := by decide +kernel
theorem dX8_patterns_60 : decode cX8_patterns 60 = .ok (.goto 4, 3) := by decide +kernel
theorem dX8_patterns_63 : decode cX8_patterns 63 = .ok (.iconst 0, 1) := by decide +kernel
theorem dX8_patterns_64 : decode cX8_patterns 64 = .ok (.iadd, 1) := by decide +kernel
theorem dX8_patterns_65 : decode cX8_patterns 65 = .ok (.istore_n 2, 1) := by decide +kernel
theorem dX8_patterns_66 : decode cX8_patterns 66 = .ok (.iinc 3 1, 3) := by decide +kernel
theorem dX8_patterns_69 : decode cX8_patterns 69 = .ok (.goto (-38), 3) := by decide +kernel
theorem dX8_patterns_72 : decode cX8_patterns 72 = .ok (.iload_n 2, 1) := by decide +kernel
theorem dX8_patterns_73 : decode cX8_patterns 73 = .ok (.ireturn, 1) := by decide +kernel
set_option maxRecDepth 20000 in
theorem ggX8_wordAt_X8_noPattern : GoodIn wsX8_wordAt wsX8_noPattern := goodIn_ca (goodIn_r _ [7, 8, 9, 10, 11, 6, 12, 17, 18, 19, 20, 21, 22, 23, 24, 25, 26, 27, 28, 29, 30, 31, 32, 33, 34, 35, 36, 37, 38, 39, 40, 41, 42, 43, 44, 45, 46, 47, 48, 49, 50, 51, 52] (by decide +kernel) (by decide +kernel)) (goodIn_sub (fun _ h => List.mem_cons_of_mem _ (List.mem_append_right _ h)) (by decide +kernel))
set_option maxRecDepth 20000 in
theorem gX8_wordAt_X8_noPattern : GoodIn wsX8_wordAt (wsV RX8 174 RX8 yX8_noPattern wsX8_noPattern) := goodIn_app (goodIn_of _ (by decide +kernel)) ggX8_wordAt_X8_noPattern
set_option maxRecDepth 20000 in
theorem ggX8_wordAt_X8_fails : GoodIn wsX8_wordAt wsX8_fails := goodIn_r _ [16, 1, 17, 18, 19, 20, 21, 22, 23, 24, 25, 26, 27, 28, 29, 30, 31, 32, 33, 34, 35, 36, 37, 38, 39, 40, 41, 42, 43, 44, 45, 46, 47, 48, 49, 50, 51, 52] (by decide +kernel) (by decide +kernel)
set_option maxRecDepth 20000 in
theorem gX8_wordAt_X8_fails : GoodIn wsX8_wordAt (wsV RX8 160 RX8 yX8_fails wsX8_fails) := goodIn_app (goodIn_of _ (by decide +kernel)) ggX8_wordAt_X8_fails
set_option maxRecDepth 20000 in
theorem ggX8_wordAt_X8_in : GoodIn wsX8_wordAt wsX8_in := goodIn_r _ [12] (by decide +kernel) (by decide +kernel)
set_option maxRecDepth 20000 in
theorem gX8_wordAt_X8_in : GoodIn wsX8_wordAt (va_wsS RX8 107 yX8_in wsX8_in) := goodIn_app (goodIn_of _ (by decide +kernel)) ggX8_wordAt_X8_in
theorem dX8_wordAt_0 : decode cX8_wordAt 0 = .ok (.aload_n 0, 1) := by decide +kernel
theorem dX8_wordAt_1 : decode cX8_wordAt 1 = .ok (.iconst 0, 1) := by decide +kernel
theorem dX8_wordAt_2 : decode cX8_wordAt 2 = .ok (.putfield 100, 3) := by decide +kernel
theorem dX8_wordAt_5 : decode cX8_wordAt 5 = .ok (.aload_n 0, 1) := by decide +kernel
theorem dX8_wordAt_6 : decode cX8_wordAt 6 = .ok (.aload_n 0, 1) := by decide +kernel
theorem dX8_wordAt_7 : decode cX8_wordAt 7 = .ok (.iload_n 1, 1) := by decide +kernel
theorem dX8_wordAt_8 : decode cX8_wordAt 8 = .ok (.invokevirtual 174, 3) := by decide +kernel
theorem dX8_wordAt_11 : decode cX8_wordAt 11 = .ok (.iconst 1, 1) := by decide +kernel
theorem dX8_wordAt_12 : decode cX8_wordAt 12 = .ok (.invokevirtual 160, 3) := by decide +kernel
theorem dX8_wordAt_15 : decode cX8_wordAt 15 = .ok (.ifCond .ne 25, 3) := by decide +kernel
theorem dX8_wordAt_18 : decode cX8_wordAt 18 = .ok (.aload_n 0, 1) := by decide +kernel
theorem dX8_wordAt_19 : decode cX8_wordAt 19 = .ok (.iload_n 2, 1) := by decide +kernel
theorem dX8_wordAt_20 : decode cX8_wordAt 20 = .ok (.iconst 0, 1) := by decide +kernel
theorem dX8_wordAt_21 : decode cX8_wordAt 21 = .ok (.iconst 2, 1) := by decide +kernel
theorem dX8_wordAt_22 : decode cX8_wordAt 22 = .ok (.invokestatic 107, 3) := by decide +kernel
theorem dX8_wordAt_25 : decode cX8_wordAt 25 = .ok (.ifCond .ne 7, 3) := by decide +kernel
theorem dX8_wordAt_28 : decode cX8_wordAt 28 = .ok (.iconst 1, 1) := by decide +kernel
theorem dX8_wordAt_29 : decode cX8_wordAt 29 = .ok (.goto 4, 3) := by decide +kernel
theorem dX8_wordAt_32 : decode cX8_wordAt 32 = .ok (.iconst 0, 1) := by decide +kernel
theorem dX8_wordAt_33 : decode cX8_wordAt 33 = .ok (.iconst 2, 1) := by decide +kernel
theorem dX8_wordAt_34 : decode cX8_wordAt 34 = .ok (.invokevirtual 160, 3) := by decide +kernel
theorem dX8_wordAt_37 : decode cX8_wordAt 37 = .ok (.ifCond .eq 7, 3) := by decide +kernel
theorem dX8_wordAt_40 : decode cX8_wordAt 40 = .ok (.iconst 0, 1) := by decide +kernel
theorem dX8_wordAt_41 : decode cX8_wordAt 41 = .ok (.goto 13, 3) := by decide +kernel
theorem dX8_wordAt_44 : decode cX8_wordAt 44 = .ok (.aload_n 0, 1) := by decide +kernel
theorem dX8_wordAt_45 : decode cX8_wordAt 45 = .ok (.getfield 35, 3) := by decide +kernel
theorem dX8_wordAt_48 : decode cX8_wordAt 48 = .ok (.iconst 3, 1) := by decide +kernel
theorem dX8_wordAt_49 : decode cX8_wordAt 49 = .ok (.iload_n 1, 1) := by decide +kernel
theorem dX8_wordAt_50 : decode cX8_wordAt 50 = .ok (.imul, 1) := by decide +kernel
theorem dX8_wordAt_51 : decode cX8_wordAt 51 = .ok (.iload_n 2, 1) := by decide +kernel
theorem dX8_wordAt_52 : decode cX8_wordAt 52 = .ok (.iadd, 1) := by decide +kernel
theorem dX8_wordAt_53 : decode cX8_wordAt 53 = .ok (.iaload, 1) := by decide +kernel
theorem dX8_wordAt_54 : decode cX8_wordAt 54 = .ok (.ireturn, 1) := by decide +kernel
set_option maxRecDepth 20000 in
theorem ggX8_linesOf_X8_noPattern : GoodIn wsX8_linesOf wsX8_noPattern := goodIn_ca (goodIn_r _ [8, 9, 10, 11, 12, 7, 13, 18, 19, 20, 21, 22, 23, 24, 25, 26, 27, 28, 29, 30, 31, 32, 33, 34, 35, 36, 37, 38, 39, 40, 41, 42, 43, 44, 45, 46, 47, 48, 49, 50, 51, 52, 53] (by decide +kernel) (by decide +kernel)) (goodIn_sub (fun _ h => List.mem_cons_of_mem _ (List.mem_append_right _ h)) (by decide +kernel))
set_option maxRecDepth 20000 in
theorem gX8_linesOf_X8_noPattern : GoodIn wsX8_linesOf (wsV RX8 174 RX8 yX8_noPattern wsX8_noPattern) := goodIn_app (goodIn_of _ (by decide +kernel)) ggX8_linesOf_X8_noPattern
set_option maxRecDepth 20000 in
theorem ggX8_linesOf_X8_fails : GoodIn wsX8_linesOf wsX8_fails := goodIn_r _ [17, 1, 18, 19, 20, 21, 22, 23, 24, 25, 26, 27, 28, 29, 30, 31, 32, 33, 34, 35, 36, 37, 38, 39, 40, 41, 42, 43, 44, 45, 46, 47, 48, 49, 50, 51, 52, 53] (by decide +kernel) (by decide +kernel)
set_option maxRecDepth 20000 in
theorem gX8_linesOf_X8_fails : GoodIn wsX8_linesOf (wsV RX8 160 RX8 yX8_fails wsX8_fails) := goodIn_app (goodIn_of _ (by decide +kernel)) ggX8_linesOf_X8_fails
theorem dX8_linesOf_0 : decode cX8_linesOf 0 = .ok (.aload_n 0, 1) := by decide +kernel
theorem dX8_linesOf_1 : decode cX8_linesOf 1 = .ok (.iconst 0, 1) := by decide +kernel
theorem dX8_linesOf_2 : decode cX8_linesOf 2 = .ok (.putfield 100, 3) := by decide +kernel
theorem dX8_linesOf_5 : decode cX8_linesOf 5 = .ok (.aload_n 0, 1) := by decide +kernel
theorem dX8_linesOf_6 : decode cX8_linesOf 6 = .ok (.aload_n 0, 1) := by decide +kernel
theorem dX8_linesOf_7 : decode cX8_linesOf 7 = .ok (.iload_n 1, 1) := by decide +kernel
theorem dX8_linesOf_8 : decode cX8_linesOf 8 = .ok (.invokevirtual 174, 3) := by decide +kernel
theorem dX8_linesOf_11 : decode cX8_linesOf 11 = .ok (.iconst 1, 1) := by decide +kernel
theorem dX8_linesOf_12 : decode cX8_linesOf 12 = .ok (.invokevirtual 160, 3) := by decide +kernel
theorem dX8_linesOf_15 : decode cX8_linesOf 15 = .ok (.ifCond .eq 5, 3) := by decide +kernel
theorem dX8_linesOf_18 : decode cX8_linesOf 18 = .ok (.iconst 0, 1) := by decide +kernel
theorem dX8_linesOf_19 : decode cX8_linesOf 19 = .ok (.ireturn, 1) := by decide +kernel
theorem dX8_linesOf_20 : decode cX8_linesOf 20 = .ok (.iconst 0, 1) := by decide +kernel
theorem dX8_linesOf_21 : decode cX8_linesOf 21 = .ok (.istore_n 2, 1) := by decide +kernel
theorem dX8_linesOf_22 : decode cX8_linesOf 22 = .ok (.iconst 0, 1) := by decide +kernel
theorem dX8_linesOf_23 : decode cX8_linesOf 23 = .ok (.istore_n 3, 1) := by decide +kernel
theorem dX8_linesOf_24 : decode cX8_linesOf 24 = .ok (.iload_n 3, 1) := by decide +kernel
theorem dX8_linesOf_25 : decode cX8_linesOf 25 = .ok (.aload_n 0, 1) := by decide +kernel
theorem dX8_linesOf_26 : decode cX8_linesOf 26 = .ok (.getfield 104, 3) := by decide +kernel
theorem dX8_linesOf_29 : decode cX8_linesOf 29 = .ok (.if_icmp .ge 27, 3) := by decide +kernel
theorem dX8_linesOf_32 : decode cX8_linesOf 32 = .ok (.iload_n 2, 1) := by decide +kernel
theorem dX8_linesOf_33 : decode cX8_linesOf 33 = .ok (.aload_n 0, 1) := by decide +kernel
theorem dX8_linesOf_34 : decode cX8_linesOf 34 = .ok (.getfield 29, 3) := by decide +kernel
theorem dX8_linesOf_37 : decode cX8_linesOf 37 = .ok (.iload_n 3, 1) := by decide +kernel
theorem dX8_linesOf_38 : decode cX8_linesOf 38 = .ok (.iaload, 1) := by decide +kernel
theorem dX8_linesOf_39 : decode cX8_linesOf 39 = .ok (.iload_n 1, 1) := by decide +kernel
theorem dX8_linesOf_40 : decode cX8_linesOf 40 = .ok (.if_icmp .ne 7, 3) := by decide +kernel
theorem dX8_linesOf_43 : decode cX8_linesOf 43 = .ok (.iconst 1, 1) := by decide +kernel
theorem dX8_linesOf_44 : decode cX8_linesOf 44 = .ok (.goto 4, 3) := by decide +kernel
theorem dX8_linesOf_47 : decode cX8_linesOf 47 = .ok (.iconst 0, 1) := by decide +kernel
theorem dX8_linesOf_48 : decode cX8_linesOf 48 = .ok (.iadd, 1) := by decide +kernel
theorem dX8_linesOf_49 : decode cX8_linesOf 49 = .ok (.istore_n 2, 1) := by decide +kernel
theorem dX8_linesOf_50 : decode cX8_linesOf 50 = .ok (.iinc 3 1, 3) := by decide +kernel
theorem dX8_linesOf_53 : decode cX8_linesOf 53 = .ok (.goto (-29), 3) := by decide +kernel
theorem dX8_linesOf_56 : decode cX8_linesOf 56 = .ok (.iload_n 2, 1) := by decide +kernel
theorem dX8_linesOf_57 : decode cX8_linesOf 57 = .ok (.ireturn, 1) := by decide +kernel
set_option maxRecDepth 20000 in
theorem ggX8_values_X8_noPattern : GoodIn wsX8_values wsX8_noPattern := goodIn_ca (goodIn_r _ [9, 10, 11, 12, 13, 8, 14, 19, 20, 21, 22, 23, 24, 25, 26, 27, 28, 29, 30, 31, 32, 33, 34, 35, 36, 37, 38, 39, 40, 41, 42, 43, 44, 45, 46, 47, 48, 49, 50, 51, 52, 53, 54] (by decide +kernel) (by decide +kernel)) (goodIn_sub (fun _ h => List.mem_cons_of_mem _ (List.mem_append_right _ h)) (by decide +kernel))
set_option maxRecDepth 20000 in
theorem gX8_values_X8_noPattern : GoodIn wsX8_values (wsV RX8 174 RX8 yX8_noPattern wsX8_noPattern) := goodIn_app (goodIn_of _ (by decide +kernel)) ggX8_values_X8_noPattern
set_option maxRecDepth 20000 in
theorem ggX8_values_X8_fails : GoodIn wsX8_values wsX8_fails := goodIn_r _ [18, 1, 19, 20, 21, 22, 23, 24, 25, 26, 27, 28, 29, 30, 31, 32, 33, 34, 35, 36, 37, 38, 39, 40, 41, 42, 43, 44, 45, 46, 47, 48, 49, 50, 51, 52, 53, 54] (by decide +kernel) (by decide +kernel)
set_option maxRecDepth 20000 in
theorem gX8_values_X8_fails : GoodIn wsX8_values (wsV RX8 160 RX8 yX8_fails wsX8_fails) := goodIn_app (goodIn_of _ (by decide +kernel)) ggX8_values_X8_fails
set_option maxRecDepth 20000 in
theorem ggX8_values_X8_in : GoodIn wsX8_values wsX8_in := goodIn_r _ [14] (by decide +kernel) (by decide +kernel)
set_option maxRecDepth 20000 in
theorem gX8_values_X8_in : GoodIn wsX8_values (va_wsS RX8 107 yX8_in wsX8_in) := goodIn_app (goodIn_of _ (by decide +kernel)) ggX8_values_X8_in
theorem dX8_values_0 : decode cX8_values 0 = .ok (.aload_n 0, 1) := by decide +kernel
theorem dX8_values_1 : decode cX8_values 1 = .ok (.iconst 0, 1) := by decide +kernel
theorem dX8_values_2 : decode cX8_values 2 = .ok (.putfield 100, 3) := by decide +kernel
theorem dX8_values_5 : decode cX8_values 5 = .ok (.aload_n 0, 1) := by decide +kernel
theorem dX8_values_6 : decode cX8_values 6 = .ok (.aload_n 0, 1) := by decide +kernel
theorem dX8_values_7 : decode cX8_values 7 = .ok (.iload_n 1, 1) := by decide +kernel
theorem dX8_values_8 : decode cX8_values 8 = .ok (.invokevirtual 174, 3) := by decide +kernel
theorem dX8_values_11 : decode cX8_values 11 = .ok (.iconst 1, 1) := by decide +kernel
theorem dX8_values_12 : decode cX8_values 12 = .ok (.invokevirtual 160, 3) := by decide +kernel
theorem dX8_values_15 : decode cX8_values 15 = .ok (.ifCond .ne 25, 3) := by decide +kernel
theorem dX8_values_18 : decode cX8_values 18 = .ok (.aload_n 0, 1) := by decide +kernel
theorem dX8_values_19 : decode cX8_values 19 = .ok (.iload_n 2, 1) := by decide +kernel
theorem dX8_values_20 : decode cX8_values 20 = .ok (.iconst 0, 1) := by decide +kernel
theorem dX8_values_21 : decode cX8_values 21 = .ok (.iconst 2, 1) := by decide +kernel
theorem dX8_values_22 : decode cX8_values 22 = .ok (.invokestatic 107, 3) := by decide +kernel
theorem dX8_values_25 : decode cX8_values 25 = .ok (.ifCond .ne 7, 3) := by decide +kernel
theorem dX8_values_28 : decode cX8_values 28 = .ok (.iconst 1, 1) := by decide +kernel
theorem dX8_values_29 : decode cX8_values 29 = .ok (.goto 4, 3) := by decide +kernel
theorem dX8_values_32 : decode cX8_values 32 = .ok (.iconst 0, 1) := by decide +kernel
theorem dX8_values_33 : decode cX8_values 33 = .ok (.iconst 2, 1) := by decide +kernel
theorem dX8_values_34 : decode cX8_values 34 = .ok (.invokevirtual 160, 3) := by decide +kernel
theorem dX8_values_37 : decode cX8_values 37 = .ok (.ifCond .eq 5, 3) := by decide +kernel
theorem dX8_values_40 : decode cX8_values 40 = .ok (.iconst 0, 1) := by decide +kernel
theorem dX8_values_41 : decode cX8_values 41 = .ok (.ireturn, 1) := by decide +kernel
theorem dX8_values_42 : decode cX8_values 42 = .ok (.iconst 0, 1) := by decide +kernel
theorem dX8_values_43 : decode cX8_values 43 = .ok (.istore_n 3, 1) := by decide +kernel
theorem dX8_values_44 : decode cX8_values 44 = .ok (.iconst 0, 1) := by decide +kernel
theorem dX8_values_45 : decode cX8_values 45 = .ok (.istore 4, 2) := by decide +kernel
theorem dX8_values_47 : decode cX8_values 47 = .ok (.iload 4, 2) := by decide +kernel
theorem dX8_values_49 : decode cX8_values 49 = .ok (.bipush 100, 2) := by decide +kernel
theorem dX8_values_51 : decode cX8_values 51 = .ok (.if_icmp .ge 82, 3) := by decide +kernel
theorem dX8_values_54 : decode cX8_values 54 = .ok (.iconst 0, 1) := by decide +kernel
theorem dX8_values_55 : decode cX8_values 55 = .ok (.istore 5, 2) := by decide +kernel
theorem dX8_values_57 : decode cX8_values 57 = .ok (.iconst 0, 1) := by decide +kernel
theorem dX8_values_58 : decode cX8_values 58 = .ok (.istore 6, 2) := by decide +kernel
theorem dX8_values_60 : decode cX8_values 60 = .ok (.iload 6, 2) := by decide +kernel
theorem dX8_values_62 : decode cX8_values 62 = .ok (.aload_n 0, 1) := by decide +kernel
theorem dX8_values_63 : decode cX8_values 63 = .ok (.getfield 104, 3) := by decide +kernel
theorem dX8_values_66 : decode cX8_values 66 = .ok (.if_icmp .ge 48, 3) := by decide +kernel
theorem dX8_values_69 : decode cX8_values 69 = .ok (.iload 5, 2) := by decide +kernel
theorem dX8_values_71 : decode cX8_values 71 = .ok (.ifCond .ne 30, 3) := by decide +kernel
theorem dX8_values_74 : decode cX8_values 74 = .ok (.aload_n 0, 1) := by decide +kernel
theorem dX8_values_75 : decode cX8_values 75 = .ok (.getfield 29, 3) := by decide +kernel
theorem dX8_values_78 : decode cX8_values 78 = .ok (.iload 6, 2) := by decide +kernel
theorem dX8_values_80 : decode cX8_values 80 = .ok (.iaload, 1) := by decide +kernel
theorem dX8_values_81 : decode cX8_values 81 = .ok (.iload_n 1, 1) := by decide +kernel
theorem dX8_values_82 : decode cX8_values 82 = .ok (.if_icmp .ne 23, 3) := by decide +kernel
theorem dX8_values_85 : decode cX8_values 85 = .ok (.aload_n 0, 1) := by decide +kernel
theorem dX8_values_86 : decode cX8_values 86 = .ok (.getfield 16, 3) := by decide +kernel
theorem dX8_values_89 : decode cX8_values 89 = .ok (.iconst 3, 1) := by decide +kernel
theorem dX8_values_90 : decode cX8_values 90 = .ok (.iload 6, 2) := by decide +kernel
theorem dX8_values_92 : decode cX8_values 92 = .ok (.imul, 1) := by decide +kernel
theorem dX8_values_93 : decode cX8_values 93 = .ok (.iload_n 2, 1) := by decide +kernel
theorem dX8_values_94 : decode cX8_values 94 = .ok (.iadd, 1) := by decide +kernel
theorem dX8_values_95 : decode cX8_values 95 = .ok (.iaload, 1) := by decide +kernel
theorem dX8_values_96 : decode cX8_values 96 = .ok (.iload 4, 2) := by decide +kernel
theorem dX8_values_98 : decode cX8_values 98 = .ok (.if_icmp .ne 7, 3) := by decide +kernel
theorem dX8_values_101 : decode cX8_values 101 = .ok (.iconst 1, 1) := by decide +kernel
theorem dX8_values_102 : decode cX8_values 102 = .ok (.goto 4, 3) := by decide +kernel
theorem dX8_values_105 : decode cX8_values 105 = .ok (.iconst 0, 1) := by decide +kernel
theorem dX8_values_106 : decode cX8_values 106 = .ok (.istore 5, 2) := by decide +kernel
theorem dX8_values_108 : decode cX8_values 108 = .ok (.iinc 6 1, 3) := by decide +kernel
theorem dX8_values_111 : decode cX8_values 111 = .ok (.goto (-51), 3) := by decide +kernel
theorem dX8_values_114 : decode cX8_values 114 = .ok (.iload_n 3, 1) := by decide +kernel
theorem dX8_values_115 : decode cX8_values 115 = .ok (.iload 5, 2) := by decide +kernel
theorem dX8_values_117 : decode cX8_values 117 = .ok (.ifCond .eq 7, 3) := by decide +kernel
theorem dX8_values_120 : decode cX8_values 120 = .ok (.iconst 1, 1) := by decide +kernel
theorem dX8_values_121 : decode cX8_values 121 = .ok (.goto 4, 3) := by decide +kernel
theorem dX8_values_124 : decode cX8_values 124 = .ok (.iconst 0, 1) := by decide +kernel
theorem dX8_values_125 : decode cX8_values 125 = .ok (.iadd, 1) := by decide +kernel
theorem dX8_values_126 : decode cX8_values 126 = .ok (.istore_n 3, 1) := by decide +kernel
theorem dX8_values_127 : decode cX8_values 127 = .ok (.iinc 4 1, 3) := by decide +kernel
theorem dX8_values_130 : decode cX8_values 130 = .ok (.goto (-83), 3) := by decide +kernel
theorem dX8_values_133 : decode cX8_values 133 = .ok (.iload_n 3, 1) := by decide +kernel
theorem dX8_values_134 : decode cX8_values 134 = .ok (.ireturn, 1) := by decide +kernel
set_option maxRecDepth 20000 in
theorem ggX8_setBudget_X8_isSource : GoodIn wsX8_setBudget wsX8_isSource := goodIn_r _ [6, 7, 8, 5, 9] (by decide +kernel) (by decide +kernel)
set_option maxRecDepth 20000 in
theorem gX8_setBudget_X8_isSource : GoodIn wsX8_setBudget (va_wsS RX8 154 yX8_isSource wsX8_isSource) := goodIn_app (goodIn_of _ (by decide +kernel)) ggX8_setBudget_X8_isSource
set_option maxRecDepth 20000 in
theorem ggX8_setBudget_X8_in : GoodIn wsX8_setBudget wsX8_in := goodIn_r _ [9] (by decide +kernel) (by decide +kernel)
set_option maxRecDepth 20000 in
theorem gX8_setBudget_X8_in : GoodIn wsX8_setBudget (va_wsS RX8 107 yX8_in wsX8_in) := goodIn_app (goodIn_of _ (by decide +kernel)) ggX8_setBudget_X8_in
set_option maxRecDepth 20000 in
theorem ggX8_setBudget_X8_fails : GoodIn wsX8_setBudget wsX8_fails := goodIn_r _ [13, 1, 51, 52, 53, 54, 55, 56, 57, 58, 59, 60, 61, 62, 63, 64, 65, 66, 67, 68, 69, 70, 71, 72, 73, 74, 75, 76, 77, 78, 79, 80, 81, 82, 83, 84, 85, 86] (by decide +kernel) (by decide +kernel)
set_option maxRecDepth 20000 in
theorem gX8_setBudget_X8_fails : GoodIn wsX8_setBudget (wsV RX8 160 RX8 yX8_fails wsX8_fails) := goodIn_app (goodIn_of _ (by decide +kernel)) ggX8_setBudget_X8_fails
set_option maxRecDepth 20000 in
theorem ggX8_setBudget_X8_drops : GoodIn wsX8_setBudget wsX8_drops := goodIn_ca (goodIn_r _ [17, 2, 18, 19, 20, 21, 22, 23, 24, 5, 25, 26, 27, 28, 29, 30, 31, 32, 33, 34, 35, 36, 37, 38, 39, 40, 41, 42, 43, 44, 45, 46, 47, 48, 49, 50, 51, 52, 53, 54, 55, 56, 57, 58, 59, 60, 61, 62, 63, 64, 65, 66, 67, 68, 69, 70, 71, 72, 73, 74, 75, 76, 77, 78, 79, 80, 81, 82, 83, 84, 85, 86] (by decide +kernel) (by decide +kernel)) (goodIn_sub (fun _ h => List.mem_cons_of_mem _ (List.mem_append_right _ h)) (by decide +kernel))
set_option maxRecDepth 20000 in
theorem gX8_setBudget_X8_drops : GoodIn wsX8_setBudget (wsV RX8 151 RX8 yX8_drops wsX8_drops) := goodIn_app (goodIn_of _ (by decide +kernel)) ggX8_setBudget_X8_drops
theorem dX8_setBudget_0 : decode cX8_setBudget 0 = .ok (.aload_n 0, 1) := by decide +kernel
theorem dX8_setBudget_1 : decode cX8_setBudget 1 = .ok (.iconst 0, 1) := by decide +kernel
theorem dX8_setBudget_2 : decode cX8_setBudget 2 = .ok (.putfield 100, 3) := by decide +kernel
theorem dX8_setBudget_5 : decode cX8_setBudget 5 = .ok (.aload_n 0, 1) := by decide +kernel
theorem dX8_setBudget_6 : decode cX8_setBudget 6 = .ok (.iload_n 1, 1) := by decide +kernel
theorem dX8_setBudget_7 : decode cX8_setBudget 7 = .ok (.invokestatic 154, 3) := by decide +kernel
theorem dX8_setBudget_10 : decode cX8_setBudget 10 = .ok (.ifCond .eq 14, 3) := by decide +kernel
theorem dX8_setBudget_13 : decode cX8_setBudget 13 = .ok (.iload_n 2, 1) := by decide +kernel
theorem dX8_setBudget_14 : decode cX8_setBudget 14 = .ok (.iconst 0, 1) := by decide +kernel
theorem dX8_setBudget_15 : decode cX8_setBudget 15 = .ok (.sipush 9999, 3) := by decide +kernel
theorem dX8_setBudget_18 : decode cX8_setBudget 18 = .ok (.invokestatic 107, 3) := by decide +kernel
theorem dX8_setBudget_21 : decode cX8_setBudget 21 = .ok (.ifCond .ne 7, 3) := by decide +kernel
theorem dX8_setBudget_24 : decode cX8_setBudget 24 = .ok (.iconst 1, 1) := by decide +kernel
theorem dX8_setBudget_25 : decode cX8_setBudget 25 = .ok (.goto 4, 3) := by decide +kernel
theorem dX8_setBudget_28 : decode cX8_setBudget 28 = .ok (.iconst 0, 1) := by decide +kernel
theorem dX8_setBudget_29 : decode cX8_setBudget 29 = .ok (.iconst 1, 1) := by decide +kernel
theorem dX8_setBudget_30 : decode cX8_setBudget 30 = .ok (.invokevirtual 160, 3) := by decide +kernel
theorem dX8_setBudget_33 : decode cX8_setBudget 33 = .ok (.ifCond .eq 5, 3) := by decide +kernel
theorem dX8_setBudget_36 : decode cX8_setBudget 36 = .ok (.iconst 0, 1) := by decide +kernel
theorem dX8_setBudget_37 : decode cX8_setBudget 37 = .ok (.ireturn, 1) := by decide +kernel
theorem dX8_setBudget_38 : decode cX8_setBudget 38 = .ok (.aload_n 0, 1) := by decide +kernel
theorem dX8_setBudget_39 : decode cX8_setBudget 39 = .ok (.getfield 85, 3) := by decide +kernel
theorem dX8_setBudget_42 : decode cX8_setBudget 42 = .ok (.iload_n 1, 1) := by decide +kernel
theorem dX8_setBudget_43 : decode cX8_setBudget 43 = .ok (.iload_n 2, 1) := by decide +kernel
theorem dX8_setBudget_44 : decode cX8_setBudget 44 = .ok (.iastore, 1) := by decide +kernel
theorem dX8_setBudget_45 : decode cX8_setBudget 45 = .ok (.aload_n 0, 1) := by decide +kernel
theorem dX8_setBudget_46 : decode cX8_setBudget 46 = .ok (.iload_n 1, 1) := by decide +kernel
theorem dX8_setBudget_47 : decode cX8_setBudget 47 = .ok (.invokevirtual 151, 3) := by decide +kernel
theorem dX8_setBudget_50 : decode cX8_setBudget 50 = .ok (.ireturn, 1) := by decide +kernel
set_option maxRecDepth 20000 in
theorem ggX8_kept_X8_isSource : GoodIn wsX8_kept wsX8_isSource := goodIn_r _ [5, 6, 7, 4, 8] (by decide +kernel) (by decide +kernel)
set_option maxRecDepth 20000 in
theorem gX8_kept_X8_isSource : GoodIn wsX8_kept (va_wsS RX8 154 yX8_isSource wsX8_isSource) := goodIn_app (goodIn_of _ (by decide +kernel)) ggX8_kept_X8_isSource
set_option maxRecDepth 20000 in
theorem ggX8_kept_X8_fails : GoodIn wsX8_kept wsX8_fails := goodIn_r _ [12, 1, 21, 22, 23, 24, 25, 26, 27, 28, 29, 30, 31, 32, 33, 34, 35, 36, 37, 38, 39, 40, 41, 42, 43, 44, 45, 46, 47, 48, 49, 50, 51, 52, 53, 54, 55, 56] (by decide +kernel) (by decide +kernel)
set_option maxRecDepth 20000 in
theorem gX8_kept_X8_fails : GoodIn wsX8_kept (wsV RX8 160 RX8 yX8_fails wsX8_fails) := goodIn_app (goodIn_of _ (by decide +kernel)) ggX8_kept_X8_fails
set_option maxRecDepth 20000 in
theorem ggX8_kept_X8_keptNow : GoodIn wsX8_kept wsX8_keptNow := goodIn_ca (goodIn_r _ [16, 17, 18, 19, 20, 21, 22, 23, 24, 25, 26, 27, 28, 29, 30, 31, 32, 33, 34, 35, 36, 37, 38, 39, 40, 41, 42, 43, 44, 45, 46, 47, 48, 49, 50, 51, 52, 53, 54, 55, 56] (by decide +kernel) (by decide +kernel)) (goodIn_sub (fun _ h => List.mem_cons_of_mem _ (List.mem_append_right _ h)) (by decide +kernel))
set_option maxRecDepth 20000 in
theorem gX8_kept_X8_keptNow : GoodIn wsX8_kept (wsV RX8 145 RX8 yX8_keptNow wsX8_keptNow) := goodIn_app (goodIn_of _ (by decide +kernel)) ggX8_kept_X8_keptNow
theorem dX8_kept_0 : decode cX8_kept 0 = .ok (.aload_n 0, 1) := by decide +kernel
theorem dX8_kept_1 : decode cX8_kept 1 = .ok (.iconst 0, 1) := by decide +kernel
theorem dX8_kept_2 : decode cX8_kept 2 = .ok (.putfield 100, 3) := by decide +kernel
theorem dX8_kept_5 : decode cX8_kept 5 = .ok (.aload_n 0, 1) := by decide +kernel
theorem dX8_kept_6 : decode cX8_kept 6 = .ok (.iload_n 1, 1) := by decide +kernel
theorem dX8_kept_7 : decode cX8_kept 7 = .ok (.invokestatic 154, 3) := by decide +kernel
theorem dX8_kept_10 : decode cX8_kept 10 = .ok (.ifCond .ne 7, 3) := by decide +kernel
theorem dX8_kept_13 : decode cX8_kept 13 = .ok (.iconst 1, 1) := by decide +kernel
theorem dX8_kept_14 : decode cX8_kept 14 = .ok (.goto 4, 3) := by decide +kernel
theorem dX8_kept_17 : decode cX8_kept 17 = .ok (.iconst 0, 1) := by decide +kernel
theorem dX8_kept_18 : decode cX8_kept 18 = .ok (.iconst 1, 1) := by decide +kernel
theorem dX8_kept_19 : decode cX8_kept 19 = .ok (.invokevirtual 160, 3) := by decide +kernel
theorem dX8_kept_22 : decode cX8_kept 22 = .ok (.ifCond .eq 7, 3) := by decide +kernel
theorem dX8_kept_25 : decode cX8_kept 25 = .ok (.iconst 0, 1) := by decide +kernel
theorem dX8_kept_26 : decode cX8_kept 26 = .ok (.goto 8, 3) := by decide +kernel
theorem dX8_kept_29 : decode cX8_kept 29 = .ok (.aload_n 0, 1) := by decide +kernel
theorem dX8_kept_30 : decode cX8_kept 30 = .ok (.iload_n 1, 1) := by decide +kernel
theorem dX8_kept_31 : decode cX8_kept 31 = .ok (.invokevirtual 145, 3) := by decide +kernel
theorem dX8_kept_34 : decode cX8_kept 34 = .ok (.ireturn, 1) := by decide +kernel
theorem dX8_count_0 : decode cX8_count 0 = .ok (.iconst 0, 1) := by decide +kernel
theorem dX8_count_1 : decode cX8_count 1 = .ok (.istore 4, 2) := by decide +kernel
theorem dX8_count_3 : decode cX8_count 3 = .ok (.iconst 0, 1) := by decide +kernel
theorem dX8_count_4 : decode cX8_count 4 = .ok (.istore 5, 2) := by decide +kernel
theorem dX8_count_6 : decode cX8_count 6 = .ok (.iload 5, 2) := by decide +kernel
theorem dX8_count_8 : decode cX8_count 8 = .ok (.aload_n 0, 1) := by decide +kernel
theorem dX8_count_9 : decode cX8_count 9 = .ok (.getfield 104, 3) := by decide +kernel
theorem dX8_count_12 : decode cX8_count 12 = .ok (.if_icmp .ge 57, 3) := by decide +kernel
theorem dX8_count_15 : decode cX8_count 15 = .ok (.iload 4, 2) := by decide +kernel
theorem dX8_count_17 : decode cX8_count 17 = .ok (.iload_n 1, 1) := by decide +kernel
theorem dX8_count_18 : decode cX8_count 18 = .ok (.iconst (-1), 1) := by decide +kernel
theorem dX8_count_19 : decode cX8_count 19 = .ok (.if_icmp .eq 14, 3) := by decide +kernel
theorem dX8_count_22 : decode cX8_count 22 = .ok (.aload_n 0, 1) := by decide +kernel
theorem dX8_count_23 : decode cX8_count 23 = .ok (.getfield 7, 3) := by decide +kernel
theorem dX8_count_26 : decode cX8_count 26 = .ok (.iload 5, 2) := by decide +kernel
theorem dX8_count_28 : decode cX8_count 28 = .ok (.iaload, 1) := by decide +kernel
theorem dX8_count_29 : decode cX8_count 29 = .ok (.iload_n 1, 1) := by decide +kernel
theorem dX8_count_30 : decode cX8_count 30 = .ok (.if_icmp .ne 29, 3) := by decide +kernel
theorem dX8_count_33 : decode cX8_count 33 = .ok (.aload_n 0, 1) := by decide +kernel
theorem dX8_count_34 : decode cX8_count 34 = .ok (.getfield 25, 3) := by decide +kernel
theorem dX8_count_37 : decode cX8_count 37 = .ok (.iload 5, 2) := by decide +kernel
theorem dX8_count_39 : decode cX8_count 39 = .ok (.caload, 1) := by decide +kernel
theorem dX8_count_40 : decode cX8_count 40 = .ok (.iload_n 2, 1) := by decide +kernel
theorem dX8_count_41 : decode cX8_count 41 = .ok (.if_icmp .ne 18, 3) := by decide +kernel
theorem dX8_count_44 : decode cX8_count 44 = .ok (.aload_n 0, 1) := by decide +kernel
theorem dX8_count_45 : decode cX8_count 45 = .ok (.getfield 13, 3) := by decide +kernel
theorem dX8_count_48 : decode cX8_count 48 = .ok (.iload 5, 2) := by decide +kernel
theorem dX8_count_50 : decode cX8_count 50 = .ok (.iaload, 1) := by decide +kernel
theorem dX8_count_51 : decode cX8_count 51 = .ok (.iload_n 3, 1) := by decide +kernel
theorem dX8_count_52 : decode cX8_count 52 = .ok (.if_icmp .lt 7, 3) := by decide +kernel
theorem dX8_count_55 : decode cX8_count 55 = .ok (.iconst 1, 1) := by decide +kernel
theorem dX8_count_56 : decode cX8_count 56 = .ok (.goto 4, 3) := by decide +kernel
theorem dX8_count_59 : decode cX8_count 59 = .ok (.iconst 0, 1) := by decide +kernel
theorem dX8_count_60 : decode cX8_count 60 = .ok (.iadd, 1) := by decide +kernel
theorem dX8_count_61 : decode cX8_count 61 = .ok (.istore 4, 2) := by decide +kernel
theorem dX8_count_63 : decode cX8_count 63 = .ok (.iinc 5 1, 3) := by decide +kernel
theorem dX8_count_66 : decode cX8_count 66 = .ok (.goto (-60), 3) := by decide +kernel
theorem dX8_count_69 : decode cX8_count 69 = .ok (.iload 4, 2) := by decide +kernel
theorem dX8_count_71 : decode cX8_count 71 = .ok (.ireturn, 1) := by decide +kernel
set_option maxRecDepth 20000 in
theorem ggX8_dropped_X8_isSource : GoodIn wsX8_dropped wsX8_isSource := goodIn_r _ [5, 6, 7, 4, 8] (by decide +kernel) (by decide +kernel)
set_option maxRecDepth 20000 in
theorem gX8_dropped_X8_isSource : GoodIn wsX8_dropped (va_wsS RX8 154 yX8_isSource wsX8_isSource) := goodIn_app (goodIn_of _ (by decide +kernel)) ggX8_dropped_X8_isSource
set_option maxRecDepth 20000 in
theorem ggX8_dropped_X8_fails : GoodIn wsX8_dropped wsX8_fails := goodIn_r _ [12, 1, 21, 22, 23, 24, 25, 26, 27, 28, 29, 30, 31, 32, 33, 34, 35, 36, 37, 38, 39, 40, 41, 42, 43, 44, 45, 46, 47, 48, 49, 50, 51, 52, 53, 54, 55, 56] (by decide +kernel) (by decide +kernel)
set_option maxRecDepth 20000 in
theorem gX8_dropped_X8_fails : GoodIn wsX8_dropped (wsV RX8 160 RX8 yX8_fails wsX8_fails) := goodIn_app (goodIn_of _ (by decide +kernel)) ggX8_dropped_X8_fails
set_option maxRecDepth 20000 in
theorem ggX8_dropped_X8_count : GoodIn wsX8_dropped wsX8_count := goodIn_ca (goodIn_r _ [16, 17, 18, 19, 20, 21, 22, 23, 24, 25, 26, 27, 28, 29, 30, 31, 32, 33, 34, 35, 36, 37, 38, 39, 40, 41, 42, 43, 44, 45, 46, 47, 48, 49, 50, 51, 52, 53, 54, 55, 56] (by decide +kernel) (by decide +kernel)) (goodIn_sub (fun _ h => List.mem_cons_of_mem _ (List.mem_append_right _ h)) (by decide +kernel))
set_option maxRecDepth 20000 in
theorem gX8_dropped_X8_count : GoodIn wsX8_dropped (wsV RX8 177 RX8 yX8_count wsX8_count) := goodIn_app (goodIn_of _ (by decide +kernel)) ggX8_dropped_X8_count
theorem dX8_dropped_0 : decode cX8_dropped 0 = .ok (.aload_n 0, 1) := by decide +kernel
theorem dX8_dropped_1 : decode cX8_dropped 1 = .ok (.iconst 0, 1) := by decide +kernel
theorem dX8_dropped_2 : decode cX8_dropped 2 = .ok (.putfield 100, 3) := by decide +kernel
theorem dX8_dropped_5 : decode cX8_dropped 5 = .ok (.aload_n 0, 1) := by decide +kernel
theorem dX8_dropped_6 : decode cX8_dropped 6 = .ok (.iload_n 1, 1) := by decide +kernel
theorem dX8_dropped_7 : decode cX8_dropped 7 = .ok (.invokestatic 154, 3) := by decide +kernel
theorem dX8_dropped_10 : decode cX8_dropped 10 = .ok (.ifCond .ne 7, 3) := by decide +kernel
theorem dX8_dropped_13 : decode cX8_dropped 13 = .ok (.iconst 1, 1) := by decide +kernel
theorem dX8_dropped_14 : decode cX8_dropped 14 = .ok (.goto 4, 3) := by decide +kernel
theorem dX8_dropped_17 : decode cX8_dropped 17 = .ok (.iconst 0, 1) := by decide +kernel
theorem dX8_dropped_18 : decode cX8_dropped 18 = .ok (.iconst 1, 1) := by decide +kernel
theorem dX8_dropped_19 : decode cX8_dropped 19 = .ok (.invokevirtual 160, 3) := by decide +kernel
theorem dX8_dropped_22 : decode cX8_dropped 22 = .ok (.ifCond .eq 7, 3) := by decide +kernel
theorem dX8_dropped_25 : decode cX8_dropped 25 = .ok (.iconst 0, 1) := by decide +kernel
theorem dX8_dropped_26 : decode cX8_dropped 26 = .ok (.goto 11, 3) := by decide +kernel
theorem dX8_dropped_29 : decode cX8_dropped 29 = .ok (.aload_n 0, 1) := by decide +kernel
theorem dX8_dropped_30 : decode cX8_dropped 30 = .ok (.iload_n 1, 1) := by decide +kernel
theorem dX8_dropped_31 : decode cX8_dropped 31 = .ok (.bipush 100, 2) := by decide +kernel
theorem dX8_dropped_33 : decode cX8_dropped 33 = .ok (.iconst 0, 1) := by decide +kernel
theorem dX8_dropped_34 : decode cX8_dropped 34 = .ok (.invokevirtual 177, 3) := by decide +kernel
theorem dX8_dropped_37 : decode cX8_dropped 37 = .ok (.ireturn, 1) := by decide +kernel
set_option maxRecDepth 20000 in
theorem ggX8_archive_X8_noLine : GoodIn wsX8_archive wsX8_noLine := goodIn_r _ [8, 9, 10, 11, 7, 12, 22, 23, 24, 25, 26, 27, 28, 29, 30, 31, 32, 33, 34, 35, 36, 37, 38, 39, 40, 41, 42, 43, 44, 45, 46, 47, 48, 49, 50, 51, 52, 53, 54, 55, 56, 57] (by decide +kernel) (by decide +kernel)
set_option maxRecDepth 20000 in
theorem gX8_archive_X8_noLine : GoodIn wsX8_archive (wsV RX8 171 RX8 yX8_noLine wsX8_noLine) := goodIn_app (goodIn_of _ (by decide +kernel)) ggX8_archive_X8_noLine
set_option maxRecDepth 20000 in
theorem ggX8_archive_X8_fails : GoodIn wsX8_archive wsX8_fails := goodIn_r _ [16, 1, 22, 23, 24, 25, 26, 27, 28, 29, 30, 31, 32, 33, 34, 35, 36, 37, 38, 39, 40, 41, 42, 43, 44, 45, 46, 47, 48, 49, 50, 51, 52, 53, 54, 55, 56, 57] (by decide +kernel) (by decide +kernel)
set_option maxRecDepth 20000 in
theorem gX8_archive_X8_fails : GoodIn wsX8_archive (wsV RX8 160 RX8 yX8_fails wsX8_fails) := goodIn_app (goodIn_of _ (by decide +kernel)) ggX8_archive_X8_fails
set_option maxRecDepth 20000 in
theorem ggX8_archive_X8_keptNow : GoodIn wsX8_archive wsX8_keptNow := goodIn_ca (goodIn_r _ [20, 9, 3, 2, 21, 22, 23, 24, 25, 26, 27, 28, 29, 30, 31, 32, 33, 34, 35, 36, 37, 38, 39, 40, 41, 42, 43, 44, 45, 46, 47, 48, 49, 50, 51, 52, 53, 54, 55, 56, 57] (by decide +kernel) (by decide +kernel)) (goodIn_sub (fun _ h => List.mem_cons_of_mem _ (List.mem_append_right _ h)) (by decide +kernel))
set_option maxRecDepth 20000 in
theorem gX8_archive_X8_keptNow : GoodIn wsX8_archive (wsV RX8 145 RX8 yX8_keptNow wsX8_keptNow) := goodIn_app (goodIn_of _ (by decide +kernel)) ggX8_archive_X8_keptNow
theorem dX8_archive_0 : decode cX8_archive 0 = .ok (.aload_n 0, 1) := by decide +kernel
theorem dX8_archive_1 : decode cX8_archive 1 = .ok (.iconst 0, 1) := by decide +kernel
theorem dX8_archive_2 : decode cX8_archive 2 = .ok (.putfield 100, 3) := by decide +kernel
theorem dX8_archive_5 : decode cX8_archive 5 = .ok (.aload_n 0, 1) := by decide +kernel
theorem dX8_archive_6 : decode cX8_archive 6 = .ok (.aload_n 0, 1) := by decide +kernel
theorem dX8_archive_7 : decode cX8_archive 7 = .ok (.iload_n 1, 1) := by decide +kernel
theorem dX8_archive_8 : decode cX8_archive 8 = .ok (.invokevirtual 171, 3) := by decide +kernel
theorem dX8_archive_11 : decode cX8_archive 11 = .ok (.iconst 1, 1) := by decide +kernel
theorem dX8_archive_12 : decode cX8_archive 12 = .ok (.invokevirtual 160, 3) := by decide +kernel
theorem dX8_archive_15 : decode cX8_archive 15 = .ok (.ifCond .ne 27, 3) := by decide +kernel
theorem dX8_archive_18 : decode cX8_archive 18 = .ok (.aload_n 0, 1) := by decide +kernel
theorem dX8_archive_19 : decode cX8_archive 19 = .ok (.aload_n 0, 1) := by decide +kernel
theorem dX8_archive_20 : decode cX8_archive 20 = .ok (.getfield 25, 3) := by decide +kernel
theorem dX8_archive_23 : decode cX8_archive 23 = .ok (.iload_n 1, 1) := by decide +kernel
theorem dX8_archive_24 : decode cX8_archive 24 = .ok (.caload, 1) := by decide +kernel
theorem dX8_archive_25 : decode cX8_archive 25 = .ok (.bipush 107, 2) := by decide +kernel
theorem dX8_archive_27 : decode cX8_archive 27 = .ok (.if_icmp .eq 7, 3) := by decide +kernel
theorem dX8_archive_30 : decode cX8_archive 30 = .ok (.iconst 1, 1) := by decide +kernel
theorem dX8_archive_31 : decode cX8_archive 31 = .ok (.goto 4, 3) := by decide +kernel
theorem dX8_archive_34 : decode cX8_archive 34 = .ok (.iconst 0, 1) := by decide +kernel
theorem dX8_archive_35 : decode cX8_archive 35 = .ok (.iconst 2, 1) := by decide +kernel
theorem dX8_archive_36 : decode cX8_archive 36 = .ok (.invokevirtual 160, 3) := by decide +kernel
theorem dX8_archive_39 : decode cX8_archive 39 = .ok (.ifCond .eq 5, 3) := by decide +kernel
theorem dX8_archive_42 : decode cX8_archive 42 = .ok (.iconst 0, 1) := by decide +kernel
theorem dX8_archive_43 : decode cX8_archive 43 = .ok (.ireturn, 1) := by decide +kernel
theorem dX8_archive_44 : decode cX8_archive 44 = .ok (.aload_n 0, 1) := by decide +kernel
theorem dX8_archive_45 : decode cX8_archive 45 = .ok (.getfield 25, 3) := by decide +kernel
theorem dX8_archive_48 : decode cX8_archive 48 = .ok (.iload_n 1, 1) := by decide +kernel
theorem dX8_archive_49 : decode cX8_archive 49 = .ok (.bipush 97, 2) := by decide +kernel
theorem dX8_archive_51 : decode cX8_archive 51 = .ok (.castore, 1) := by decide +kernel
theorem dX8_archive_52 : decode cX8_archive 52 = .ok (.aload_n 0, 1) := by decide +kernel
theorem dX8_archive_53 : decode cX8_archive 53 = .ok (.aload_n 0, 1) := by decide +kernel
theorem dX8_archive_54 : decode cX8_archive 54 = .ok (.getfield 7, 3) := by decide +kernel
theorem dX8_archive_57 : decode cX8_archive 57 = .ok (.iload_n 1, 1) := by decide +kernel
theorem dX8_archive_58 : decode cX8_archive 58 = .ok (.iaload, 1) := by decide +kernel
theorem dX8_archive_59 : decode cX8_archive 59 = .ok (.invokevirtual 145, 3) := by decide +kernel
theorem dX8_archive_62 : decode cX8_archive 62 = .ok (.ireturn, 1) := by decide +kernel
set_option maxRecDepth 20000 in
theorem ggX8_request_X8_isSource : GoodIn wsX8_request wsX8_isSource := goodIn_r _ [11, 12, 13, 10, 14] (by decide +kernel) (by decide +kernel)
set_option maxRecDepth 20000 in
theorem gX8_request_X8_isSource : GoodIn wsX8_request (va_wsS RX8 154 yX8_isSource wsX8_isSource) := goodIn_app (goodIn_of _ (by decide +kernel)) ggX8_request_X8_isSource
set_option maxRecDepth 20000 in
theorem ggX8_request_X8_isRank : GoodIn wsX8_request wsX8_isRank := goodIn_r _ [17, 12, 13, 10, 14] (by decide +kernel) (by decide +kernel)
set_option maxRecDepth 20000 in
theorem gX8_request_X8_isRank : GoodIn wsX8_request (va_wsS RX8 157 yX8_isRank wsX8_isRank) := goodIn_app (goodIn_of _ (by decide +kernel)) ggX8_request_X8_isRank
set_option maxRecDepth 20000 in
theorem ggX8_request_X8_fails : GoodIn wsX8_request wsX8_fails := goodIn_r _ [21, 1, 30, 31, 32, 33, 34, 35, 36, 37, 38, 39, 40, 41, 42, 43, 44, 45, 46, 47, 48, 49, 50, 51, 52, 53, 54, 55, 56, 57, 58, 59, 60, 61, 62, 63, 64, 65] (by decide +kernel) (by decide +kernel)
set_option maxRecDepth 20000 in
theorem gX8_request_X8_fails : GoodIn wsX8_request (wsV RX8 160 RX8 yX8_fails wsX8_fails) := goodIn_app (goodIn_of _ (by decide +kernel)) ggX8_request_X8_fails
set_option maxRecDepth 20000 in
theorem ggX8_request_X8_count : GoodIn wsX8_request wsX8_count := goodIn_ca (goodIn_r _ [25, 26, 27, 28, 29, 30, 31, 32, 33, 34, 35, 36, 37, 38, 39, 40, 41, 42, 43, 44, 45, 46, 47, 48, 49, 50, 51, 52, 53, 54, 55, 56, 57, 58, 59, 60, 61, 62, 63, 64, 65] (by decide +kernel) (by decide +kernel)) (goodIn_sub (fun _ h => List.mem_cons_of_mem _ (List.mem_append_right _ h)) (by decide +kernel))
set_option maxRecDepth 20000 in
theorem gX8_request_X8_count : GoodIn wsX8_request (wsV RX8 177 RX8 yX8_count wsX8_count) := goodIn_app (goodIn_of _ (by decide +kernel)) ggX8_request_X8_count
theorem dX8_request_0 : decode cX8_request 0 = .ok (.aload_n 0, 1) := by decide +kernel
theorem dX8_request_1 : decode cX8_request 1 = .ok (.iconst 0, 1) := by decide +kernel
theorem dX8_request_2 : decode cX8_request 2 = .ok (.putfield 100, 3) := by decide +kernel
theorem dX8_request_5 : decode cX8_request 5 = .ok (.aload_n 0, 1) := by decide +kernel
theorem dX8_request_6 : decode cX8_request 6 = .ok (.iload_n 1, 1) := by decide +kernel
theorem dX8_request_7 : decode cX8_request 7 = .ok (.invokestatic 154, 3) := by decide +kernel
theorem dX8_request_10 : decode cX8_request 10 = .ok (.ifCond .eq 10, 3) := by decide +kernel
theorem dX8_request_13 : decode cX8_request 13 = .ok (.iload_n 2, 1) := by decide +kernel
theorem dX8_request_14 : decode cX8_request 14 = .ok (.invokestatic 157, 3) := by decide +kernel
theorem dX8_request_17 : decode cX8_request 17 = .ok (.ifCond .ne 7, 3) := by decide +kernel
theorem dX8_request_20 : decode cX8_request 20 = .ok (.iconst 1, 1) := by decide +kernel
theorem dX8_request_21 : decode cX8_request 21 = .ok (.goto 4, 3) := by decide +kernel
theorem dX8_request_24 : decode cX8_request 24 = .ok (.iconst 0, 1) := by decide +kernel
theorem dX8_request_25 : decode cX8_request 25 = .ok (.iconst 1, 1) := by decide +kernel
theorem dX8_request_26 : decode cX8_request 26 = .ok (.invokevirtual 160, 3) := by decide +kernel
theorem dX8_request_29 : decode cX8_request 29 = .ok (.ifCond .ne 25, 3) := by decide +kernel
theorem dX8_request_32 : decode cX8_request 32 = .ok (.aload_n 0, 1) := by decide +kernel
theorem dX8_request_33 : decode cX8_request 33 = .ok (.aload_n 0, 1) := by decide +kernel
theorem dX8_request_34 : decode cX8_request 34 = .ok (.getfield 181, 3) := by decide +kernel
theorem dX8_request_37 : decode cX8_request 37 = .ok (.bipush 20, 2) := by decide +kernel
theorem dX8_request_39 : decode cX8_request 39 = .ok (.if_icmp .ne 7, 3) := by decide +kernel
theorem dX8_request_42 : decode cX8_request 42 = .ok (.iconst 1, 1) := by decide +kernel
theorem dX8_request_43 : decode cX8_request 43 = .ok (.goto 4, 3) := by decide +kernel
theorem dX8_request_46 : decode cX8_request 46 = .ok (.iconst 0, 1) := by decide +kernel
theorem dX8_request_47 : decode cX8_request 47 = .ok (.iconst 2, 1) := by decide +kernel
theorem dX8_request_48 : decode cX8_request 48 = .ok (.invokevirtual 160, 3) := by decide +kernel
theorem dX8_request_51 : decode cX8_request 51 = .ok (.ifCond .eq 5, 3) := by decide +kernel
theorem dX8_request_54 : decode cX8_request 54 = .ok (.iconst 0, 1) := by decide +kernel
theorem dX8_request_55 : decode cX8_request 55 = .ok (.ireturn, 1) := by decide +kernel
theorem dX8_request_56 : decode cX8_request 56 = .ok (.aload_n 0, 1) := by decide +kernel
theorem dX8_request_57 : decode cX8_request 57 = .ok (.getfield 88, 3) := by decide +kernel
theorem dX8_request_60 : decode cX8_request 60 = .ok (.aload_n 0, 1) := by decide +kernel
theorem dX8_request_61 : decode cX8_request 61 = .ok (.getfield 181, 3) := by decide +kernel
theorem dX8_request_64 : decode cX8_request 64 = .ok (.iload_n 1, 1) := by decide +kernel
theorem dX8_request_65 : decode cX8_request 65 = .ok (.iastore, 1) := by decide +kernel
theorem dX8_request_66 : decode cX8_request 66 = .ok (.aload_n 0, 1) := by decide +kernel
theorem dX8_request_67 : decode cX8_request 67 = .ok (.getfield 91, 3) := by decide +kernel
theorem dX8_request_70 : decode cX8_request 70 = .ok (.aload_n 0, 1) := by decide +kernel
theorem dX8_request_71 : decode cX8_request 71 = .ok (.getfield 181, 3) := by decide +kernel
theorem dX8_request_74 : decode cX8_request 74 = .ok (.iload_n 2, 1) := by decide +kernel
theorem dX8_request_75 : decode cX8_request 75 = .ok (.iastore, 1) := by decide +kernel
theorem dX8_request_76 : decode cX8_request 76 = .ok (.aload_n 0, 1) := by decide +kernel
theorem dX8_request_77 : decode cX8_request 77 = .ok (.getfield 94, 3) := by decide +kernel
theorem dX8_request_80 : decode cX8_request 80 = .ok (.aload_n 0, 1) := by decide +kernel
theorem dX8_request_81 : decode cX8_request 81 = .ok (.getfield 181, 3) := by decide +kernel
theorem dX8_request_84 : decode cX8_request 84 = .ok (.aload_n 0, 1) := by decide +kernel
theorem dX8_request_85 : decode cX8_request 85 = .ok (.getfield 132, 3) := by decide +kernel
theorem dX8_request_88 : decode cX8_request 88 = .ok (.iconst 2, 1) := by decide +kernel
theorem dX8_request_89 : decode cX8_request 89 = .ok (.iadd, 1) := by decide +kernel
theorem dX8_request_90 : decode cX8_request 90 = .ok (.aload_n 0, 1) := by decide +kernel
theorem dX8_request_91 : decode cX8_request 91 = .ok (.iload_n 1, 1) := by decide +kernel
theorem dX8_request_92 : decode cX8_request 92 = .ok (.bipush 97, 2) := by decide +kernel
theorem dX8_request_94 : decode cX8_request 94 = .ok (.iconst 0, 1) := by decide +kernel
theorem dX8_request_95 : decode cX8_request 95 = .ok (.invokevirtual 177, 3) := by decide +kernel
theorem dX8_request_98 : decode cX8_request 98 = .ok (.iconst 3, 1) := by decide +kernel
theorem dX8_request_99 : decode cX8_request 99 = .ok (.idiv, 1) := by decide +kernel
theorem dX8_request_100 : decode cX8_request 100 = .ok (.iadd, 1) := by decide +kernel
theorem dX8_request_101 : decode cX8_request 101 = .ok (.iastore, 1) := by decide +kernel
theorem dX8_request_102 : decode cX8_request 102 = .ok (.aload_n 0, 1) := by decide +kernel
theorem dX8_request_103 : decode cX8_request 103 = .ok (.getfield 97, 3) := by decide +kernel
theorem dX8_request_106 : decode cX8_request 106 = .ok (.aload_n 0, 1) := by decide +kernel
theorem dX8_request_107 : decode cX8_request 107 = .ok (.getfield 181, 3) := by decide +kernel
theorem dX8_request_110 : decode cX8_request 110 = .ok (.iconst (-1), 1) := by decide +kernel
theorem dX8_request_111 : decode cX8_request 111 = .ok (.iastore, 1) := by decide +kernel
theorem dX8_request_112 : decode cX8_request 112 = .ok (.aload_n 0, 1) := by decide +kernel
theorem dX8_request_113 : decode cX8_request 113 = .ok (.dup, 1) := by decide +kernel
theorem dX8_request_114 : decode cX8_request 114 = .ok (.getfield 181, 3) := by decide +kernel
theorem dX8_request_117 : decode cX8_request 117 = .ok (.iconst 1, 1) := by decide +kernel
theorem dX8_request_118 : decode cX8_request 118 = .ok (.iadd, 1) := by decide +kernel
theorem dX8_request_119 : decode cX8_request 119 = .ok (.putfield 181, 3) := by decide +kernel
theorem dX8_request_122 : decode cX8_request 122 = .ok (.aload_n 0, 1) := by decide +kernel
theorem dX8_request_123 : decode cX8_request 123 = .ok (.getfield 181, 3) := by decide +kernel
theorem dX8_request_126 : decode cX8_request 126 = .ok (.iconst 1, 1) := by decide +kernel
theorem dX8_request_127 : decode cX8_request 127 = .ok (.isub, 1) := by decide +kernel
theorem dX8_request_128 : decode cX8_request 128 = .ok (.ireturn, 1) := by decide +kernel
set_option maxRecDepth 20000 in
theorem ggX8_answer_X8_in : GoodIn wsX8_answer wsX8_in := goodIn_r _ [7] (by decide +kernel) (by decide +kernel)
set_option maxRecDepth 20000 in
theorem gX8_answer_X8_in : GoodIn wsX8_answer (va_wsS RX8 107 yX8_in wsX8_in) := goodIn_app (goodIn_of _ (by decide +kernel)) ggX8_answer_X8_in
set_option maxRecDepth 20000 in
theorem ggX8_answer_X8_fails : GoodIn wsX8_answer wsX8_fails := goodIn_r _ [11, 1, 12, 13, 14, 15, 16, 17, 18, 19, 20, 21, 22, 23, 24, 25, 26, 27, 28, 29, 30, 31, 32, 33, 34, 35, 36, 37, 38, 39, 40, 41, 42, 43, 44, 45, 46, 47] (by decide +kernel) (by decide +kernel)
set_option maxRecDepth 20000 in
theorem gX8_answer_X8_fails : GoodIn wsX8_answer (wsV RX8 160 RX8 yX8_fails wsX8_fails) := goodIn_app (goodIn_of _ (by decide +kernel)) ggX8_answer_X8_fails
theorem dX8_answer_0 : decode cX8_answer 0 = .ok (.aload_n 0, 1) := by decide +kernel
theorem dX8_answer_1 : decode cX8_answer 1 = .ok (.iconst 0, 1) := by decide +kernel
theorem dX8_answer_2 : decode cX8_answer 2 = .ok (.putfield 100, 3) := by decide +kernel
theorem dX8_answer_5 : decode cX8_answer 5 = .ok (.aload_n 0, 1) := by decide +kernel
theorem dX8_answer_6 : decode cX8_answer 6 = .ok (.iload_n 1, 1) := by decide +kernel
theorem dX8_answer_7 : decode cX8_answer 7 = .ok (.iconst 0, 1) := by decide +kernel
theorem dX8_answer_8 : decode cX8_answer 8 = .ok (.aload_n 0, 1) := by decide +kernel
theorem dX8_answer_9 : decode cX8_answer 9 = .ok (.getfield 181, 3) := by decide +kernel
theorem dX8_answer_12 : decode cX8_answer 12 = .ok (.iconst 1, 1) := by decide +kernel
theorem dX8_answer_13 : decode cX8_answer 13 = .ok (.isub, 1) := by decide +kernel
theorem dX8_answer_14 : decode cX8_answer 14 = .ok (.invokestatic 107, 3) := by decide +kernel
theorem dX8_answer_17 : decode cX8_answer 17 = .ok (.ifCond .ne 7, 3) := by decide +kernel
theorem dX8_answer_20 : decode cX8_answer 20 = .ok (.iconst 1, 1) := by decide +kernel
theorem dX8_answer_21 : decode cX8_answer 21 = .ok (.goto 4, 3) := by decide +kernel
theorem dX8_answer_24 : decode cX8_answer 24 = .ok (.iconst 0, 1) := by decide +kernel
theorem dX8_answer_25 : decode cX8_answer 25 = .ok (.iconst 1, 1) := by decide +kernel
theorem dX8_answer_26 : decode cX8_answer 26 = .ok (.invokevirtual 160, 3) := by decide +kernel
theorem dX8_answer_29 : decode cX8_answer 29 = .ok (.ifCond .ne 26, 3) := by decide +kernel
theorem dX8_answer_32 : decode cX8_answer 32 = .ok (.aload_n 0, 1) := by decide +kernel
theorem dX8_answer_33 : decode cX8_answer 33 = .ok (.aload_n 0, 1) := by decide +kernel
theorem dX8_answer_34 : decode cX8_answer 34 = .ok (.getfield 97, 3) := by decide +kernel
theorem dX8_answer_37 : decode cX8_answer 37 = .ok (.iload_n 1, 1) := by decide +kernel
theorem dX8_answer_38 : decode cX8_answer 38 = .ok (.iaload, 1) := by decide +kernel
theorem dX8_answer_39 : decode cX8_answer 39 = .ok (.iconst (-1), 1) := by decide +kernel
theorem dX8_answer_40 : decode cX8_answer 40 = .ok (.if_icmp .ne 7, 3) := by decide +kernel
theorem dX8_answer_43 : decode cX8_answer 43 = .ok (.iconst 1, 1) := by decide +kernel
theorem dX8_answer_44 : decode cX8_answer 44 = .ok (.goto 4, 3) := by decide +kernel
theorem dX8_answer_47 : decode cX8_answer 47 = .ok (.iconst 0, 1) := by decide +kernel
theorem dX8_answer_48 : decode cX8_answer 48 = .ok (.iconst 2, 1) := by decide +kernel
theorem dX8_answer_49 : decode cX8_answer 49 = .ok (.invokevirtual 160, 3) := by decide +kernel
theorem dX8_answer_52 : decode cX8_answer 52 = .ok (.ifCond .eq 7, 3) := by decide +kernel
theorem dX8_answer_55 : decode cX8_answer 55 = .ok (.iconst 0, 1) := by decide +kernel
theorem dX8_answer_56 : decode cX8_answer 56 = .ok (.goto 9, 3) := by decide +kernel
theorem dX8_answer_59 : decode cX8_answer 59 = .ok (.aload_n 0, 1) := by decide +kernel
theorem dX8_answer_60 : decode cX8_answer 60 = .ok (.getfield 97, 3) := by decide +kernel
theorem dX8_answer_63 : decode cX8_answer 63 = .ok (.iload_n 1, 1) := by decide +kernel
theorem dX8_answer_64 : decode cX8_answer 64 = .ok (.iaload, 1) := by decide +kernel
theorem dX8_answer_65 : decode cX8_answer 65 = .ok (.ireturn, 1) := by decide +kernel
set_option maxRecDepth 20000 in
theorem ggX8_addAlert_X8_isSource : GoodIn wsX8_addAlert wsX8_isSource := goodIn_r _ [14, 15, 16, 13, 17] (by decide +kernel) (by decide +kernel)
set_option maxRecDepth 20000 in
theorem gX8_addAlert_X8_isSource : GoodIn wsX8_addAlert (va_wsS RX8 154 yX8_isSource wsX8_isSource) := goodIn_app (goodIn_of _ (by decide +kernel)) ggX8_addAlert_X8_isSource
set_option maxRecDepth 20000 in
theorem ggX8_addAlert_X8_isRank : GoodIn wsX8_addAlert wsX8_isRank := goodIn_r _ [20, 15, 16, 13, 17] (by decide +kernel) (by decide +kernel)
set_option maxRecDepth 20000 in
theorem gX8_addAlert_X8_isRank : GoodIn wsX8_addAlert (va_wsS RX8 157 yX8_isRank wsX8_isRank) := goodIn_app (goodIn_of _ (by decide +kernel)) ggX8_addAlert_X8_isRank
set_option maxRecDepth 20000 in
theorem ggX8_addAlert_X8_in : GoodIn wsX8_addAlert wsX8_in := goodIn_r _ [17] (by decide +kernel) (by decide +kernel)
set_option maxRecDepth 20000 in
theorem gX8_addAlert_X8_in : GoodIn wsX8_addAlert (va_wsS RX8 107 yX8_in wsX8_in) := goodIn_app (goodIn_of _ (by decide +kernel)) ggX8_addAlert_X8_in
set_option maxRecDepth 20000 in
theorem ggX8_addAlert_X8_fails : GoodIn wsX8_addAlert wsX8_fails := goodIn_r _ [24, 1, 50, 51, 52, 53, 54, 55, 56, 57, 58, 59, 60, 61, 62, 63, 64, 65, 66, 67, 68, 69, 70, 71, 72, 73, 74, 75, 76, 77, 78, 79, 80, 81, 82, 83, 84, 85] (by decide +kernel) (by decide +kernel)
set_option maxRecDepth 20000 in
theorem gX8_addAlert_X8_fails : GoodIn wsX8_addAlert (wsV RX8 160 RX8 yX8_fails wsX8_fails) := goodIn_app (goodIn_of _ (by decide +kernel)) ggX8_addAlert_X8_fails
set_option maxRecDepth 20000 in
theorem ggX8_addAlert_X8_look : GoodIn wsX8_addAlert wsX8_look := goodIn_ca (goodIn_r _ [28, 7, 10, 9, 29, 30, 31, 32, 33, 34, 35, 36, 37, 38, 39, 13, 40, 41, 42, 43, 44, 45, 46, 3, 47, 4, 48, 8, 5, 49, 6, 50, 51, 52, 53, 54, 55, 56, 57, 58, 59, 60, 61, 62, 63, 64, 65, 66, 67, 68, 69, 70, 71, 72, 73, 74, 75, 76, 77, 78, 79, 80, 81, 82, 83, 84, 85] (by decide +kernel) (by decide +kernel)) (goodIn_sub (fun _ h => List.mem_cons_of_mem _ (List.mem_append_right _ h)) (by decide +kernel))
set_option maxRecDepth 20000 in
theorem gX8_addAlert_X8_look : GoodIn wsX8_addAlert (wsV RX8 168 RX8 yX8_look wsX8_look) := goodIn_app (goodIn_of _ (by decide +kernel)) ggX8_addAlert_X8_look
theorem dX8_addAlert_0 : decode cX8_addAlert 0 = .ok (.aload_n 0, 1) := by decide +kernel
theorem dX8_addAlert_1 : decode cX8_addAlert 1 = .ok (.iconst 0, 1) := by decide +kernel
theorem dX8_addAlert_2 : decode cX8_addAlert 2 = .ok (.putfield 100, 3) := by decide +kernel
theorem dX8_addAlert_5 : decode cX8_addAlert 5 = .ok (.iload_n 1, 1) := by decide +kernel
theorem dX8_addAlert_6 : decode cX8_addAlert 6 = .ok (.invokestatic 154, 3) := by decide +kernel
theorem dX8_addAlert_9 : decode cX8_addAlert 9 = .ok (.ifCond .eq 67, 3) := by decide +kernel
theorem dX8_addAlert_12 : decode cX8_addAlert 12 = .ok (.iload_n 2, 1) := by decide +kernel
theorem dX8_addAlert_13 : decode cX8_addAlert 13 = .ok (.invokestatic 157, 3) := by decide +kernel
theorem dX8_addAlert_16 : decode cX8_addAlert 16 = .ok (.ifCond .eq 60, 3) := by decide +kernel
theorem dX8_addAlert_19 : decode cX8_addAlert 19 = .ok (.iload_n 3, 1) := by decide +kernel
theorem dX8_addAlert_20 : decode cX8_addAlert 20 = .ok (.iconst (-1), 1) := by decide +kernel
theorem dX8_addAlert_21 : decode cX8_addAlert 21 = .ok (.iconst 2, 1) := by decide +kernel
theorem dX8_addAlert_22 : decode cX8_addAlert 22 = .ok (.invokestatic 107, 3) := by decide +kernel
theorem dX8_addAlert_25 : decode cX8_addAlert 25 = .ok (.ifCond .eq 51, 3) := by decide +kernel
theorem dX8_addAlert_28 : decode cX8_addAlert 28 = .ok (.iload 4, 2) := by decide +kernel
theorem dX8_addAlert_30 : decode cX8_addAlert 30 = .ok (.iconst 0, 1) := by decide +kernel
theorem dX8_addAlert_31 : decode cX8_addAlert 31 = .ok (.bipush 99, 2) := by decide +kernel
theorem dX8_addAlert_33 : decode cX8_addAlert 33 = .ok (.invokestatic 107, 3) := by decide +kernel
theorem dX8_addAlert_36 : decode cX8_addAlert 36 = .ok (.ifCond .eq 40, 3) := by decide +kernel
theorem dX8_addAlert_39 : decode cX8_addAlert 39 = .ok (.iload 5, 2) := by decide +kernel
theorem dX8_addAlert_41 : decode cX8_addAlert 41 = .ok (.iconst 1, 1) := by decide +kernel
theorem dX8_addAlert_42 : decode cX8_addAlert 42 = .ok (.bipush 9, 2) := by decide +kernel
theorem dX8_addAlert_44 : decode cX8_addAlert 44 = .ok (.invokestatic 107, 3) := by decide +kernel
theorem dX8_addAlert_47 : decode cX8_addAlert 47 = .ok (.ifCond .eq 29, 3) := by decide +kernel
theorem dX8_addAlert_50 : decode cX8_addAlert 50 = .ok (.iload 6, 2) := by decide +kernel
theorem dX8_addAlert_52 : decode cX8_addAlert 52 = .ok (.iconst 1, 1) := by decide +kernel
theorem dX8_addAlert_53 : decode cX8_addAlert 53 = .ok (.bipush 50, 2) := by decide +kernel
theorem dX8_addAlert_55 : decode cX8_addAlert 55 = .ok (.invokestatic 107, 3) := by decide +kernel
theorem dX8_addAlert_58 : decode cX8_addAlert 58 = .ok (.ifCond .eq 18, 3) := by decide +kernel
theorem dX8_addAlert_61 : decode cX8_addAlert 61 = .ok (.iload 7, 2) := by decide +kernel
theorem dX8_addAlert_63 : decode cX8_addAlert 63 = .ok (.iconst 0, 1) := by decide +kernel
theorem dX8_addAlert_64 : decode cX8_addAlert 64 = .ok (.bipush 20, 2) := by decide +kernel
theorem dX8_addAlert_66 : decode cX8_addAlert 66 = .ok (.invokestatic 107, 3) := by decide +kernel
theorem dX8_addAlert_69 : decode cX8_addAlert 69 = .ok (.ifCond .eq 7, 3) := by decide +kernel
theorem dX8_addAlert_72 : decode cX8_addAlert 72 = .ok (.iconst 1, 1) := by decide +kernel
theorem dX8_addAlert_73 : decode cX8_addAlert 73 = .ok (.goto 4, 3) := by decide +kernel
theorem dX8_addAlert_76 : decode cX8_addAlert 76 = .ok (.iconst 0, 1) := by decide +kernel
theorem dX8_addAlert_77 : decode cX8_addAlert 77 = .ok (.istore 8, 2) := by decide +kernel
theorem dX8_addAlert_79 : decode cX8_addAlert 79 = .ok (.aload_n 0, 1) := by decide +kernel
theorem dX8_addAlert_80 : decode cX8_addAlert 80 = .ok (.iload 8, 2) := by decide +kernel
theorem dX8_addAlert_82 : decode cX8_addAlert 82 = .ok (.ifCond .ne 7, 3) := by decide +kernel
theorem dX8_addAlert_85 : decode cX8_addAlert 85 = .ok (.iconst 1, 1) := by decide +kernel
theorem dX8_addAlert_86 : decode cX8_addAlert 86 = .ok (.goto 4, 3) := by decide +kernel
theorem dX8_addAlert_89 : decode cX8_addAlert 89 = .ok (.iconst 0, 1) := by decide +kernel
theorem dX8_addAlert_90 : decode cX8_addAlert 90 = .ok (.iconst 1, 1) := by decide +kernel
theorem dX8_addAlert_91 : decode cX8_addAlert 91 = .ok (.invokevirtual 160, 3) := by decide +kernel
theorem dX8_addAlert_94 : decode cX8_addAlert 94 = .ok (.ifCond .ne 25, 3) := by decide +kernel
theorem dX8_addAlert_97 : decode cX8_addAlert 97 = .ok (.aload_n 0, 1) := by decide +kernel
theorem dX8_addAlert_98 : decode cX8_addAlert 98 = .ok (.aload_n 0, 1) := by decide +kernel
theorem dX8_addAlert_99 : decode cX8_addAlert 99 = .ok (.getfield 114, 3) := by decide +kernel
theorem dX8_addAlert_102 : decode cX8_addAlert 102 = .ok (.bipush 6, 2) := by decide +kernel
theorem dX8_addAlert_104 : decode cX8_addAlert 104 = .ok (.if_icmp .ne 7, 3) := by decide +kernel
theorem dX8_addAlert_107 : decode cX8_addAlert 107 = .ok (.iconst 1, 1) := by decide +kernel
theorem dX8_addAlert_108 : decode cX8_addAlert 108 = .ok (.goto 4, 3) := by decide +kernel
theorem dX8_addAlert_111 : decode cX8_addAlert 111 = .ok (.iconst 0, 1) := by decide +kernel
theorem dX8_addAlert_112 : decode cX8_addAlert 112 = .ok (.iconst 2, 1) := by decide +kernel
theorem dX8_addAlert_113 : decode cX8_addAlert 113 = .ok (.invokevirtual 160, 3) := by decide +kernel
theorem dX8_addAlert_116 : decode cX8_addAlert 116 = .ok (.ifCond .eq 5, 3) := by decide +kernel
theorem dX8_addAlert_119 : decode cX8_addAlert 119 = .ok (.iconst 0, 1) := by decide +kernel
theorem dX8_addAlert_120 : decode cX8_addAlert 120 = .ok (.ireturn, 1) := by decide +kernel
theorem dX8_addAlert_121 : decode cX8_addAlert 121 = .ok (.aload_n 0, 1) := by decide +kernel
theorem dX8_addAlert_122 : decode cX8_addAlert 122 = .ok (.getfield 114, 3) := by decide +kernel
theorem dX8_addAlert_125 : decode cX8_addAlert 125 = .ok (.istore 9, 2) := by decide +kernel
theorem dX8_addAlert_127 : decode cX8_addAlert 127 = .ok (.aload_n 0, 1) := by decide +kernel
theorem dX8_addAlert_128 : decode cX8_addAlert 128 = .ok (.getfield 42, 3) := by decide +kernel
theorem dX8_addAlert_131 : decode cX8_addAlert 131 = .ok (.iload 9, 2) := by decide +kernel
theorem dX8_addAlert_133 : decode cX8_addAlert 133 = .ok (.iload_n 1, 1) := by decide +kernel
theorem dX8_addAlert_134 : decode cX8_addAlert 134 = .ok (.iastore, 1) := by decide +kernel
theorem dX8_addAlert_135 : decode cX8_addAlert 135 = .ok (.aload_n 0, 1) := by decide +kernel
theorem dX8_addAlert_136 : decode cX8_addAlert 136 = .ok (.getfield 45, 3) := by decide +kernel
theorem dX8_addAlert_139 : decode cX8_addAlert 139 = .ok (.iload 9, 2) := by decide +kernel
theorem dX8_addAlert_141 : decode cX8_addAlert 141 = .ok (.iload_n 2, 1) := by decide +kernel
theorem dX8_addAlert_142 : decode cX8_addAlert 142 = .ok (.iastore, 1) := by decide +kernel
theorem dX8_addAlert_143 : decode cX8_addAlert 143 = .ok (.aload_n 0, 1) := by decide +kernel
theorem dX8_addAlert_144 : decode cX8_addAlert 144 = .ok (.getfield 48, 3) := by decide +kernel
theorem dX8_addAlert_147 : decode cX8_addAlert 147 = .ok (.iload 9, 2) := by decide +kernel
theorem dX8_addAlert_149 : decode cX8_addAlert 149 = .ok (.iload_n 3, 1) := by decide +kernel
theorem dX8_addAlert_150 : decode cX8_addAlert 150 = .ok (.iastore, 1) := by decide +kernel
theorem dX8_addAlert_151 : decode cX8_addAlert 151 = .ok (.aload_n 0, 1) := by decide +kernel
theorem dX8_addAlert_152 : decode cX8_addAlert 152 = .ok (.getfield 51, 3) := by decide +kernel
theorem dX8_addAlert_155 : decode cX8_addAlert 155 = .ok (.iload 9, 2) := by decide +kernel
theorem dX8_addAlert_157 : decode cX8_addAlert 157 = .ok (.iload 4, 2) := by decide +kernel
theorem dX8_addAlert_159 : decode cX8_addAlert 159 = .ok (.iastore, 1) := by decide +kernel
theorem dX8_addAlert_160 : decode cX8_addAlert 160 = .ok (.aload_n 0, 1) := by decide +kernel
theorem dX8_addAlert_161 : decode cX8_addAlert 161 = .ok (.getfield 54, 3) := by decide +kernel
theorem dX8_addAlert_164 : decode cX8_addAlert 164 = .ok (.iload 9, 2) := by decide +kernel
theorem dX8_addAlert_166 : decode cX8_addAlert 166 = .ok (.iload 5, 2) := by decide +kernel
theorem dX8_addAlert_168 : decode cX8_addAlert 168 = .ok (.iastore, 1) := by decide +kernel
theorem dX8_addAlert_169 : decode cX8_addAlert 169 = .ok (.aload_n 0, 1) := by decide +kernel
theorem dX8_addAlert_170 : decode cX8_addAlert 170 = .ok (.getfield 57, 3) := by decide +kernel
theorem dX8_addAlert_173 : decode cX8_addAlert 173 = .ok (.iload 9, 2) := by decide +kernel
theorem dX8_addAlert_175 : decode cX8_addAlert 175 = .ok (.iload 6, 2) := by decide +kernel
theorem dX8_addAlert_177 : decode cX8_addAlert 177 = .ok (.iastore, 1) := by decide +kernel
theorem dX8_addAlert_178 : decode cX8_addAlert 178 = .ok (.aload_n 0, 1) := by decide +kernel
theorem dX8_addAlert_179 : decode cX8_addAlert 179 = .ok (.getfield 60, 3) := by decide +kernel
theorem dX8_addAlert_182 : decode cX8_addAlert 182 = .ok (.iload 9, 2) := by decide +kernel
theorem dX8_addAlert_184 : decode cX8_addAlert 184 = .ok (.iload 7, 2) := by decide +kernel
theorem dX8_addAlert_186 : decode cX8_addAlert 186 = .ok (.iastore, 1) := by decide +kernel
theorem dX8_addAlert_187 : decode cX8_addAlert 187 = .ok (.aload_n 0, 1) := by decide +kernel
theorem dX8_addAlert_188 : decode cX8_addAlert 188 = .ok (.getfield 63, 3) := by decide +kernel
theorem dX8_addAlert_191 : decode cX8_addAlert 191 = .ok (.iload 9, 2) := by decide +kernel
theorem dX8_addAlert_193 : decode cX8_addAlert 193 = .ok (.bipush 113, 2) := by decide +kernel
theorem dX8_addAlert_195 : decode cX8_addAlert 195 = .ok (.castore, 1) := by decide +kernel
theorem dX8_addAlert_196 : decode cX8_addAlert 196 = .ok (.aload_n 0, 1) := by decide +kernel
theorem dX8_addAlert_197 : decode cX8_addAlert 197 = .ok (.dup, 1) := by decide +kernel
theorem dX8_addAlert_198 : decode cX8_addAlert 198 = .ok (.getfield 114, 3) := by decide +kernel
theorem dX8_addAlert_201 : decode cX8_addAlert 201 = .ok (.iconst 1, 1) := by decide +kernel
theorem dX8_addAlert_202 : decode cX8_addAlert 202 = .ok (.iadd, 1) := by decide +kernel
theorem dX8_addAlert_203 : decode cX8_addAlert 203 = .ok (.putfield 114, 3) := by decide +kernel
theorem dX8_addAlert_206 : decode cX8_addAlert 206 = .ok (.aload_n 0, 1) := by decide +kernel
theorem dX8_addAlert_207 : decode cX8_addAlert 207 = .ok (.iload 9, 2) := by decide +kernel
theorem dX8_addAlert_209 : decode cX8_addAlert 209 = .ok (.invokevirtual 168, 3) := by decide +kernel
theorem dX8_addAlert_212 : decode cX8_addAlert 212 = .ok (.iload 9, 2) := by decide +kernel
theorem dX8_addAlert_214 : decode cX8_addAlert 214 = .ok (.ireturn, 1) := by decide +kernel
set_option maxRecDepth 20000 in
theorem ggX8_alertState_X8_noAlert : GoodIn wsX8_alertState wsX8_noAlert := goodIn_r _ [7, 8, 9, 10, 6, 11, 16, 17, 18, 19, 20, 21, 22, 23, 24, 25, 26, 27, 28, 29, 30, 31, 32, 33, 34, 35, 36, 37, 38, 39, 40, 41, 42, 43, 44, 45, 46, 47, 48, 49, 50, 51] (by decide +kernel) (by decide +kernel)
set_option maxRecDepth 20000 in
theorem gX8_alertState_X8_noAlert : GoodIn wsX8_alertState (wsV RX8 184 RX8 yX8_noAlert wsX8_noAlert) := goodIn_app (goodIn_of _ (by decide +kernel)) ggX8_alertState_X8_noAlert
set_option maxRecDepth 20000 in
theorem ggX8_alertState_X8_fails : GoodIn wsX8_alertState wsX8_fails := goodIn_r _ [15, 1, 16, 17, 18, 19, 20, 21, 22, 23, 24, 25, 26, 27, 28, 29, 30, 31, 32, 33, 34, 35, 36, 37, 38, 39, 40, 41, 42, 43, 44, 45, 46, 47, 48, 49, 50, 51] (by decide +kernel) (by decide +kernel)
set_option maxRecDepth 20000 in
theorem gX8_alertState_X8_fails : GoodIn wsX8_alertState (wsV RX8 160 RX8 yX8_fails wsX8_fails) := goodIn_app (goodIn_of _ (by decide +kernel)) ggX8_alertState_X8_fails
theorem dX8_alertState_0 : decode cX8_alertState 0 = .ok (.aload_n 0, 1) := by decide +kernel
theorem dX8_alertState_1 : decode cX8_alertState 1 = .ok (.iconst 0, 1) := by decide +kernel
theorem dX8_alertState_2 : decode cX8_alertState 2 = .ok (.putfield 100, 3) := by decide +kernel
theorem dX8_alertState_5 : decode cX8_alertState 5 = .ok (.aload_n 0, 1) := by decide +kernel
theorem dX8_alertState_6 : decode cX8_alertState 6 = .ok (.aload_n 0, 1) := by decide +kernel
theorem dX8_alertState_7 : decode cX8_alertState 7 = .ok (.iload_n 1, 1) := by decide +kernel
theorem dX8_alertState_8 : decode cX8_alertState 8 = .ok (.invokevirtual 184, 3) := by decide +kernel
theorem dX8_alertState_11 : decode cX8_alertState 11 = .ok (.iconst 1, 1) := by decide +kernel
theorem dX8_alertState_12 : decode cX8_alertState 12 = .ok (.invokevirtual 160, 3) := by decide +kernel
theorem dX8_alertState_15 : decode cX8_alertState 15 = .ok (.ifCond .eq 7, 3) := by decide +kernel
theorem dX8_alertState_18 : decode cX8_alertState 18 = .ok (.iconst 0, 1) := by decide +kernel
theorem dX8_alertState_19 : decode cX8_alertState 19 = .ok (.goto 9, 3) := by decide +kernel
theorem dX8_alertState_22 : decode cX8_alertState 22 = .ok (.aload_n 0, 1) := by decide +kernel
theorem dX8_alertState_23 : decode cX8_alertState 23 = .ok (.getfield 63, 3) := by decide +kernel
theorem dX8_alertState_26 : decode cX8_alertState 26 = .ok (.iload_n 1, 1) := by decide +kernel
theorem dX8_alertState_27 : decode cX8_alertState 27 = .ok (.caload, 1) := by decide +kernel
theorem dX8_alertState_28 : decode cX8_alertState 28 = .ok (.ireturn, 1) := by decide +kernel
set_option maxRecDepth 20000 in
theorem ggX8_counted_X8_noAlert : GoodIn wsX8_counted wsX8_noAlert := goodIn_r _ [6, 7, 8, 9, 5, 10, 35, 36, 37, 38, 39, 40, 41, 42, 43, 44, 45, 46, 47, 48, 49, 50, 51, 52, 53, 54, 55, 56, 57, 58, 59, 60, 61, 62, 63, 64, 65, 66, 67, 68, 69, 70] (by decide +kernel) (by decide +kernel)
set_option maxRecDepth 20000 in
theorem gX8_counted_X8_noAlert : GoodIn wsX8_counted (wsV RX8 184 RX8 yX8_noAlert wsX8_noAlert) := goodIn_app (goodIn_of _ (by decide +kernel)) ggX8_counted_X8_noAlert
set_option maxRecDepth 20000 in
theorem ggX8_counted_X8_fails : GoodIn wsX8_counted wsX8_fails := goodIn_r _ [14, 1, 35, 36, 37, 38, 39, 40, 41, 42, 43, 44, 45, 46, 47, 48, 49, 50, 51, 52, 53, 54, 55, 56, 57, 58, 59, 60, 61, 62, 63, 64, 65, 66, 67, 68, 69, 70] (by decide +kernel) (by decide +kernel)
set_option maxRecDepth 20000 in
theorem gX8_counted_X8_fails : GoodIn wsX8_counted (wsV RX8 160 RX8 yX8_fails wsX8_fails) := goodIn_app (goodIn_of _ (by decide +kernel)) ggX8_counted_X8_fails
set_option maxRecDepth 20000 in
theorem ggX8_counted_X8_countNow : GoodIn wsX8_counted wsX8_countNow := goodIn_ca (goodIn_r _ [18, 19, 20, 21, 22, 5, 23, 24, 25, 26, 27, 28, 29, 30, 31, 32, 33, 34, 35, 36, 37, 38, 39, 40, 41, 42, 43, 44, 45, 46, 47, 48, 49, 50, 51, 52, 53, 54, 55, 56, 57, 58, 59, 60, 61, 62, 63, 64, 65, 66, 67, 68, 69, 70] (by decide +kernel) (by decide +kernel)) (goodIn_sub (fun _ h => List.mem_cons_of_mem _ (List.mem_append_right _ h)) (by decide +kernel))
set_option maxRecDepth 20000 in
theorem gX8_counted_X8_countNow : GoodIn wsX8_counted (wsV RX8 138 RX8 yX8_countNow wsX8_countNow) := goodIn_app (goodIn_of _ (by decide +kernel)) ggX8_counted_X8_countNow
theorem dX8_counted_0 : decode cX8_counted 0 = .ok (.aload_n 0, 1) := by decide +kernel
theorem dX8_counted_1 : decode cX8_counted 1 = .ok (.iconst 0, 1) := by decide +kernel
theorem dX8_counted_2 : decode cX8_counted 2 = .ok (.putfield 100, 3) := by decide +kernel
theorem dX8_counted_5 : decode cX8_counted 5 = .ok (.aload_n 0, 1) := by decide +kernel
theorem dX8_counted_6 : decode cX8_counted 6 = .ok (.aload_n 0, 1) := by decide +kernel
theorem dX8_counted_7 : decode cX8_counted 7 = .ok (.iload_n 1, 1) := by decide +kernel
theorem dX8_counted_8 : decode cX8_counted 8 = .ok (.invokevirtual 184, 3) := by decide +kernel
theorem dX8_counted_11 : decode cX8_counted 11 = .ok (.iconst 1, 1) := by decide +kernel
theorem dX8_counted_12 : decode cX8_counted 12 = .ok (.invokevirtual 160, 3) := by decide +kernel
theorem dX8_counted_15 : decode cX8_counted 15 = .ok (.ifCond .eq 7, 3) := by decide +kernel
theorem dX8_counted_18 : decode cX8_counted 18 = .ok (.iconst 0, 1) := by decide +kernel
theorem dX8_counted_19 : decode cX8_counted 19 = .ok (.goto 8, 3) := by decide +kernel
theorem dX8_counted_22 : decode cX8_counted 22 = .ok (.aload_n 0, 1) := by decide +kernel
theorem dX8_counted_23 : decode cX8_counted 23 = .ok (.iload_n 1, 1) := by decide +kernel
theorem dX8_counted_24 : decode cX8_counted 24 = .ok (.invokevirtual 138, 3) := by decide +kernel
theorem dX8_counted_27 : decode cX8_counted 27 = .ok (.ireturn, 1) := by decide +kernel
set_option maxRecDepth 20000 in
theorem ggX8_countedAnew_X8_counted : GoodIn wsX8_countedAnew wsX8_counted := goodIn_ca (goodIn_r _ [5, 6, 7, 8, 9, 4, 10, 11, 12, 13, 14, 15, 16, 17, 18, 19, 20, 21, 22, 23, 24, 25, 26, 27, 28, 29, 30, 31, 32, 33, 34, 35, 36, 37, 38, 39, 40, 41, 42, 43, 44, 45, 46, 47, 48, 49, 50, 51, 52, 53, 54, 55, 56, 57, 58, 59, 60, 61, 62, 63, 64, 65, 66, 67, 68, 69, 70, 71, 72, 73, 74] (by decide +kernel) (by decide +kernel)) (goodIn_sub (fun _ h => List.mem_cons_of_mem _ (List.mem_append_right _ h)) (by decide +kernel))
set_option maxRecDepth 20000 in
theorem gX8_countedAnew_X8_counted : GoodIn wsX8_countedAnew (wsV RX8 187 RX8 yX8_counted wsX8_counted) := goodIn_app (goodIn_of _ (by decide +kernel)) ggX8_countedAnew_X8_counted
theorem dX8_countedAnew_0 : decode cX8_countedAnew 0 = .ok (.aload_n 0, 1) := by decide +kernel
theorem dX8_countedAnew_1 : decode cX8_countedAnew 1 = .ok (.iload_n 1, 1) := by decide +kernel
theorem dX8_countedAnew_2 : decode cX8_countedAnew 2 = .ok (.invokevirtual 187, 3) := by decide +kernel
theorem dX8_countedAnew_5 : decode cX8_countedAnew 5 = .ok (.ireturn, 1) := by decide +kernel
set_option maxRecDepth 20000 in
theorem ggX8_heldFor_X8_noAlert : GoodIn wsX8_heldFor wsX8_noAlert := goodIn_r _ [8, 9, 10, 11, 7, 12, 17, 18, 19, 20, 21, 22, 23, 24, 25, 26, 27, 28, 29, 30, 31, 32, 33, 34, 35, 36, 37, 38, 39, 40, 41, 42, 43, 44, 45, 46, 47, 48, 49, 50, 51, 52] (by decide +kernel) (by decide +kernel)
set_option maxRecDepth 20000 in
theorem gX8_heldFor_X8_noAlert : GoodIn wsX8_heldFor (wsV RX8 184 RX8 yX8_noAlert wsX8_noAlert) := goodIn_app (goodIn_of _ (by decide +kernel)) ggX8_heldFor_X8_noAlert
set_option maxRecDepth 20000 in
theorem ggX8_heldFor_X8_fails : GoodIn wsX8_heldFor wsX8_fails := goodIn_r _ [16, 1, 17, 18, 19, 20, 21, 22, 23, 24, 25, 26, 27, 28, 29, 30, 31, 32, 33, 34, 35, 36, 37, 38, 39, 40, 41, 42, 43, 44, 45, 46, 47, 48, 49, 50, 51, 52] (by decide +kernel) (by decide +kernel)
set_option maxRecDepth 20000 in
theorem gX8_heldFor_X8_fails : GoodIn wsX8_heldFor (wsV RX8 160 RX8 yX8_fails wsX8_fails) := goodIn_app (goodIn_of _ (by decide +kernel)) ggX8_heldFor_X8_fails
theorem dX8_heldFor_0 : decode cX8_heldFor 0 = .ok (.aload_n 0, 1) := by decide +kernel
theorem dX8_heldFor_1 : decode cX8_heldFor 1 = .ok (.iconst 0, 1) := by decide +kernel
theorem dX8_heldFor_2 : decode cX8_heldFor 2 = .ok (.putfield 100, 3) := by decide +kernel
theorem dX8_heldFor_5 : decode cX8_heldFor 5 = .ok (.aload_n 0, 1) := by decide +kernel
theorem dX8_heldFor_6 : decode cX8_heldFor 6 = .ok (.aload_n 0, 1) := by decide +kernel
theorem dX8_heldFor_7 : decode cX8_heldFor 7 = .ok (.iload_n 1, 1) := by decide +kernel
theorem dX8_heldFor_8 : decode cX8_heldFor 8 = .ok (.invokevirtual 184, 3) := by decide +kernel
theorem dX8_heldFor_11 : decode cX8_heldFor 11 = .ok (.iconst 1, 1) := by decide +kernel
theorem dX8_heldFor_12 : decode cX8_heldFor 12 = .ok (.invokevirtual 160, 3) := by decide +kernel
theorem dX8_heldFor_15 : decode cX8_heldFor 15 = .ok (.ifCond .ne 14, 3) := by decide +kernel
theorem dX8_heldFor_18 : decode cX8_heldFor 18 = .ok (.aload_n 0, 1) := by decide +kernel
theorem dX8_heldFor_19 : decode cX8_heldFor 19 = .ok (.getfield 63, 3) := by decide +kernel
theorem dX8_heldFor_22 : decode cX8_heldFor 22 = .ok (.iload_n 1, 1) := by decide +kernel
theorem dX8_heldFor_23 : decode cX8_heldFor 23 = .ok (.caload, 1) := by decide +kernel
theorem dX8_heldFor_24 : decode cX8_heldFor 24 = .ok (.bipush 104, 2) := by decide +kernel
theorem dX8_heldFor_26 : decode cX8_heldFor 26 = .ok (.if_icmp .eq 7, 3) := by decide +kernel
theorem dX8_heldFor_29 : decode cX8_heldFor 29 = .ok (.iconst 0, 1) := by decide +kernel
theorem dX8_heldFor_30 : decode cX8_heldFor 30 = .ok (.goto 9, 3) := by decide +kernel
theorem dX8_heldFor_33 : decode cX8_heldFor 33 = .ok (.aload_n 0, 1) := by decide +kernel
theorem dX8_heldFor_34 : decode cX8_heldFor 34 = .ok (.getfield 66, 3) := by decide +kernel
theorem dX8_heldFor_37 : decode cX8_heldFor 37 = .ok (.iload_n 1, 1) := by decide +kernel
theorem dX8_heldFor_38 : decode cX8_heldFor 38 = .ok (.iaload, 1) := by decide +kernel
theorem dX8_heldFor_39 : decode cX8_heldFor 39 = .ok (.ireturn, 1) := by decide +kernel
theorem dX8_firings_0 : decode cX8_firings 0 = .ok (.aload_n 0, 1) := by decide +kernel
theorem dX8_firings_1 : decode cX8_firings 1 = .ok (.iconst 0, 1) := by decide +kernel
theorem dX8_firings_2 : decode cX8_firings 2 = .ok (.putfield 100, 3) := by decide +kernel
theorem dX8_firings_5 : decode cX8_firings 5 = .ok (.aload_n 0, 1) := by decide +kernel
theorem dX8_firings_6 : decode cX8_firings 6 = .ok (.getfield 117, 3) := by decide +kernel
theorem dX8_firings_9 : decode cX8_firings 9 = .ok (.ireturn, 1) := by decide +kernel
set_option maxRecDepth 20000 in
theorem ggX8_alertOf_X8_noFiring : GoodIn wsX8_alertOf wsX8_noFiring := goodIn_r _ [7, 8, 9, 10, 6, 11, 16, 17, 18, 19, 20, 21, 22, 23, 24, 25, 26, 27, 28, 29, 30, 31, 32, 33, 34, 35, 36, 37, 38, 39, 40, 41, 42, 43, 44, 45, 46, 47, 48, 49, 50, 51] (by decide +kernel) (by decide +kernel)
set_option maxRecDepth 20000 in
theorem gX8_alertOf_X8_noFiring : GoodIn wsX8_alertOf (wsV RX8 190 RX8 yX8_noFiring wsX8_noFiring) := goodIn_app (goodIn_of _ (by decide +kernel)) ggX8_alertOf_X8_noFiring
set_option maxRecDepth 20000 in
theorem ggX8_alertOf_X8_fails : GoodIn wsX8_alertOf wsX8_fails := goodIn_r _ [15, 1, 16, 17, 18, 19, 20, 21, 22, 23, 24, 25, 26, 27, 28, 29, 30, 31, 32, 33, 34, 35, 36, 37, 38, 39, 40, 41, 42, 43, 44, 45, 46, 47, 48, 49, 50, 51] (by decide +kernel) (by decide +kernel)
set_option maxRecDepth 20000 in
theorem gX8_alertOf_X8_fails : GoodIn wsX8_alertOf (wsV RX8 160 RX8 yX8_fails wsX8_fails) := goodIn_app (goodIn_of _ (by decide +kernel)) ggX8_alertOf_X8_fails
theorem dX8_alertOf_0 : decode cX8_alertOf 0 = .ok (.aload_n 0, 1) := by decide +kernel
theorem dX8_alertOf_1 : decode cX8_alertOf 1 = .ok (.iconst 0, 1) := by decide +kernel
theorem dX8_alertOf_2 : decode cX8_alertOf 2 = .ok (.putfield 100, 3) := by decide +kernel
theorem dX8_alertOf_5 : decode cX8_alertOf 5 = .ok (.aload_n 0, 1) := by decide +kernel
theorem dX8_alertOf_6 : decode cX8_alertOf 6 = .ok (.aload_n 0, 1) := by decide +kernel
theorem dX8_alertOf_7 : decode cX8_alertOf 7 = .ok (.iload_n 1, 1) := by decide +kernel
theorem dX8_alertOf_8 : decode cX8_alertOf 8 = .ok (.invokevirtual 190, 3) := by decide +kernel
theorem dX8_alertOf_11 : decode cX8_alertOf 11 = .ok (.iconst 1, 1) := by decide +kernel
theorem dX8_alertOf_12 : decode cX8_alertOf 12 = .ok (.invokevirtual 160, 3) := by decide +kernel
theorem dX8_alertOf_15 : decode cX8_alertOf 15 = .ok (.ifCond .eq 7, 3) := by decide +kernel
theorem dX8_alertOf_18 : decode cX8_alertOf 18 = .ok (.iconst 0, 1) := by decide +kernel
theorem dX8_alertOf_19 : decode cX8_alertOf 19 = .ok (.goto 9, 3) := by decide +kernel
theorem dX8_alertOf_22 : decode cX8_alertOf 22 = .ok (.aload_n 0, 1) := by decide +kernel
theorem dX8_alertOf_23 : decode cX8_alertOf 23 = .ok (.getfield 72, 3) := by decide +kernel
theorem dX8_alertOf_26 : decode cX8_alertOf 26 = .ok (.iload_n 1, 1) := by decide +kernel
theorem dX8_alertOf_27 : decode cX8_alertOf 27 = .ok (.iaload, 1) := by decide +kernel
theorem dX8_alertOf_28 : decode cX8_alertOf 28 = .ok (.ireturn, 1) := by decide +kernel
set_option maxRecDepth 20000 in
theorem ggX8_firedAt_X8_noFiring : GoodIn wsX8_firedAt wsX8_noFiring := goodIn_r _ [7, 8, 9, 10, 6, 11, 16, 17, 18, 19, 20, 21, 22, 23, 24, 25, 26, 27, 28, 29, 30, 31, 32, 33, 34, 35, 36, 37, 38, 39, 40, 41, 42, 43, 44, 45, 46, 47, 48, 49, 50, 51] (by decide +kernel) (by decide +kernel)
set_option maxRecDepth 20000 in
theorem gX8_firedAt_X8_noFiring : GoodIn wsX8_firedAt (wsV RX8 190 RX8 yX8_noFiring wsX8_noFiring) := goodIn_app (goodIn_of _ (by decide +kernel)) ggX8_firedAt_X8_noFiring
set_option maxRecDepth 20000 in
theorem ggX8_firedAt_X8_fails : GoodIn wsX8_firedAt wsX8_fails := goodIn_r _ [15, 1, 16, 17, 18, 19, 20, 21, 22, 23, 24, 25, 26, 27, 28, 29, 30, 31, 32, 33, 34, 35, 36, 37, 38, 39, 40, 41, 42, 43, 44, 45, 46, 47, 48, 49, 50, 51] (by decide +kernel) (by decide +kernel)
set_option maxRecDepth 20000 in
theorem gX8_firedAt_X8_fails : GoodIn wsX8_firedAt (wsV RX8 160 RX8 yX8_fails wsX8_fails) := goodIn_app (goodIn_of _ (by decide +kernel)) ggX8_firedAt_X8_fails
theorem dX8_firedAt_0 : decode cX8_firedAt 0 = .ok (.aload_n 0, 1) := by decide +kernel
theorem dX8_firedAt_1 : decode cX8_firedAt 1 = .ok (.iconst 0, 1) := by decide +kernel
theorem dX8_firedAt_2 : decode cX8_firedAt 2 = .ok (.putfield 100, 3) := by decide +kernel
theorem dX8_firedAt_5 : decode cX8_firedAt 5 = .ok (.aload_n 0, 1) := by decide +kernel
theorem dX8_firedAt_6 : decode cX8_firedAt 6 = .ok (.aload_n 0, 1) := by decide +kernel
theorem dX8_firedAt_7 : decode cX8_firedAt 7 = .ok (.iload_n 1, 1) := by decide +kernel
theorem dX8_firedAt_8 : decode cX8_firedAt 8 = .ok (.invokevirtual 190, 3) := by decide +kernel
theorem dX8_firedAt_11 : decode cX8_firedAt 11 = .ok (.iconst 1, 1) := by decide +kernel
theorem dX8_firedAt_12 : decode cX8_firedAt 12 = .ok (.invokevirtual 160, 3) := by decide +kernel
theorem dX8_firedAt_15 : decode cX8_firedAt 15 = .ok (.ifCond .eq 7, 3) := by decide +kernel
theorem dX8_firedAt_18 : decode cX8_firedAt 18 = .ok (.iconst 0, 1) := by decide +kernel
theorem dX8_firedAt_19 : decode cX8_firedAt 19 = .ok (.goto 9, 3) := by decide +kernel
theorem dX8_firedAt_22 : decode cX8_firedAt 22 = .ok (.aload_n 0, 1) := by decide +kernel
theorem dX8_firedAt_23 : decode cX8_firedAt 23 = .ok (.getfield 75, 3) := by decide +kernel
theorem dX8_firedAt_26 : decode cX8_firedAt 26 = .ok (.iload_n 1, 1) := by decide +kernel
theorem dX8_firedAt_27 : decode cX8_firedAt 27 = .ok (.iaload, 1) := by decide +kernel
theorem dX8_firedAt_28 : decode cX8_firedAt 28 = .ok (.ireturn, 1) := by decide +kernel
set_option maxRecDepth 20000 in
theorem ggX8_ground_X8_noFiring : GoodIn wsX8_ground wsX8_noFiring := goodIn_r _ [7, 8, 9, 10, 6, 11, 22, 23, 24, 25, 26, 27, 28, 29, 30, 31, 32, 33, 34, 35, 36, 37, 38, 39, 40, 41, 42, 43, 44, 45, 46, 47, 48, 49, 50, 51, 52, 53, 54, 55, 56, 57] (by decide +kernel) (by decide +kernel)
set_option maxRecDepth 20000 in
theorem gX8_ground_X8_noFiring : GoodIn wsX8_ground (wsV RX8 190 RX8 yX8_noFiring wsX8_noFiring) := goodIn_app (goodIn_of _ (by decide +kernel)) ggX8_ground_X8_noFiring
set_option maxRecDepth 20000 in
theorem ggX8_ground_X8_fails : GoodIn wsX8_ground wsX8_fails := goodIn_r _ [15, 1, 22, 23, 24, 25, 26, 27, 28, 29, 30, 31, 32, 33, 34, 35, 36, 37, 38, 39, 40, 41, 42, 43, 44, 45, 46, 47, 48, 49, 50, 51, 52, 53, 54, 55, 56, 57] (by decide +kernel) (by decide +kernel)
set_option maxRecDepth 20000 in
theorem gX8_ground_X8_fails : GoodIn wsX8_ground (wsV RX8 160 RX8 yX8_fails wsX8_fails) := goodIn_app (goodIn_of _ (by decide +kernel)) ggX8_ground_X8_fails
set_option maxRecDepth 20000 in
theorem ggX8_ground_X8_isOn : GoodIn wsX8_ground wsX8_isOn := goodIn_ca (goodIn_r _ [19, 20, 21, 22, 23, 24, 25, 26, 27, 28, 29, 30, 31, 32, 33, 34, 35, 36, 37, 38, 39, 40, 41, 42, 43, 44, 45, 46, 47, 48, 49, 50, 51, 52, 53, 54, 55, 56, 57] (by decide +kernel) (by decide +kernel)) (goodIn_sub (fun _ h => List.mem_cons_of_mem _ (List.mem_append_right _ h)) (by decide +kernel))
set_option maxRecDepth 20000 in
theorem gX8_ground_X8_isOn : GoodIn wsX8_ground (wsV RX8 142 RX8 yX8_isOn wsX8_isOn) := goodIn_app (goodIn_of _ (by decide +kernel)) ggX8_ground_X8_isOn
theorem dX8_ground_0 : decode cX8_ground 0 = .ok (.aload_n 0, 1) := by decide +kernel
theorem dX8_ground_1 : decode cX8_ground 1 = .ok (.iconst 0, 1) := by decide +kernel
theorem dX8_ground_2 : decode cX8_ground 2 = .ok (.putfield 100, 3) := by decide +kernel
theorem dX8_ground_5 : decode cX8_ground 5 = .ok (.aload_n 0, 1) := by decide +kernel
theorem dX8_ground_6 : decode cX8_ground 6 = .ok (.aload_n 0, 1) := by decide +kernel
theorem dX8_ground_7 : decode cX8_ground 7 = .ok (.iload_n 1, 1) := by decide +kernel
theorem dX8_ground_8 : decode cX8_ground 8 = .ok (.invokevirtual 190, 3) := by decide +kernel
theorem dX8_ground_11 : decode cX8_ground 11 = .ok (.iconst 1, 1) := by decide +kernel
theorem dX8_ground_12 : decode cX8_ground 12 = .ok (.invokevirtual 160, 3) := by decide +kernel
theorem dX8_ground_15 : decode cX8_ground 15 = .ok (.ifCond .eq 5, 3) := by decide +kernel
theorem dX8_ground_18 : decode cX8_ground 18 = .ok (.iconst 0, 1) := by decide +kernel
theorem dX8_ground_19 : decode cX8_ground 19 = .ok (.ireturn, 1) := by decide +kernel
theorem dX8_ground_20 : decode cX8_ground 20 = .ok (.iconst 0, 1) := by decide +kernel
theorem dX8_ground_21 : decode cX8_ground 21 = .ok (.istore_n 2, 1) := by decide +kernel
theorem dX8_ground_22 : decode cX8_ground 22 = .ok (.iconst 0, 1) := by decide +kernel
theorem dX8_ground_23 : decode cX8_ground 23 = .ok (.istore_n 3, 1) := by decide +kernel
theorem dX8_ground_24 : decode cX8_ground 24 = .ok (.iload_n 3, 1) := by decide +kernel
theorem dX8_ground_25 : decode cX8_ground 25 = .ok (.aload_n 0, 1) := by decide +kernel
theorem dX8_ground_26 : decode cX8_ground 26 = .ok (.getfield 104, 3) := by decide +kernel
theorem dX8_ground_29 : decode cX8_ground 29 = .ok (.if_icmp .ge 26, 3) := by decide +kernel
theorem dX8_ground_32 : decode cX8_ground 32 = .ok (.iload_n 2, 1) := by decide +kernel
theorem dX8_ground_33 : decode cX8_ground 33 = .ok (.aload_n 0, 1) := by decide +kernel
theorem dX8_ground_34 : decode cX8_ground 34 = .ok (.iload_n 1, 1) := by decide +kernel
theorem dX8_ground_35 : decode cX8_ground 35 = .ok (.iload_n 3, 1) := by decide +kernel
theorem dX8_ground_36 : decode cX8_ground 36 = .ok (.invokevirtual 142, 3) := by decide +kernel
theorem dX8_ground_39 : decode cX8_ground 39 = .ok (.ifCond .eq 7, 3) := by decide +kernel
theorem dX8_ground_42 : decode cX8_ground 42 = .ok (.iconst 1, 1) := by decide +kernel
theorem dX8_ground_43 : decode cX8_ground 43 = .ok (.goto 4, 3) := by decide +kernel
theorem dX8_ground_46 : decode cX8_ground 46 = .ok (.iconst 0, 1) := by decide +kernel
theorem dX8_ground_47 : decode cX8_ground 47 = .ok (.iadd, 1) := by decide +kernel
theorem dX8_ground_48 : decode cX8_ground 48 = .ok (.istore_n 2, 1) := by decide +kernel
theorem dX8_ground_49 : decode cX8_ground 49 = .ok (.iinc 3 1, 3) := by decide +kernel
theorem dX8_ground_52 : decode cX8_ground 52 = .ok (.goto (-28), 3) := by decide +kernel
theorem dX8_ground_55 : decode cX8_ground 55 = .ok (.iload_n 2, 1) := by decide +kernel
theorem dX8_ground_56 : decode cX8_ground 56 = .ok (.ireturn, 1) := by decide +kernel
set_option maxRecDepth 20000 in
theorem ggX8_standsOn_X8_noFiring : GoodIn wsX8_standsOn wsX8_noFiring := goodIn_r _ [6, 7, 8, 9, 5, 10, 26, 27, 28, 29, 30, 31, 32, 33, 34, 35, 36, 37, 38, 39, 40, 41, 42, 43, 44, 45, 46, 47, 48, 49, 50, 51, 52, 53, 54, 55, 56, 57, 58, 59, 60, 61] (by decide +kernel) (by decide +kernel)
set_option maxRecDepth 20000 in
theorem gX8_standsOn_X8_noFiring : GoodIn wsX8_standsOn (wsV RX8 190 RX8 yX8_noFiring wsX8_noFiring) := goodIn_app (goodIn_of _ (by decide +kernel)) ggX8_standsOn_X8_noFiring
set_option maxRecDepth 20000 in
theorem ggX8_standsOn_X8_noLine : GoodIn wsX8_standsOn wsX8_noLine := goodIn_r _ [14, 15, 8, 9, 5, 10, 26, 27, 28, 29, 30, 31, 32, 33, 34, 35, 36, 37, 38, 39, 40, 41, 42, 43, 44, 45, 46, 47, 48, 49, 50, 51, 52, 53, 54, 55, 56, 57, 58, 59, 60, 61] (by decide +kernel) (by decide +kernel)
set_option maxRecDepth 20000 in
theorem gX8_standsOn_X8_noLine : GoodIn wsX8_standsOn (wsV RX8 171 RX8 yX8_noLine wsX8_noLine) := goodIn_app (goodIn_of _ (by decide +kernel)) ggX8_standsOn_X8_noLine
set_option maxRecDepth 20000 in
theorem ggX8_standsOn_X8_fails : GoodIn wsX8_standsOn wsX8_fails := goodIn_r _ [19, 1, 26, 27, 28, 29, 30, 31, 32, 33, 34, 35, 36, 37, 38, 39, 40, 41, 42, 43, 44, 45, 46, 47, 48, 49, 50, 51, 52, 53, 54, 55, 56, 57, 58, 59, 60, 61] (by decide +kernel) (by decide +kernel)
set_option maxRecDepth 20000 in
theorem gX8_standsOn_X8_fails : GoodIn wsX8_standsOn (wsV RX8 160 RX8 yX8_fails wsX8_fails) := goodIn_app (goodIn_of _ (by decide +kernel)) ggX8_standsOn_X8_fails
set_option maxRecDepth 20000 in
theorem ggX8_standsOn_X8_isOn : GoodIn wsX8_standsOn wsX8_isOn := goodIn_ca (goodIn_r _ [23, 24, 25, 26, 27, 28, 29, 30, 31, 32, 33, 34, 35, 36, 37, 38, 39, 40, 41, 42, 43, 44, 45, 46, 47, 48, 49, 50, 51, 52, 53, 54, 55, 56, 57, 58, 59, 60, 61] (by decide +kernel) (by decide +kernel)) (goodIn_sub (fun _ h => List.mem_cons_of_mem _ (List.mem_append_right _ h)) (by decide +kernel))
set_option maxRecDepth 20000 in
theorem gX8_standsOn_X8_isOn : GoodIn wsX8_standsOn (wsV RX8 142 RX8 yX8_isOn wsX8_isOn) := goodIn_app (goodIn_of _ (by decide +kernel)) ggX8_standsOn_X8_isOn
theorem dX8_standsOn_0 : decode cX8_standsOn 0 = .ok (.aload_n 0, 1) := by decide +kernel
theorem dX8_standsOn_1 : decode cX8_standsOn 1 = .ok (.iconst 0, 1) := by decide +kernel
theorem dX8_standsOn_2 : decode cX8_standsOn 2 = .ok (.putfield 100, 3) := by decide +kernel
theorem dX8_standsOn_5 : decode cX8_standsOn 5 = .ok (.aload_n 0, 1) := by decide +kernel
theorem dX8_standsOn_6 : decode cX8_standsOn 6 = .ok (.aload_n 0, 1) := by decide +kernel
theorem dX8_standsOn_7 : decode cX8_standsOn 7 = .ok (.iload_n 1, 1) := by decide +kernel
theorem dX8_standsOn_8 : decode cX8_standsOn 8 = .ok (.invokevirtual 190, 3) := by decide +kernel
theorem dX8_standsOn_11 : decode cX8_standsOn 11 = .ok (.ifCond .ne 11, 3) := by decide +kernel
theorem dX8_standsOn_14 : decode cX8_standsOn 14 = .ok (.aload_n 0, 1) := by decide +kernel
theorem dX8_standsOn_15 : decode cX8_standsOn 15 = .ok (.iload_n 2, 1) := by decide +kernel
theorem dX8_standsOn_16 : decode cX8_standsOn 16 = .ok (.invokevirtual 171, 3) := by decide +kernel
theorem dX8_standsOn_19 : decode cX8_standsOn 19 = .ok (.ifCond .eq 7, 3) := by decide +kernel
theorem dX8_standsOn_22 : decode cX8_standsOn 22 = .ok (.iconst 1, 1) := by decide +kernel
theorem dX8_standsOn_23 : decode cX8_standsOn 23 = .ok (.goto 4, 3) := by decide +kernel
theorem dX8_standsOn_26 : decode cX8_standsOn 26 = .ok (.iconst 0, 1) := by decide +kernel
theorem dX8_standsOn_27 : decode cX8_standsOn 27 = .ok (.iconst 1, 1) := by decide +kernel
theorem dX8_standsOn_28 : decode cX8_standsOn 28 = .ok (.invokevirtual 160, 3) := by decide +kernel
theorem dX8_standsOn_31 : decode cX8_standsOn 31 = .ok (.ifCond .ne 16, 3) := by decide +kernel
theorem dX8_standsOn_34 : decode cX8_standsOn 34 = .ok (.aload_n 0, 1) := by decide +kernel
theorem dX8_standsOn_35 : decode cX8_standsOn 35 = .ok (.iload_n 1, 1) := by decide +kernel
theorem dX8_standsOn_36 : decode cX8_standsOn 36 = .ok (.iload_n 2, 1) := by decide +kernel
theorem dX8_standsOn_37 : decode cX8_standsOn 37 = .ok (.invokevirtual 142, 3) := by decide +kernel
theorem dX8_standsOn_40 : decode cX8_standsOn 40 = .ok (.ifCond .eq 7, 3) := by decide +kernel
theorem dX8_standsOn_43 : decode cX8_standsOn 43 = .ok (.iconst 1, 1) := by decide +kernel
theorem dX8_standsOn_44 : decode cX8_standsOn 44 = .ok (.goto 4, 3) := by decide +kernel
theorem dX8_standsOn_47 : decode cX8_standsOn 47 = .ok (.iconst 0, 1) := by decide +kernel
theorem dX8_standsOn_48 : decode cX8_standsOn 48 = .ok (.ireturn, 1) := by decide +kernel
set_option maxRecDepth 20000 in
theorem ggX8_release_X8_noFiring : GoodIn wsX8_release wsX8_noFiring := goodIn_r _ [10, 11, 12, 13, 9, 14, 59, 60, 61, 62, 63, 64, 65, 66, 67, 68, 69, 70, 71, 72, 73, 74, 75, 76, 77, 78, 79, 80, 81, 82, 83, 84, 85, 86, 87, 88, 89, 90, 91, 92, 93, 94] (by decide +kernel) (by decide +kernel)
set_option maxRecDepth 20000 in
theorem gX8_release_X8_noFiring : GoodIn wsX8_release (wsV RX8 190 RX8 yX8_noFiring wsX8_noFiring) := goodIn_app (goodIn_of _ (by decide +kernel)) ggX8_release_X8_noFiring
set_option maxRecDepth 20000 in
theorem ggX8_release_X8_fails : GoodIn wsX8_release wsX8_fails := goodIn_r _ [18, 1, 59, 60, 61, 62, 63, 64, 65, 66, 67, 68, 69, 70, 71, 72, 73, 74, 75, 76, 77, 78, 79, 80, 81, 82, 83, 84, 85, 86, 87, 88, 89, 90, 91, 92, 93, 94] (by decide +kernel) (by decide +kernel)
set_option maxRecDepth 20000 in
theorem gX8_release_X8_fails : GoodIn wsX8_release (wsV RX8 160 RX8 yX8_fails wsX8_fails) := goodIn_app (goodIn_of _ (by decide +kernel)) ggX8_release_X8_fails
set_option maxRecDepth 20000 in
theorem ggX8_release_X8_dropsAll : GoodIn wsX8_release wsX8_dropsAll := goodIn_ca (goodIn_r _ [22, 23, 24, 25, 9, 26, 27, 28, 29, 30, 31, 32, 33, 34, 35, 36, 37, 38, 39, 40, 41, 11, 42, 43, 44, 45, 46, 47, 48, 49, 50, 51, 52, 53, 54, 55, 56, 57, 2, 58, 59, 60, 61, 62, 63, 64, 65, 66, 67, 68, 69, 70, 71, 72, 73, 74, 75, 76, 77, 78, 79, 80, 81, 82, 83, 84, 85, 86, 87, 88, 89, 90, 91, 92, 93, 94] (by decide +kernel) (by decide +kernel)) (goodIn_sub (fun _ h => List.mem_cons_of_mem _ (List.mem_append_right _ h)) (by decide +kernel))
set_option maxRecDepth 20000 in
theorem gX8_release_X8_dropsAll : GoodIn wsX8_release (wsV RX8 193 RX8 yX8_dropsAll wsX8_dropsAll) := goodIn_app (goodIn_of _ (by decide +kernel)) ggX8_release_X8_dropsAll
theorem dX8_release_0 : decode cX8_release 0 = .ok (.aload_n 0, 1) := by decide +kernel
theorem dX8_release_1 : decode cX8_release 1 = .ok (.iconst 0, 1) := by decide +kernel
theorem dX8_release_2 : decode cX8_release 2 = .ok (.putfield 100, 3) := by decide +kernel
theorem dX8_release_5 : decode cX8_release 5 = .ok (.aload_n 0, 1) := by decide +kernel
theorem dX8_release_6 : decode cX8_release 6 = .ok (.aload_n 0, 1) := by decide +kernel
theorem dX8_release_7 : decode cX8_release 7 = .ok (.iload_n 1, 1) := by decide +kernel
theorem dX8_release_8 : decode cX8_release 8 = .ok (.invokevirtual 190, 3) := by decide +kernel
theorem dX8_release_11 : decode cX8_release 11 = .ok (.iconst 1, 1) := by decide +kernel
theorem dX8_release_12 : decode cX8_release 12 = .ok (.invokevirtual 160, 3) := by decide +kernel
theorem dX8_release_15 : decode cX8_release 15 = .ok (.ifCond .ne 61, 3) := by decide +kernel
theorem dX8_release_18 : decode cX8_release 18 = .ok (.aload_n 0, 1) := by decide +kernel
theorem dX8_release_19 : decode cX8_release 19 = .ok (.aload_n 0, 1) := by decide +kernel
theorem dX8_release_20 : decode cX8_release 20 = .ok (.getfield 78, 3) := by decide +kernel
theorem dX8_release_23 : decode cX8_release 23 = .ok (.iload_n 1, 1) := by decide +kernel
theorem dX8_release_24 : decode cX8_release 24 = .ok (.baload, 1) := by decide +kernel
theorem dX8_release_25 : decode cX8_release 25 = .ok (.iconst 2, 1) := by decide +kernel
theorem dX8_release_26 : decode cX8_release 26 = .ok (.invokevirtual 160, 3) := by decide +kernel
theorem dX8_release_29 : decode cX8_release 29 = .ok (.ifCond .ne 47, 3) := by decide +kernel
theorem dX8_release_32 : decode cX8_release 32 = .ok (.aload_n 0, 1) := by decide +kernel
theorem dX8_release_33 : decode cX8_release 33 = .ok (.aload_n 0, 1) := by decide +kernel
theorem dX8_release_34 : decode cX8_release 34 = .ok (.getfield 63, 3) := by decide +kernel
theorem dX8_release_37 : decode cX8_release 37 = .ok (.aload_n 0, 1) := by decide +kernel
theorem dX8_release_38 : decode cX8_release 38 = .ok (.getfield 72, 3) := by decide +kernel
theorem dX8_release_41 : decode cX8_release 41 = .ok (.iload_n 1, 1) := by decide +kernel
theorem dX8_release_42 : decode cX8_release 42 = .ok (.iaload, 1) := by decide +kernel
theorem dX8_release_43 : decode cX8_release 43 = .ok (.caload, 1) := by decide +kernel
theorem dX8_release_44 : decode cX8_release 44 = .ok (.bipush 113, 2) := by decide +kernel
theorem dX8_release_46 : decode cX8_release 46 = .ok (.if_icmp .eq 22, 3) := by decide +kernel
theorem dX8_release_49 : decode cX8_release 49 = .ok (.aload_n 0, 1) := by decide +kernel
theorem dX8_release_50 : decode cX8_release 50 = .ok (.getfield 69, 3) := by decide +kernel
theorem dX8_release_53 : decode cX8_release 53 = .ok (.aload_n 0, 1) := by decide +kernel
theorem dX8_release_54 : decode cX8_release 54 = .ok (.getfield 72, 3) := by decide +kernel
theorem dX8_release_57 : decode cX8_release 57 = .ok (.iload_n 1, 1) := by decide +kernel
theorem dX8_release_58 : decode cX8_release 58 = .ok (.iaload, 1) := by decide +kernel
theorem dX8_release_59 : decode cX8_release 59 = .ok (.iaload, 1) := by decide +kernel
theorem dX8_release_60 : decode cX8_release 60 = .ok (.iload_n 1, 1) := by decide +kernel
theorem dX8_release_61 : decode cX8_release 61 = .ok (.if_icmp .ne 7, 3) := by decide +kernel
theorem dX8_release_64 : decode cX8_release 64 = .ok (.iconst 1, 1) := by decide +kernel
theorem dX8_release_65 : decode cX8_release 65 = .ok (.goto 4, 3) := by decide +kernel
theorem dX8_release_68 : decode cX8_release 68 = .ok (.iconst 0, 1) := by decide +kernel
theorem dX8_release_69 : decode cX8_release 69 = .ok (.iconst 3, 1) := by decide +kernel
theorem dX8_release_70 : decode cX8_release 70 = .ok (.invokevirtual 160, 3) := by decide +kernel
theorem dX8_release_73 : decode cX8_release 73 = .ok (.ifCond .eq 5, 3) := by decide +kernel
theorem dX8_release_76 : decode cX8_release 76 = .ok (.iconst 0, 1) := by decide +kernel
theorem dX8_release_77 : decode cX8_release 77 = .ok (.ireturn, 1) := by decide +kernel
theorem dX8_release_78 : decode cX8_release 78 = .ok (.aload_n 0, 1) := by decide +kernel
theorem dX8_release_79 : decode cX8_release 79 = .ok (.getfield 78, 3) := by decide +kernel
theorem dX8_release_82 : decode cX8_release 82 = .ok (.iload_n 1, 1) := by decide +kernel
theorem dX8_release_83 : decode cX8_release 83 = .ok (.iconst 1, 1) := by decide +kernel
theorem dX8_release_84 : decode cX8_release 84 = .ok (.bastore, 1) := by decide +kernel
theorem dX8_release_85 : decode cX8_release 85 = .ok (.aload_n 0, 1) := by decide +kernel
theorem dX8_release_86 : decode cX8_release 86 = .ok (.invokevirtual 193, 3) := by decide +kernel
theorem dX8_release_89 : decode cX8_release 89 = .ok (.ireturn, 1) := by decide +kernel
set_option maxRecDepth 20000 in
theorem ggX8_isGuarded_X8_noLine : GoodIn wsX8_isGuarded wsX8_noLine := goodIn_r _ [6, 7, 8, 9, 5, 10, 42, 43, 44, 45, 46, 47, 48, 49, 50, 51, 52, 53, 54, 55, 56, 57, 58, 59, 60, 61, 62, 63, 64, 65, 66, 67, 68, 69, 70, 71, 72, 73, 74, 75, 76, 77] (by decide +kernel) (by decide +kernel)
set_option maxRecDepth 20000 in
theorem gX8_isGuarded_X8_noLine : GoodIn wsX8_isGuarded (wsV RX8 171 RX8 yX8_noLine wsX8_noLine) := goodIn_app (goodIn_of _ (by decide +kernel)) ggX8_isGuarded_X8_noLine
set_option maxRecDepth 20000 in
theorem ggX8_isGuarded_X8_fails : GoodIn wsX8_isGuarded wsX8_fails := goodIn_r _ [14, 1, 42, 43, 44, 45, 46, 47, 48, 49, 50, 51, 52, 53, 54, 55, 56, 57, 58, 59, 60, 61, 62, 63, 64, 65, 66, 67, 68, 69, 70, 71, 72, 73, 74, 75, 76, 77] (by decide +kernel) (by decide +kernel)
set_option maxRecDepth 20000 in
theorem gX8_isGuarded_X8_fails : GoodIn wsX8_isGuarded (wsV RX8 160 RX8 yX8_fails wsX8_fails) := goodIn_app (goodIn_of _ (by decide +kernel)) ggX8_isGuarded_X8_fails
set_option maxRecDepth 20000 in
theorem ggX8_isGuarded_X8_isGuardedNow : GoodIn wsX8_isGuarded wsX8_isGuardedNow := goodIn_ca (goodIn_r _ [18, 19, 20, 21, 22, 23, 24, 5, 25, 26, 27, 28, 29, 30, 31, 32, 33, 34, 35, 36, 37, 38, 39, 40, 41, 42, 43, 44, 45, 46, 47, 48, 49, 50, 51, 52, 53, 54, 55, 56, 57, 58, 59, 60, 61, 62, 63, 64, 65, 66, 67, 68, 69, 70, 71, 72, 73, 74, 75, 76, 77] (by decide +kernel) (by decide +kernel)) (goodIn_sub (fun _ h => List.mem_cons_of_mem _ (List.mem_append_right _ h)) (by decide +kernel))
set_option maxRecDepth 20000 in
theorem gX8_isGuarded_X8_isGuardedNow : GoodIn wsX8_isGuarded (wsV RX8 148 RX8 yX8_isGuardedNow wsX8_isGuardedNow) := goodIn_app (goodIn_of _ (by decide +kernel)) ggX8_isGuarded_X8_isGuardedNow
theorem dX8_isGuarded_0 : decode cX8_isGuarded 0 = .ok (.aload_n 0, 1) := by decide +kernel
theorem dX8_isGuarded_1 : decode cX8_isGuarded 1 = .ok (.iconst 0, 1) := by decide +kernel
theorem dX8_isGuarded_2 : decode cX8_isGuarded 2 = .ok (.putfield 100, 3) := by decide +kernel
theorem dX8_isGuarded_5 : decode cX8_isGuarded 5 = .ok (.aload_n 0, 1) := by decide +kernel
theorem dX8_isGuarded_6 : decode cX8_isGuarded 6 = .ok (.aload_n 0, 1) := by decide +kernel
theorem dX8_isGuarded_7 : decode cX8_isGuarded 7 = .ok (.iload_n 1, 1) := by decide +kernel
theorem dX8_isGuarded_8 : decode cX8_isGuarded 8 = .ok (.invokevirtual 171, 3) := by decide +kernel
theorem dX8_isGuarded_11 : decode cX8_isGuarded 11 = .ok (.iconst 1, 1) := by decide +kernel
theorem dX8_isGuarded_12 : decode cX8_isGuarded 12 = .ok (.invokevirtual 160, 3) := by decide +kernel
theorem dX8_isGuarded_15 : decode cX8_isGuarded 15 = .ok (.ifCond .ne 15, 3) := by decide +kernel
theorem dX8_isGuarded_18 : decode cX8_isGuarded 18 = .ok (.aload_n 0, 1) := by decide +kernel
theorem dX8_isGuarded_19 : decode cX8_isGuarded 19 = .ok (.iload_n 1, 1) := by decide +kernel
theorem dX8_isGuarded_20 : decode cX8_isGuarded 20 = .ok (.invokevirtual 148, 3) := by decide +kernel
theorem dX8_isGuarded_23 : decode cX8_isGuarded 23 = .ok (.ifCond .eq 7, 3) := by decide +kernel
theorem dX8_isGuarded_26 : decode cX8_isGuarded 26 = .ok (.iconst 1, 1) := by decide +kernel
theorem dX8_isGuarded_27 : decode cX8_isGuarded 27 = .ok (.goto 4, 3) := by decide +kernel
theorem dX8_isGuarded_30 : decode cX8_isGuarded 30 = .ok (.iconst 0, 1) := by decide +kernel
theorem dX8_isGuarded_31 : decode cX8_isGuarded 31 = .ok (.ireturn, 1) := by decide +kernel
set_option maxRecDepth 20000 in
theorem ggX8_passOne_X8_look : GoodIn wsX8_passOne wsX8_look := goodIn_ca (goodIn_r _ [14, 15, 3, 16, 4, 17, 18, 19, 20, 1, 21, 22, 23, 24, 25, 13, 26, 27, 28, 29, 30, 31, 32, 33, 34, 35, 36, 37, 38, 39, 40, 68, 69, 70, 71, 72, 73, 74, 75, 76, 77, 78, 79, 80, 81, 82, 83, 84, 85, 86, 87, 88, 89, 90, 91, 92, 93, 94, 95, 96, 97, 98, 99, 100, 101, 102, 103] (by decide +kernel) (by decide +kernel)) (goodIn_sub (fun _ h => List.mem_cons_of_mem _ (List.mem_append_right _ h)) (by decide +kernel))
set_option maxRecDepth 20000 in
theorem gX8_passOne_X8_look : GoodIn wsX8_passOne (wsV RX8 168 RX8 yX8_look wsX8_look) := goodIn_app (goodIn_of _ (by decide +kernel)) ggX8_passOne_X8_look
set_option maxRecDepth 20000 in
theorem ggX8_passOne_X8_dropsAll : GoodIn wsX8_passOne wsX8_dropsAll := goodIn_ca (goodIn_r _ [44, 45, 46, 47, 13, 48, 49, 21, 32, 31, 34, 50, 51, 52, 53, 54, 55, 56, 57, 58, 2, 18, 27, 28, 29, 30, 33, 35, 1, 36, 37, 38, 39, 40, 59, 60, 61, 62, 63, 22, 68, 69, 70, 71, 72, 73, 74, 75, 76, 77, 78, 79, 80, 81, 82, 83, 84, 85, 86, 87, 88, 89, 90, 91, 92, 93, 94, 95, 96, 97, 98, 99, 100, 101, 102, 103] (by decide +kernel) (by decide +kernel)) (goodIn_sub (fun _ h => List.mem_cons_of_mem _ (List.mem_append_right _ h)) (by decide +kernel))
set_option maxRecDepth 20000 in
theorem gX8_passOne_X8_dropsAll : GoodIn wsX8_passOne (wsV RX8 193 RX8 yX8_dropsAll wsX8_dropsAll) := goodIn_app (goodIn_of _ (by decide +kernel)) ggX8_passOne_X8_dropsAll
set_option maxRecDepth 20000 in
theorem ggX8_passOne_X8_count : GoodIn wsX8_passOne wsX8_count := goodIn_ca (goodIn_r _ [67, 21, 32, 31, 34, 68, 69, 70, 71, 72, 73, 74, 75, 76, 77, 78, 79, 80, 81, 82, 83, 84, 85, 86, 87, 88, 89, 90, 91, 92, 93, 94, 95, 96, 97, 98, 99, 100, 101, 102, 103] (by decide +kernel) (by decide +kernel)) (goodIn_sub (fun _ h => List.mem_cons_of_mem _ (List.mem_append_right _ h)) (by decide +kernel))
set_option maxRecDepth 20000 in
theorem gX8_passOne_X8_count : GoodIn wsX8_passOne (wsV RX8 177 RX8 yX8_count wsX8_count) := goodIn_app (goodIn_of _ (by decide +kernel)) ggX8_passOne_X8_count
theorem dX8_passOne_0 : decode cX8_passOne 0 = .ok (.aload_n 0, 1) := by decide +kernel
theorem dX8_passOne_1 : decode cX8_passOne 1 = .ok (.dup, 1) := by decide +kernel
theorem dX8_passOne_2 : decode cX8_passOne 2 = .ok (.getfield 132, 3) := by decide +kernel
theorem dX8_passOne_5 : decode cX8_passOne 5 = .ok (.iconst 1, 1) := by decide +kernel
theorem dX8_passOne_6 : decode cX8_passOne 6 = .ok (.iadd, 1) := by decide +kernel
theorem dX8_passOne_7 : decode cX8_passOne 7 = .ok (.putfield 132, 3) := by decide +kernel
theorem dX8_passOne_10 : decode cX8_passOne 10 = .ok (.iconst 0, 1) := by decide +kernel
theorem dX8_passOne_11 : decode cX8_passOne 11 = .ok (.istore_n 1, 1) := by decide +kernel
theorem dX8_passOne_12 : decode cX8_passOne 12 = .ok (.iload_n 1, 1) := by decide +kernel
theorem dX8_passOne_13 : decode cX8_passOne 13 = .ok (.aload_n 0, 1) := by decide +kernel
theorem dX8_passOne_14 : decode cX8_passOne 14 = .ok (.getfield 114, 3) := by decide +kernel
theorem dX8_passOne_17 : decode cX8_passOne 17 = .ok (.if_icmp .ge 57, 3) := by decide +kernel
theorem dX8_passOne_20 : decode cX8_passOne 20 = .ok (.aload_n 0, 1) := by decide +kernel
theorem dX8_passOne_21 : decode cX8_passOne 21 = .ok (.getfield 63, 3) := by decide +kernel
theorem dX8_passOne_24 : decode cX8_passOne 24 = .ok (.iload_n 1, 1) := by decide +kernel
theorem dX8_passOne_25 : decode cX8_passOne 25 = .ok (.caload, 1) := by decide +kernel
theorem dX8_passOne_26 : decode cX8_passOne 26 = .ok (.bipush 104, 2) := by decide +kernel
theorem dX8_passOne_28 : decode cX8_passOne 28 = .ok (.if_icmp .ne 35, 3) := by decide +kernel
theorem dX8_passOne_31 : decode cX8_passOne 31 = .ok (.aload_n 0, 1) := by decide +kernel
theorem dX8_passOne_32 : decode cX8_passOne 32 = .ok (.getfield 66, 3) := by decide +kernel
theorem dX8_passOne_35 : decode cX8_passOne 35 = .ok (.iload_n 1, 1) := by decide +kernel
theorem dX8_passOne_36 : decode cX8_passOne 36 = .ok (.dup2, 1) := by decide +kernel
theorem dX8_passOne_37 : decode cX8_passOne 37 = .ok (.iaload, 1) := by decide +kernel
theorem dX8_passOne_38 : decode cX8_passOne 38 = .ok (.iconst 1, 1) := by decide +kernel
theorem dX8_passOne_39 : decode cX8_passOne 39 = .ok (.isub, 1) := by decide +kernel
theorem dX8_passOne_40 : decode cX8_passOne 40 = .ok (.iastore, 1) := by decide +kernel
theorem dX8_passOne_41 : decode cX8_passOne 41 = .ok (.aload_n 0, 1) := by decide +kernel
theorem dX8_passOne_42 : decode cX8_passOne 42 = .ok (.getfield 63, 3) := by decide +kernel
theorem dX8_passOne_45 : decode cX8_passOne 45 = .ok (.iload_n 1, 1) := by decide +kernel
theorem dX8_passOne_46 : decode cX8_passOne 46 = .ok (.aload_n 0, 1) := by decide +kernel
theorem dX8_passOne_47 : decode cX8_passOne 47 = .ok (.getfield 66, 3) := by decide +kernel
theorem dX8_passOne_50 : decode cX8_passOne 50 = .ok (.iload_n 1, 1) := by decide +kernel
theorem dX8_passOne_51 : decode cX8_passOne 51 = .ok (.iaload, 1) := by decide +kernel
theorem dX8_passOne_52 : decode cX8_passOne 52 = .ok (.ifCond .ne 8, 3) := by decide +kernel
theorem dX8_passOne_55 : decode cX8_passOne 55 = .ok (.bipush 113, 2) := by decide +kernel
theorem dX8_passOne_57 : decode cX8_passOne 57 = .ok (.goto 5, 3) := by decide +kernel
theorem dX8_passOne_60 : decode cX8_passOne 60 = .ok (.bipush 104, 2) := by decide +kernel
theorem dX8_passOne_62 : decode cX8_passOne 62 = .ok (.castore, 1) := by decide +kernel
theorem dX8_passOne_63 : decode cX8_passOne 63 = .ok (.aload_n 0, 1) := by decide +kernel
theorem dX8_passOne_64 : decode cX8_passOne 64 = .ok (.iload_n 1, 1) := by decide +kernel
theorem dX8_passOne_65 : decode cX8_passOne 65 = .ok (.invokevirtual 168, 3) := by decide +kernel
theorem dX8_passOne_68 : decode cX8_passOne 68 = .ok (.iinc 1 1, 3) := by decide +kernel
theorem dX8_passOne_71 : decode cX8_passOne 71 = .ok (.goto (-59), 3) := by decide +kernel
theorem dX8_passOne_74 : decode cX8_passOne 74 = .ok (.aload_n 0, 1) := by decide +kernel
theorem dX8_passOne_75 : decode cX8_passOne 75 = .ok (.invokevirtual 193, 3) := by decide +kernel
theorem dX8_passOne_78 : decode cX8_passOne 78 = .ok (.istore_n 1, 1) := by decide +kernel
theorem dX8_passOne_79 : decode cX8_passOne 79 = .ok (.iconst 0, 1) := by decide +kernel
theorem dX8_passOne_80 : decode cX8_passOne 80 = .ok (.istore_n 2, 1) := by decide +kernel
theorem dX8_passOne_81 : decode cX8_passOne 81 = .ok (.iload_n 2, 1) := by decide +kernel
theorem dX8_passOne_82 : decode cX8_passOne 82 = .ok (.aload_n 0, 1) := by decide +kernel
theorem dX8_passOne_83 : decode cX8_passOne 83 = .ok (.getfield 181, 3) := by decide +kernel
theorem dX8_passOne_86 : decode cX8_passOne 86 = .ok (.if_icmp .ge 55, 3) := by decide +kernel
theorem dX8_passOne_89 : decode cX8_passOne 89 = .ok (.aload_n 0, 1) := by decide +kernel
theorem dX8_passOne_90 : decode cX8_passOne 90 = .ok (.getfield 97, 3) := by decide +kernel
theorem dX8_passOne_93 : decode cX8_passOne 93 = .ok (.iload_n 2, 1) := by decide +kernel
theorem dX8_passOne_94 : decode cX8_passOne 94 = .ok (.aload_n 0, 1) := by decide +kernel
theorem dX8_passOne_95 : decode cX8_passOne 95 = .ok (.getfield 94, 3) := by decide +kernel
theorem dX8_passOne_98 : decode cX8_passOne 98 = .ok (.iload_n 2, 1) := by decide +kernel
theorem dX8_passOne_99 : decode cX8_passOne 99 = .ok (.iaload, 1) := by decide +kernel
theorem dX8_passOne_100 : decode cX8_passOne 100 = .ok (.aload_n 0, 1) := by decide +kernel
theorem dX8_passOne_101 : decode cX8_passOne 101 = .ok (.getfield 132, 3) := by decide +kernel
theorem dX8_passOne_104 : decode cX8_passOne 104 = .ok (.if_icmp .ne 24, 3) := by decide +kernel
theorem dX8_passOne_107 : decode cX8_passOne 107 = .ok (.aload_n 0, 1) := by decide +kernel
theorem dX8_passOne_108 : decode cX8_passOne 108 = .ok (.aload_n 0, 1) := by decide +kernel
theorem dX8_passOne_109 : decode cX8_passOne 109 = .ok (.getfield 88, 3) := by decide +kernel
theorem dX8_passOne_112 : decode cX8_passOne 112 = .ok (.iload_n 2, 1) := by decide +kernel
theorem dX8_passOne_113 : decode cX8_passOne 113 = .ok (.iaload, 1) := by decide +kernel
theorem dX8_passOne_114 : decode cX8_passOne 114 = .ok (.bipush 97, 2) := by decide +kernel
theorem dX8_passOne_116 : decode cX8_passOne 116 = .ok (.aload_n 0, 1) := by decide +kernel
theorem dX8_passOne_117 : decode cX8_passOne 117 = .ok (.getfield 91, 3) := by decide +kernel
theorem dX8_passOne_120 : decode cX8_passOne 120 = .ok (.iload_n 2, 1) := by decide +kernel
theorem dX8_passOne_121 : decode cX8_passOne 121 = .ok (.iaload, 1) := by decide +kernel
theorem dX8_passOne_122 : decode cX8_passOne 122 = .ok (.invokevirtual 177, 3) := by decide +kernel
theorem dX8_passOne_125 : decode cX8_passOne 125 = .ok (.goto 9, 3) := by decide +kernel
theorem dX8_passOne_128 : decode cX8_passOne 128 = .ok (.aload_n 0, 1) := by decide +kernel
theorem dX8_passOne_129 : decode cX8_passOne 129 = .ok (.getfield 97, 3) := by decide +kernel
theorem dX8_passOne_132 : decode cX8_passOne 132 = .ok (.iload_n 2, 1) := by decide +kernel
theorem dX8_passOne_133 : decode cX8_passOne 133 = .ok (.iaload, 1) := by decide +kernel
theorem dX8_passOne_134 : decode cX8_passOne 134 = .ok (.iastore, 1) := by decide +kernel
theorem dX8_passOne_135 : decode cX8_passOne 135 = .ok (.iinc 2 1, 3) := by decide +kernel
theorem dX8_passOne_138 : decode cX8_passOne 138 = .ok (.goto (-57), 3) := by decide +kernel
theorem dX8_passOne_141 : decode cX8_passOne 141 = .ok (.iload_n 1, 1) := by decide +kernel
theorem dX8_passOne_142 : decode cX8_passOne 142 = .ok (.ireturn, 1) := by decide +kernel
set_option maxRecDepth 20000 in
theorem ggX8_pass_X8_in : GoodIn wsX8_pass wsX8_in := goodIn_r _ [6] (by decide +kernel) (by decide +kernel)
set_option maxRecDepth 20000 in
theorem gX8_pass_X8_in : GoodIn wsX8_pass (va_wsS RX8 107 yX8_in wsX8_in) := goodIn_app (goodIn_of _ (by decide +kernel)) ggX8_pass_X8_in
set_option maxRecDepth 20000 in
theorem ggX8_pass_X8_fails : GoodIn wsX8_pass wsX8_fails := goodIn_r _ [10, 1, 80, 81, 82, 83, 84, 85, 86, 87, 88, 89, 90, 91, 92, 93, 94, 95, 96, 97, 98, 99, 100, 101, 102, 103, 104, 105, 106, 107, 108, 109, 110, 111, 112, 113, 114, 115] (by decide +kernel) (by decide +kernel)
set_option maxRecDepth 20000 in
theorem gX8_pass_X8_fails : GoodIn wsX8_pass (wsV RX8 160 RX8 yX8_fails wsX8_fails) := goodIn_app (goodIn_of _ (by decide +kernel)) ggX8_pass_X8_fails
set_option maxRecDepth 20000 in
theorem ggX8_pass_X8_passOne : GoodIn wsX8_pass wsX8_passOne := goodIn_ca (goodIn_r _ [14, 2, 15, 16, 17, 18, 19, 20, 21, 22, 23, 24, 25, 5, 26, 27, 28, 29, 30, 31, 32, 33, 34, 35, 36, 37, 38, 39, 40, 41, 42, 43, 44, 45, 46, 47, 48, 49, 50, 51, 52, 53, 54, 55, 56, 57, 58, 59, 60, 61, 62, 63, 64, 65, 66, 67, 68, 69, 70, 71, 72, 73, 74, 75, 76, 77, 78, 79, 80, 81, 82, 83, 84, 85, 86, 87, 88, 89, 90, 91, 92, 93, 94, 95, 96, 97, 98, 99, 100, 101, 102, 103, 104, 105, 106, 107, 108, 109, 110, 111, 112, 113, 114, 115] (by decide +kernel) (by decide +kernel)) (goodIn_sub (fun _ h => List.mem_cons_of_mem _ (List.mem_append_right _ h)) (by decide +kernel))
set_option maxRecDepth 20000 in
theorem gX8_pass_X8_passOne : GoodIn wsX8_pass (wsV RX8 197 RX8 yX8_passOne wsX8_passOne) := goodIn_app (goodIn_of _ (by decide +kernel)) ggX8_pass_X8_passOne
theorem dX8_pass_0 : decode cX8_pass 0 = .ok (.aload_n 0, 1) := by decide +kernel
theorem dX8_pass_1 : decode cX8_pass 1 = .ok (.iconst 0, 1) := by decide +kernel
theorem dX8_pass_2 : decode cX8_pass 2 = .ok (.putfield 100, 3) := by decide +kernel
theorem dX8_pass_5 : decode cX8_pass 5 = .ok (.aload_n 0, 1) := by decide +kernel
theorem dX8_pass_6 : decode cX8_pass 6 = .ok (.iload_n 1, 1) := by decide +kernel
theorem dX8_pass_7 : decode cX8_pass 7 = .ok (.iconst 1, 1) := by decide +kernel
theorem dX8_pass_8 : decode cX8_pass 8 = .ok (.bipush 50, 2) := by decide +kernel
theorem dX8_pass_10 : decode cX8_pass 10 = .ok (.invokestatic 107, 3) := by decide +kernel
theorem dX8_pass_13 : decode cX8_pass 13 = .ok (.ifCond .ne 7, 3) := by decide +kernel
theorem dX8_pass_16 : decode cX8_pass 16 = .ok (.iconst 1, 1) := by decide +kernel
theorem dX8_pass_17 : decode cX8_pass 17 = .ok (.goto 4, 3) := by decide +kernel
theorem dX8_pass_20 : decode cX8_pass 20 = .ok (.iconst 0, 1) := by decide +kernel
theorem dX8_pass_21 : decode cX8_pass 21 = .ok (.iconst 1, 1) := by decide +kernel
theorem dX8_pass_22 : decode cX8_pass 22 = .ok (.invokevirtual 160, 3) := by decide +kernel
theorem dX8_pass_25 : decode cX8_pass 25 = .ok (.ifCond .ne 28, 3) := by decide +kernel
theorem dX8_pass_28 : decode cX8_pass 28 = .ok (.aload_n 0, 1) := by decide +kernel
theorem dX8_pass_29 : decode cX8_pass 29 = .ok (.aload_n 0, 1) := by decide +kernel
theorem dX8_pass_30 : decode cX8_pass 30 = .ok (.getfield 132, 3) := by decide +kernel
theorem dX8_pass_33 : decode cX8_pass 33 = .ok (.iload_n 1, 1) := by decide +kernel
theorem dX8_pass_34 : decode cX8_pass 34 = .ok (.iadd, 1) := by decide +kernel
theorem dX8_pass_35 : decode cX8_pass 35 = .ok (.sipush 5000, 3) := by decide +kernel
theorem dX8_pass_38 : decode cX8_pass 38 = .ok (.if_icmp .le 7, 3) := by decide +kernel
theorem dX8_pass_41 : decode cX8_pass 41 = .ok (.iconst 1, 1) := by decide +kernel
theorem dX8_pass_42 : decode cX8_pass 42 = .ok (.goto 4, 3) := by decide +kernel
theorem dX8_pass_45 : decode cX8_pass 45 = .ok (.iconst 0, 1) := by decide +kernel
theorem dX8_pass_46 : decode cX8_pass 46 = .ok (.iconst 2, 1) := by decide +kernel
theorem dX8_pass_47 : decode cX8_pass 47 = .ok (.invokevirtual 160, 3) := by decide +kernel
theorem dX8_pass_50 : decode cX8_pass 50 = .ok (.ifCond .eq 5, 3) := by decide +kernel
theorem dX8_pass_53 : decode cX8_pass 53 = .ok (.iconst 0, 1) := by decide +kernel
theorem dX8_pass_54 : decode cX8_pass 54 = .ok (.ireturn, 1) := by decide +kernel
theorem dX8_pass_55 : decode cX8_pass 55 = .ok (.iconst 0, 1) := by decide +kernel
theorem dX8_pass_56 : decode cX8_pass 56 = .ok (.istore_n 2, 1) := by decide +kernel
theorem dX8_pass_57 : decode cX8_pass 57 = .ok (.iconst 0, 1) := by decide +kernel
theorem dX8_pass_58 : decode cX8_pass 58 = .ok (.istore_n 3, 1) := by decide +kernel
theorem dX8_pass_59 : decode cX8_pass 59 = .ok (.iload_n 3, 1) := by decide +kernel
theorem dX8_pass_60 : decode cX8_pass 60 = .ok (.iload_n 1, 1) := by decide +kernel
theorem dX8_pass_61 : decode cX8_pass 61 = .ok (.if_icmp .ge 16, 3) := by decide +kernel
theorem dX8_pass_64 : decode cX8_pass 64 = .ok (.iload_n 2, 1) := by decide +kernel
theorem dX8_pass_65 : decode cX8_pass 65 = .ok (.aload_n 0, 1) := by decide +kernel
theorem dX8_pass_66 : decode cX8_pass 66 = .ok (.invokevirtual 197, 3) := by decide +kernel
theorem dX8_pass_69 : decode cX8_pass 69 = .ok (.iadd, 1) := by decide +kernel
theorem dX8_pass_70 : decode cX8_pass 70 = .ok (.istore_n 2, 1) := by decide +kernel
theorem dX8_pass_71 : decode cX8_pass 71 = .ok (.iinc 3 1, 3) := by decide +kernel
theorem dX8_pass_74 : decode cX8_pass 74 = .ok (.goto (-15), 3) := by decide +kernel
theorem dX8_pass_77 : decode cX8_pass 77 = .ok (.iload_n 2, 1) := by decide +kernel
theorem dX8_pass_78 : decode cX8_pass 78 = .ok (.ireturn, 1) := by decide +kernel
theorem dX8_tick_0 : decode cX8_tick 0 = .ok (.aload_n 0, 1) := by decide +kernel
theorem dX8_tick_1 : decode cX8_tick 1 = .ok (.iconst 0, 1) := by decide +kernel
theorem dX8_tick_2 : decode cX8_tick 2 = .ok (.putfield 100, 3) := by decide +kernel
theorem dX8_tick_5 : decode cX8_tick 5 = .ok (.aload_n 0, 1) := by decide +kernel
theorem dX8_tick_6 : decode cX8_tick 6 = .ok (.getfield 132, 3) := by decide +kernel
theorem dX8_tick_9 : decode cX8_tick 9 = .ok (.ireturn, 1) := by decide +kernel
theorem dX8_bytes_0 : decode cX8_bytes 0 = .ok (.aload_n 0, 1) := by decide +kernel
theorem dX8_bytes_1 : decode cX8_bytes 1 = .ok (.iconst 0, 1) := by decide +kernel
theorem dX8_bytes_2 : decode cX8_bytes 2 = .ok (.putfield 100, 3) := by decide +kernel
theorem dX8_bytes_5 : decode cX8_bytes 5 = .ok (.lconst 0, 1) := by decide +kernel
theorem dX8_bytes_6 : decode cX8_bytes 6 = .ok (.lstore_n 1, 1) := by decide +kernel
theorem dX8_bytes_7 : decode cX8_bytes 7 = .ok (.iconst 0, 1) := by decide +kernel
theorem dX8_bytes_8 : decode cX8_bytes 8 = .ok (.istore_n 3, 1) := by decide +kernel
theorem dX8_bytes_9 : decode cX8_bytes 9 = .ok (.iload_n 3, 1) := by decide +kernel
theorem dX8_bytes_10 : decode cX8_bytes 10 = .ok (.aload_n 0, 1) := by decide +kernel
theorem dX8_bytes_11 : decode cX8_bytes 11 = .ok (.getfield 104, 3) := by decide +kernel
theorem dX8_bytes_14 : decode cX8_bytes 14 = .ok (.if_icmp .ge 19, 3) := by decide +kernel
theorem dX8_bytes_17 : decode cX8_bytes 17 = .ok (.lload_n 1, 1) := by decide +kernel
theorem dX8_bytes_18 : decode cX8_bytes 18 = .ok (.aload_n 0, 1) := by decide +kernel
theorem dX8_bytes_19 : decode cX8_bytes 19 = .ok (.getfield 19, 3) := by decide +kernel
theorem dX8_bytes_22 : decode cX8_bytes 22 = .ok (.iload_n 3, 1) := by decide +kernel
theorem dX8_bytes_23 : decode cX8_bytes 23 = .ok (.iaload, 1) := by decide +kernel
theorem dX8_bytes_24 : decode cX8_bytes 24 = .ok (.i2l, 1) := by decide +kernel
theorem dX8_bytes_25 : decode cX8_bytes 25 = .ok (.ladd, 1) := by decide +kernel
theorem dX8_bytes_26 : decode cX8_bytes 26 = .ok (.lstore_n 1, 1) := by decide +kernel
theorem dX8_bytes_27 : decode cX8_bytes 27 = .ok (.iinc 3 1, 3) := by decide +kernel
theorem dX8_bytes_30 : decode cX8_bytes 30 = .ok (.goto (-21), 3) := by decide +kernel
theorem dX8_bytes_33 : decode cX8_bytes 33 = .ok (.lload_n 1, 1) := by decide +kernel
theorem dX8_bytes_34 : decode cX8_bytes 34 = .ok (.lreturn, 1) := by decide +kernel
set_option maxRecDepth 20000 in
theorem ggX8_droppedShare_X8_fails : GoodIn wsX8_droppedShare wsX8_fails := goodIn_r _ [7, 1, 15, 16, 17, 18, 19, 20, 21, 22, 23, 24, 25, 26, 27, 28, 29, 30, 31, 32, 33, 34, 35, 36, 37, 38, 39, 40, 41, 42, 43, 44, 45, 46, 47, 48, 49, 50] (by decide +kernel) (by decide +kernel)
set_option maxRecDepth 20000 in
theorem gX8_droppedShare_X8_fails : GoodIn wsX8_droppedShare (wsV RX8 160 RX8 yX8_fails wsX8_fails) := goodIn_app (goodIn_of _ (by decide +kernel)) ggX8_droppedShare_X8_fails
set_option maxRecDepth 20000 in
theorem ggX8_droppedShare_X8_count : GoodIn wsX8_droppedShare wsX8_count := goodIn_ca (goodIn_r _ [11, 2, 12, 13, 14, 15, 16, 17, 18, 19, 20, 21, 22, 23, 24, 25, 26, 27, 28, 29, 30, 31, 32, 33, 34, 35, 36, 37, 38, 39, 40, 41, 42, 43, 44, 45, 46, 47, 48, 49, 50] (by decide +kernel) (by decide +kernel)) (goodIn_sub (fun _ h => List.mem_cons_of_mem _ (List.mem_append_right _ h)) (by decide +kernel))
set_option maxRecDepth 20000 in
theorem gX8_droppedShare_X8_count : GoodIn wsX8_droppedShare (wsV RX8 177 RX8 yX8_count wsX8_count) := goodIn_app (goodIn_of _ (by decide +kernel)) ggX8_droppedShare_X8_count
theorem dX8_droppedShare_0 : decode cX8_droppedShare 0 = .ok (.aload_n 0, 1) := by decide +kernel
theorem dX8_droppedShare_1 : decode cX8_droppedShare 1 = .ok (.iconst 0, 1) := by decide +kernel
theorem dX8_droppedShare_2 : decode cX8_droppedShare 2 = .ok (.putfield 100, 3) := by decide +kernel
theorem dX8_droppedShare_5 : decode cX8_droppedShare 5 = .ok (.aload_n 0, 1) := by decide +kernel
theorem dX8_droppedShare_6 : decode cX8_droppedShare 6 = .ok (.aload_n 0, 1) := by decide +kernel
theorem dX8_droppedShare_7 : decode cX8_droppedShare 7 = .ok (.getfield 104, 3) := by decide +kernel
theorem dX8_droppedShare_10 : decode cX8_droppedShare 10 = .ok (.ifCond .ne 7, 3) := by decide +kernel
theorem dX8_droppedShare_13 : decode cX8_droppedShare 13 = .ok (.iconst 1, 1) := by decide +kernel
theorem dX8_droppedShare_14 : decode cX8_droppedShare 14 = .ok (.goto 4, 3) := by decide +kernel
theorem dX8_droppedShare_17 : decode cX8_droppedShare 17 = .ok (.iconst 0, 1) := by decide +kernel
theorem dX8_droppedShare_18 : decode cX8_droppedShare 18 = .ok (.iconst 1, 1) := by decide +kernel
theorem dX8_droppedShare_19 : decode cX8_droppedShare 19 = .ok (.invokevirtual 160, 3) := by decide +kernel
theorem dX8_droppedShare_22 : decode cX8_droppedShare 22 = .ok (.ifCond .eq 7, 3) := by decide +kernel
theorem dX8_droppedShare_25 : decode cX8_droppedShare 25 = .ok (.fconst 0, 1) := by decide +kernel
theorem dX8_droppedShare_26 : decode cX8_droppedShare 26 = .ok (.goto 18, 3) := by decide +kernel
theorem dX8_droppedShare_29 : decode cX8_droppedShare 29 = .ok (.aload_n 0, 1) := by decide +kernel
theorem dX8_droppedShare_30 : decode cX8_droppedShare 30 = .ok (.iconst (-1), 1) := by decide +kernel
theorem dX8_droppedShare_31 : decode cX8_droppedShare 31 = .ok (.bipush 100, 2) := by decide +kernel
theorem dX8_droppedShare_33 : decode cX8_droppedShare 33 = .ok (.iconst 0, 1) := by decide +kernel
theorem dX8_droppedShare_34 : decode cX8_droppedShare 34 = .ok (.invokevirtual 177, 3) := by decide +kernel
theorem dX8_droppedShare_37 : decode cX8_droppedShare 37 = .ok (.i2f, 1) := by decide +kernel
theorem dX8_droppedShare_38 : decode cX8_droppedShare 38 = .ok (.aload_n 0, 1) := by decide +kernel
theorem dX8_droppedShare_39 : decode cX8_droppedShare 39 = .ok (.getfield 104, 3) := by decide +kernel
theorem dX8_droppedShare_42 : decode cX8_droppedShare 42 = .ok (.i2f, 1) := by decide +kernel
theorem dX8_droppedShare_43 : decode cX8_droppedShare 43 = .ok (.fdiv, 1) := by decide +kernel
theorem dX8_droppedShare_44 : decode cX8_droppedShare 44 = .ok (.freturn, 1) := by decide +kernel
set_option maxRecDepth 20000 in
theorem ggX8_meanRank_X8_count : GoodIn wsX8_meanRank wsX8_count := goodIn_ca (goodIn_r _ [9, 2, 10, 3, 4, 15, 16, 17, 18, 19, 20, 21, 22, 23, 24, 25, 26, 27, 28, 29, 30, 31, 32, 33, 34, 35, 36, 37, 38, 39, 40, 41, 42, 43, 44, 45, 46, 47, 48, 49, 50] (by decide +kernel) (by decide +kernel)) (goodIn_sub (fun _ h => List.mem_cons_of_mem _ (List.mem_append_right _ h)) (by decide +kernel))
set_option maxRecDepth 20000 in
theorem gX8_meanRank_X8_count : GoodIn wsX8_meanRank (wsV RX8 177 RX8 yX8_count wsX8_count) := goodIn_app (goodIn_of _ (by decide +kernel)) ggX8_meanRank_X8_count
set_option maxRecDepth 20000 in
theorem ggX8_meanRank_X8_fails : GoodIn wsX8_meanRank wsX8_fails := goodIn_r _ [14, 1, 15, 16, 17, 18, 19, 20, 21, 22, 23, 24, 25, 26, 27, 28, 29, 30, 31, 32, 33, 34, 35, 36, 37, 38, 39, 40, 41, 42, 43, 44, 45, 46, 47, 48, 49, 50] (by decide +kernel) (by decide +kernel)
set_option maxRecDepth 20000 in
theorem gX8_meanRank_X8_fails : GoodIn wsX8_meanRank (wsV RX8 160 RX8 yX8_fails wsX8_fails) := goodIn_app (goodIn_of _ (by decide +kernel)) ggX8_meanRank_X8_fails
theorem dX8_meanRank_0 : decode cX8_meanRank 0 = .ok (.aload_n 0, 1) := by decide +kernel
theorem dX8_meanRank_1 : decode cX8_meanRank 1 = .ok (.iconst 0, 1) := by decide +kernel
theorem dX8_meanRank_2 : decode cX8_meanRank 2 = .ok (.putfield 100, 3) := by decide +kernel
theorem dX8_meanRank_5 : decode cX8_meanRank 5 = .ok (.iconst 0, 1) := by decide +kernel
theorem dX8_meanRank_6 : decode cX8_meanRank 6 = .ok (.istore_n 1, 1) := by decide +kernel
theorem dX8_meanRank_7 : decode cX8_meanRank 7 = .ok (.iconst 0, 1) := by decide +kernel
theorem dX8_meanRank_8 : decode cX8_meanRank 8 = .ok (.istore_n 2, 1) := by decide +kernel
theorem dX8_meanRank_9 : decode cX8_meanRank 9 = .ok (.iload_n 2, 1) := by decide +kernel
theorem dX8_meanRank_10 : decode cX8_meanRank 10 = .ok (.aload_n 0, 1) := by decide +kernel
theorem dX8_meanRank_11 : decode cX8_meanRank 11 = .ok (.getfield 104, 3) := by decide +kernel
theorem dX8_meanRank_14 : decode cX8_meanRank 14 = .ok (.if_icmp .ge 33, 3) := by decide +kernel
theorem dX8_meanRank_17 : decode cX8_meanRank 17 = .ok (.iload_n 1, 1) := by decide +kernel
theorem dX8_meanRank_18 : decode cX8_meanRank 18 = .ok (.aload_n 0, 1) := by decide +kernel
theorem dX8_meanRank_19 : decode cX8_meanRank 19 = .ok (.getfield 25, 3) := by decide +kernel
theorem dX8_meanRank_22 : decode cX8_meanRank 22 = .ok (.iload_n 2, 1) := by decide +kernel
theorem dX8_meanRank_23 : decode cX8_meanRank 23 = .ok (.caload, 1) := by decide +kernel
theorem dX8_meanRank_24 : decode cX8_meanRank 24 = .ok (.bipush 107, 2) := by decide +kernel
theorem dX8_meanRank_26 : decode cX8_meanRank 26 = .ok (.if_icmp .ne 12, 3) := by decide +kernel
theorem dX8_meanRank_29 : decode cX8_meanRank 29 = .ok (.aload_n 0, 1) := by decide +kernel
theorem dX8_meanRank_30 : decode cX8_meanRank 30 = .ok (.getfield 13, 3) := by decide +kernel
theorem dX8_meanRank_33 : decode cX8_meanRank 33 = .ok (.iload_n 2, 1) := by decide +kernel
theorem dX8_meanRank_34 : decode cX8_meanRank 34 = .ok (.iaload, 1) := by decide +kernel
theorem dX8_meanRank_35 : decode cX8_meanRank 35 = .ok (.goto 4, 3) := by decide +kernel
theorem dX8_meanRank_38 : decode cX8_meanRank 38 = .ok (.iconst 0, 1) := by decide +kernel
theorem dX8_meanRank_39 : decode cX8_meanRank 39 = .ok (.iadd, 1) := by decide +kernel
theorem dX8_meanRank_40 : decode cX8_meanRank 40 = .ok (.istore_n 1, 1) := by decide +kernel
theorem dX8_meanRank_41 : decode cX8_meanRank 41 = .ok (.iinc 2 1, 3) := by decide +kernel
theorem dX8_meanRank_44 : decode cX8_meanRank 44 = .ok (.goto (-35), 3) := by decide +kernel
theorem dX8_meanRank_47 : decode cX8_meanRank 47 = .ok (.aload_n 0, 1) := by decide +kernel
theorem dX8_meanRank_48 : decode cX8_meanRank 48 = .ok (.iconst (-1), 1) := by decide +kernel
theorem dX8_meanRank_49 : decode cX8_meanRank 49 = .ok (.bipush 107, 2) := by decide +kernel
theorem dX8_meanRank_51 : decode cX8_meanRank 51 = .ok (.iconst 0, 1) := by decide +kernel
theorem dX8_meanRank_52 : decode cX8_meanRank 52 = .ok (.invokevirtual 177, 3) := by decide +kernel
theorem dX8_meanRank_55 : decode cX8_meanRank 55 = .ok (.istore_n 2, 1) := by decide +kernel
theorem dX8_meanRank_56 : decode cX8_meanRank 56 = .ok (.aload_n 0, 1) := by decide +kernel
theorem dX8_meanRank_57 : decode cX8_meanRank 57 = .ok (.iload_n 2, 1) := by decide +kernel
theorem dX8_meanRank_58 : decode cX8_meanRank 58 = .ok (.ifCond .ne 7, 3) := by decide +kernel
theorem dX8_meanRank_61 : decode cX8_meanRank 61 = .ok (.iconst 1, 1) := by decide +kernel
theorem dX8_meanRank_62 : decode cX8_meanRank 62 = .ok (.goto 4, 3) := by decide +kernel
theorem dX8_meanRank_65 : decode cX8_meanRank 65 = .ok (.iconst 0, 1) := by decide +kernel
theorem dX8_meanRank_66 : decode cX8_meanRank 66 = .ok (.iconst 1, 1) := by decide +kernel
theorem dX8_meanRank_67 : decode cX8_meanRank 67 = .ok (.invokevirtual 160, 3) := by decide +kernel
theorem dX8_meanRank_70 : decode cX8_meanRank 70 = .ok (.ifCond .eq 7, 3) := by decide +kernel
theorem dX8_meanRank_73 : decode cX8_meanRank 73 = .ok (.dconst 0, 1) := by decide +kernel
theorem dX8_meanRank_74 : decode cX8_meanRank 74 = .ok (.goto 8, 3) := by decide +kernel
theorem dX8_meanRank_77 : decode cX8_meanRank 77 = .ok (.iload_n 1, 1) := by decide +kernel
theorem dX8_meanRank_78 : decode cX8_meanRank 78 = .ok (.i2d, 1) := by decide +kernel
theorem dX8_meanRank_79 : decode cX8_meanRank 79 = .ok (.iload_n 2, 1) := by decide +kernel
theorem dX8_meanRank_80 : decode cX8_meanRank 80 = .ok (.i2d, 1) := by decide +kernel
theorem dX8_meanRank_81 : decode cX8_meanRank 81 = .ok (.ddiv, 1) := by decide +kernel
theorem dX8_meanRank_82 : decode cX8_meanRank 82 = .ok (.dreturn, 1) := by decide +kernel
theorem dX8_isSound_0 : decode cX8_isSound 0 = .ok (.aload_n 0, 1) := by decide +kernel
theorem dX8_isSound_1 : decode cX8_isSound 1 = .ok (.iconst 0, 1) := by decide +kernel
theorem dX8_isSound_2 : decode cX8_isSound 2 = .ok (.putfield 100, 3) := by decide +kernel
theorem dX8_isSound_5 : decode cX8_isSound 5 = .ok (.iconst 1, 1) := by decide +kernel
theorem dX8_isSound_6 : decode cX8_isSound 6 = .ok (.ireturn, 1) := by decide +kernel
theorem dJx00060_init_a7421_0 : decode cJx00060_init_a7421 0 = .ok (.aload_n 0, 1) := by decide +kernel
theorem dJx00060_init_a7421_1 : decode cJx00060_init_a7421 1 = .ok (.aload_n 1, 1) := by decide +kernel
theorem dJx00060_init_a7421_2 : decode cJx00060_init_a7421 2 = .ok (.invokespecial 7, 3) := by decide +kernel
theorem dJx00060_init_a7421_5 : decode cJx00060_init_a7421 5 = .ok (.return_, 1) := by decide +kernel
theorem dJ13_bitCount_95d88_0 : decode cJ13_bitCount_95d88 0 = .ok (.lload_n 0, 1) := by decide +kernel
theorem dJ13_bitCount_95d88_1 : decode cJ13_bitCount_95d88 1 = .ok (.lload_n 0, 1) := by decide +kernel
theorem dJ13_bitCount_95d88_2 : decode cJ13_bitCount_95d88 2 = .ok (.iconst 1, 1) := by decide +kernel
theorem dJ13_bitCount_95d88_3 : decode cJ13_bitCount_95d88 3 = .ok (.lushr, 1) := by decide +kernel
theorem dJ13_bitCount_95d88_4 : decode cJ13_bitCount_95d88 4 = .ok (.ldc2_w 314, 3) := by decide +kernel
theorem dJ13_bitCount_95d88_7 : decode cJ13_bitCount_95d88 7 = .ok (.land, 1) := by decide +kernel
theorem dJ13_bitCount_95d88_8 : decode cJ13_bitCount_95d88 8 = .ok (.lsub, 1) := by decide +kernel
theorem dJ13_bitCount_95d88_9 : decode cJ13_bitCount_95d88 9 = .ok (.lstore_n 0, 1) := by decide +kernel
theorem dJ13_bitCount_95d88_10 : decode cJ13_bitCount_95d88 10 = .ok (.lload_n 0, 1) := by decide +kernel
theorem dJ13_bitCount_95d88_11 : decode cJ13_bitCount_95d88 11 = .ok (.ldc2_w 316, 3) := by decide +kernel
theorem dJ13_bitCount_95d88_14 : decode cJ13_bitCount_95d88 14 = .ok (.land, 1) := by decide +kernel
theorem dJ13_bitCount_95d88_15 : decode cJ13_bitCount_95d88 15 = .ok (.lload_n 0, 1) := by decide +kernel
theorem dJ13_bitCount_95d88_16 : decode cJ13_bitCount_95d88 16 = .ok (.iconst 2, 1) := by decide +kernel
theorem dJ13_bitCount_95d88_17 : decode cJ13_bitCount_95d88 17 = .ok (.lushr, 1) := by decide +kernel
theorem dJ13_bitCount_95d88_18 : decode cJ13_bitCount_95d88 18 = .ok (.ldc2_w 316, 3) := by decide +kernel
theorem dJ13_bitCount_95d88_21 : decode cJ13_bitCount_95d88 21 = .ok (.land, 1) := by decide +kernel
theorem dJ13_bitCount_95d88_22 : decode cJ13_bitCount_95d88 22 = .ok (.ladd, 1) := by decide +kernel
theorem dJ13_bitCount_95d88_23 : decode cJ13_bitCount_95d88 23 = .ok (.lstore_n 0, 1) := by decide +kernel
theorem dJ13_bitCount_95d88_24 : decode cJ13_bitCount_95d88 24 = .ok (.lload_n 0, 1) := by decide +kernel
theorem dJ13_bitCount_95d88_25 : decode cJ13_bitCount_95d88 25 = .ok (.lload_n 0, 1) := by decide +kernel
theorem dJ13_bitCount_95d88_26 : decode cJ13_bitCount_95d88 26 = .ok (.iconst 4, 1) := by decide +kernel
theorem dJ13_bitCount_95d88_27 : decode cJ13_bitCount_95d88 27 = .ok (.lushr, 1) := by decide +kernel
theorem dJ13_bitCount_95d88_28 : decode cJ13_bitCount_95d88 28 = .ok (.ladd, 1) := by decide +kernel
theorem dJ13_bitCount_95d88_29 : decode cJ13_bitCount_95d88 29 = .ok (.ldc2_w 318, 3) := by decide +kernel
theorem dJ13_bitCount_95d88_32 : decode cJ13_bitCount_95d88 32 = .ok (.land, 1) := by decide +kernel
theorem dJ13_bitCount_95d88_33 : decode cJ13_bitCount_95d88 33 = .ok (.lstore_n 0, 1) := by decide +kernel
theorem dJ13_bitCount_95d88_34 : decode cJ13_bitCount_95d88 34 = .ok (.lload_n 0, 1) := by decide +kernel
theorem dJ13_bitCount_95d88_35 : decode cJ13_bitCount_95d88 35 = .ok (.lload_n 0, 1) := by decide +kernel
theorem dJ13_bitCount_95d88_36 : decode cJ13_bitCount_95d88 36 = .ok (.bipush 8, 2) := by decide +kernel
theorem dJ13_bitCount_95d88_38 : decode cJ13_bitCount_95d88 38 = .ok (.lushr, 1) := by decide +kernel
theorem dJ13_bitCount_95d88_39 : decode cJ13_bitCount_95d88 39 = .ok (.ladd, 1) := by decide +kernel
theorem dJ13_bitCount_95d88_40 : decode cJ13_bitCount_95d88 40 = .ok (.lstore_n 0, 1) := by decide +kernel
theorem dJ13_bitCount_95d88_41 : decode cJ13_bitCount_95d88 41 = .ok (.lload_n 0, 1) := by decide +kernel
theorem dJ13_bitCount_95d88_42 : decode cJ13_bitCount_95d88 42 = .ok (.lload_n 0, 1) := by decide +kernel
theorem dJ13_bitCount_95d88_43 : decode cJ13_bitCount_95d88 43 = .ok (.bipush 16, 2) := by decide +kernel
theorem dJ13_bitCount_95d88_45 : decode cJ13_bitCount_95d88 45 = .ok (.lushr, 1) := by decide +kernel
theorem dJ13_bitCount_95d88_46 : decode cJ13_bitCount_95d88 46 = .ok (.ladd, 1) := by decide +kernel
theorem dJ13_bitCount_95d88_47 : decode cJ13_bitCount_95d88 47 = .ok (.lstore_n 0, 1) := by decide +kernel
theorem dJ13_bitCount_95d88_48 : decode cJ13_bitCount_95d88 48 = .ok (.lload_n 0, 1) := by decide +kernel
theorem dJ13_bitCount_95d88_49 : decode cJ13_bitCount_95d88 49 = .ok (.lload_n 0, 1) := by decide +kernel
theorem dJ13_bitCount_95d88_50 : decode cJ13_bitCount_95d88 50 = .ok (.bipush 32, 2) := by decide +kernel
theorem dJ13_bitCount_95d88_52 : decode cJ13_bitCount_95d88 52 = .ok (.lushr, 1) := by decide +kernel
theorem dJ13_bitCount_95d88_53 : decode cJ13_bitCount_95d88 53 = .ok (.ladd, 1) := by decide +kernel
theorem dJ13_bitCount_95d88_54 : decode cJ13_bitCount_95d88 54 = .ok (.lstore_n 0, 1) := by decide +kernel
theorem dJ13_bitCount_95d88_55 : decode cJ13_bitCount_95d88 55 = .ok (.lload_n 0, 1) := by decide +kernel
theorem dJ13_bitCount_95d88_56 : decode cJ13_bitCount_95d88 56 = .ok (.l2i, 1) := by decide +kernel
theorem dJ13_bitCount_95d88_57 : decode cJ13_bitCount_95d88 57 = .ok (.bipush 127, 2) := by decide +kernel
theorem dJ13_bitCount_95d88_59 : decode cJ13_bitCount_95d88 59 = .ok (.iand, 1) := by decide +kernel
theorem dJ13_bitCount_95d88_60 : decode cJ13_bitCount_95d88 60 = .ok (.ireturn, 1) := by decide +kernel
theorem dJ9_max_7cf53_0 : decode cJ9_max_7cf53 0 = .ok (.iload_n 0, 1) := by decide +kernel
theorem dJ9_max_7cf53_1 : decode cJ9_max_7cf53 1 = .ok (.iload_n 1, 1) := by decide +kernel
theorem dJ9_max_7cf53_2 : decode cJ9_max_7cf53 2 = .ok (.if_icmp .lt 7, 3) := by decide +kernel
theorem dJ9_max_7cf53_5 : decode cJ9_max_7cf53 5 = .ok (.iload_n 0, 1) := by decide +kernel
theorem dJ9_max_7cf53_6 : decode cJ9_max_7cf53 6 = .ok (.goto 4, 3) := by decide +kernel
theorem dJ9_max_7cf53_9 : decode cJ9_max_7cf53 9 = .ok (.iload_n 1, 1) := by decide +kernel
theorem dJ9_max_7cf53_10 : decode cJ9_max_7cf53 10 = .ok (.ireturn, 1) := by decide +kernel
theorem dJ9_min_7cf53_0 : decode cJ9_min_7cf53 0 = .ok (.iload_n 0, 1) := by decide +kernel
theorem dJ9_min_7cf53_1 : decode cJ9_min_7cf53 1 = .ok (.iload_n 1, 1) := by decide +kernel
theorem dJ9_min_7cf53_2 : decode cJ9_min_7cf53 2 = .ok (.if_icmp .gt 7, 3) := by decide +kernel
theorem dJ9_min_7cf53_5 : decode cJ9_min_7cf53 5 = .ok (.iload_n 0, 1) := by decide +kernel
theorem dJ9_min_7cf53_6 : decode cJ9_min_7cf53 6 = .ok (.goto 4, 3) := by decide +kernel
theorem dJ9_min_7cf53_9 : decode cJ9_min_7cf53 9 = .ok (.iload_n 1, 1) := by decide +kernel
theorem dJ9_min_7cf53_10 : decode cJ9_min_7cf53 10 = .ok (.ireturn, 1) := by decide +kernel
theorem dJxa1e45_init_da8c8_0 : decode cJxa1e45_init_da8c8 0 = .ok (.aload_n 0, 1) := by decide +kernel
theorem dJxa1e45_init_da8c8_1 : decode cJxa1e45_init_da8c8 1 = .ok (.invokespecial 1, 3) := by decide +kernel
theorem dJxa1e45_init_da8c8_4 : decode cJxa1e45_init_da8c8 4 = .ok (.return_, 1) := by decide +kernel
set_option maxRecDepth 20000 in
theorem ggJxc12de_init_da8c8_Jxa1e45_init_da8c8 : GoodIn wsJxc12de_init_da8c8 wsJxa1e45_init_da8c8 := goodIn_r _ [5, 6, 7, 8] (by decide +kernel) (by decide +kernel)
set_option maxRecDepth 20000 in
theorem gJxc12de_init_da8c8_Jxa1e45_init_da8c8 : GoodIn wsJxc12de_init_da8c8 (wsJxa1e45_init_da8c8) := ggJxc12de_init_da8c8_Jxa1e45_init_da8c8
theorem dJxc12de_init_da8c8_0 : decode cJxc12de_init_da8c8 0 = .ok (.aload_n 0, 1) := by decide +kernel
theorem dJxc12de_init_da8c8_1 : decode cJxc12de_init_da8c8 1 = .ok (.invokespecial 1, 3) := by decide +kernel
theorem dJxc12de_init_da8c8_4 : decode cJxc12de_init_da8c8 4 = .ok (.aload_n 0, 1) := by decide +kernel
theorem dJxc12de_init_da8c8_5 : decode cJxc12de_init_da8c8 5 = .ok (.iconst 0, 1) := by decide +kernel
theorem dJxc12de_init_da8c8_6 : decode cJxc12de_init_da8c8 6 = .ok (.putfield 7, 3) := by decide +kernel
theorem dJxc12de_init_da8c8_9 : decode cJxc12de_init_da8c8 9 = .ok (.return_, 1) := by decide +kernel
set_option maxRecDepth 20000 in
theorem ggJx4a65c_init_da8c8_Jxc12de_init_da8c8 : GoodIn wsJx4a65c_init_da8c8 wsJxc12de_init_da8c8 := goodIn_r _ [6, 7, 8, 9, 10, 11, 12, 13, 14, 15, 16, 17] (by decide +kernel) (by decide +kernel)
set_option maxRecDepth 20000 in
theorem gJx4a65c_init_da8c8_Jxc12de_init_da8c8 : GoodIn wsJx4a65c_init_da8c8 (wsJxc12de_init_da8c8) := ggJx4a65c_init_da8c8_Jxc12de_init_da8c8
theorem dJx4a65c_init_da8c8_0 : decode cJx4a65c_init_da8c8 0 = .ok (.aload_n 0, 1) := by decide +kernel
theorem dJx4a65c_init_da8c8_1 : decode cJx4a65c_init_da8c8 1 = .ok (.invokespecial 1, 3) := by decide +kernel
theorem dJx4a65c_init_da8c8_4 : decode cJx4a65c_init_da8c8 4 = .ok (.aload_n 0, 1) := by decide +kernel
theorem dJx4a65c_init_da8c8_5 : decode cJx4a65c_init_da8c8 5 = .ok (.getstatic 39, 3) := by decide +kernel
theorem dJx4a65c_init_da8c8_8 : decode cJx4a65c_init_da8c8 8 = .ok (.putfield 9, 3) := by decide +kernel
theorem dJx4a65c_init_da8c8_11 : decode cJx4a65c_init_da8c8 11 = .ok (.return_, 1) := by decide +kernel
set_option maxRecDepth 20000 in
theorem ggJx4a65c_grow_92f84_J8_newLength_cabcc : GoodIn wsJx4a65c_grow_92f84 wsJ8_newLength_cabcc := goodIn_r _ [11, 12, 4, 5, 6, 13, 14, 15, 10, 16] (by decide +kernel) (by decide +kernel)
set_option maxRecDepth 20000 in
theorem gJx4a65c_grow_92f84_J8_newLength_cabcc : GoodIn wsJx4a65c_grow_92f84 (va_wsS RJx4a65c 73 yJ8_newLength_cabcc wsJ8_newLength_cabcc) := goodIn_app (goodIn_of _ (by decide +kernel)) ggJx4a65c_grow_92f84_J8_newLength_cabcc
set_option maxRecDepth 20000 in
theorem ggJx4a65c_grow_92f84_J7_copyOf_1904c : GoodIn wsJx4a65c_grow_92f84 wsJ7_copyOf_1904c := goodIn_r _ [20, 21, 22, 23, 24, 25, 26, 19, 27, 28, 29, 30, 31, 5, 32, 33, 34, 35, 36] (by decide +kernel) (by decide +kernel)
set_option maxRecDepth 20000 in
theorem gJx4a65c_grow_92f84_J7_copyOf_1904c : GoodIn wsJx4a65c_grow_92f84 (va_wsS RJx4a65c 66 yJ7_copyOf_1904c wsJ7_copyOf_1904c) := goodIn_app (goodIn_of _ (by decide +kernel)) ggJx4a65c_grow_92f84_J7_copyOf_1904c
theorem dJx4a65c_grow_92f84_0 : decode cJx4a65c_grow_92f84 0 = .ok (.aload_n 0, 1) := by decide +kernel
theorem dJx4a65c_grow_92f84_1 : decode cJx4a65c_grow_92f84 1 = .ok (.getfield 9, 3) := by decide +kernel
theorem dJx4a65c_grow_92f84_4 : decode cJx4a65c_grow_92f84 4 = .ok (.arraylength, 1) := by decide +kernel
theorem dJx4a65c_grow_92f84_5 : decode cJx4a65c_grow_92f84 5 = .ok (.istore_n 2, 1) := by decide +kernel
theorem dJx4a65c_grow_92f84_6 : decode cJx4a65c_grow_92f84 6 = .ok (.iload_n 2, 1) := by decide +kernel
theorem dJx4a65c_grow_92f84_7 : decode cJx4a65c_grow_92f84 7 = .ok (.ifCond .gt 13, 3) := by decide +kernel
theorem dJx4a65c_grow_92f84_10 : decode cJx4a65c_grow_92f84 10 = .ok (.aload_n 0, 1) := by decide +kernel
theorem dJx4a65c_grow_92f84_11 : decode cJx4a65c_grow_92f84 11 = .ok (.getfield 9, 3) := by decide +kernel
theorem dJx4a65c_grow_92f84_14 : decode cJx4a65c_grow_92f84 14 = .ok (.getstatic 39, 3) := by decide +kernel
theorem dJx4a65c_grow_92f84_17 : decode cJx4a65c_grow_92f84 17 = .ok (.if_acmp .eq 28, 3) := by decide +kernel
theorem dJx4a65c_grow_92f84_20 : decode cJx4a65c_grow_92f84 20 = .ok (.iload_n 2, 1) := by decide +kernel
theorem dJx4a65c_grow_92f84_21 : decode cJx4a65c_grow_92f84 21 = .ok (.iload_n 1, 1) := by decide +kernel
theorem dJx4a65c_grow_92f84_22 : decode cJx4a65c_grow_92f84 22 = .ok (.iload_n 2, 1) := by decide +kernel
theorem dJx4a65c_grow_92f84_23 : decode cJx4a65c_grow_92f84 23 = .ok (.isub, 1) := by decide +kernel
theorem dJx4a65c_grow_92f84_24 : decode cJx4a65c_grow_92f84 24 = .ok (.iload_n 2, 1) := by decide +kernel
theorem dJx4a65c_grow_92f84_25 : decode cJx4a65c_grow_92f84 25 = .ok (.iconst 1, 1) := by decide +kernel
theorem dJx4a65c_grow_92f84_26 : decode cJx4a65c_grow_92f84 26 = .ok (.ishr, 1) := by decide +kernel
theorem dJx4a65c_grow_92f84_27 : decode cJx4a65c_grow_92f84 27 = .ok (.invokestatic 73, 3) := by decide +kernel
theorem dJx4a65c_grow_92f84_30 : decode cJx4a65c_grow_92f84 30 = .ok (.istore_n 3, 1) := by decide +kernel
theorem dJx4a65c_grow_92f84_31 : decode cJx4a65c_grow_92f84 31 = .ok (.aload_n 0, 1) := by decide +kernel
theorem dJx4a65c_grow_92f84_32 : decode cJx4a65c_grow_92f84 32 = .ok (.aload_n 0, 1) := by decide +kernel
theorem dJx4a65c_grow_92f84_33 : decode cJx4a65c_grow_92f84 33 = .ok (.getfield 9, 3) := by decide +kernel
theorem dJx4a65c_grow_92f84_36 : decode cJx4a65c_grow_92f84 36 = .ok (.iload_n 3, 1) := by decide +kernel
theorem dJx4a65c_grow_92f84_37 : decode cJx4a65c_grow_92f84 37 = .ok (.invokestatic 66, 3) := by decide +kernel
theorem dJx4a65c_grow_92f84_40 : decode cJx4a65c_grow_92f84 40 = .ok (.dup_x1, 1) := by decide +kernel
theorem dJx4a65c_grow_92f84_41 : decode cJx4a65c_grow_92f84 41 = .ok (.putfield 9, 3) := by decide +kernel
theorem dJx4a65c_grow_92f84_44 : decode cJx4a65c_grow_92f84 44 = .ok (.areturn, 1) := by decide +kernel
theorem dJx4a65c_grow_92f84_45 : decode cJx4a65c_grow_92f84 45 = .ok (.aload_n 0, 1) := by decide +kernel
theorem dJx4a65c_grow_92f84_46 : decode cJx4a65c_grow_92f84 46 = .ok (.bipush 10, 2) := by decide +kernel
theorem dJx4a65c_grow_92f84_48 : decode cJx4a65c_grow_92f84 48 = .ok (.iload_n 1, 1) := by decide +kernel
theorem dJx4a65c_grow_92f84_49 : decode cJx4a65c_grow_92f84 49 = .ok (.invokestatic 79, 3) := by decide +kernel
theorem dJx4a65c_grow_92f84_52 : decode cJx4a65c_grow_92f84 52 = .ok (.anewarray 7, 3) := by decide +kernel
theorem dJx4a65c_grow_92f84_55 : decode cJx4a65c_grow_92f84 55 = .ok (.dup_x1, 1) := by decide +kernel
theorem dJx4a65c_grow_92f84_56 : decode cJx4a65c_grow_92f84 56 = .ok (.putfield 9, 3) := by decide +kernel
theorem dJx4a65c_grow_92f84_59 : decode cJx4a65c_grow_92f84 59 = .ok (.areturn, 1) := by decide +kernel
set_option maxRecDepth 20000 in
theorem ggJx4a65c_grow_d5877_Jx4a65c_grow_92f84 : GoodIn wsJx4a65c_grow_d5877 wsJx4a65c_grow_92f84 := goodIn_r _ [6, 7, 8, 9, 10, 11, 12, 13, 14, 15, 16, 17, 18, 19, 20, 21, 22, 23, 24, 25, 26, 27, 28, 29, 30, 31, 32, 33, 34, 35, 36, 37, 38, 39, 40, 41, 42, 43, 44, 45] (by decide +kernel) (by decide +kernel)
set_option maxRecDepth 20000 in
theorem gJx4a65c_grow_d5877_Jx4a65c_grow_92f84 : GoodIn wsJx4a65c_grow_d5877 (wsV RJx4a65c 69 RJx4a65c yJx4a65c_grow_92f84 wsJx4a65c_grow_92f84) := goodIn_app (goodIn_of _ (by decide +kernel)) ggJx4a65c_grow_d5877_Jx4a65c_grow_92f84
theorem dJx4a65c_grow_d5877_0 : decode cJx4a65c_grow_d5877 0 = .ok (.aload_n 0, 1) := by decide +kernel
theorem dJx4a65c_grow_d5877_1 : decode cJx4a65c_grow_d5877 1 = .ok (.aload_n 0, 1) := by decide +kernel
theorem dJx4a65c_grow_d5877_2 : decode cJx4a65c_grow_d5877 2 = .ok (.getfield 48, 3) := by decide +kernel
theorem dJx4a65c_grow_d5877_5 : decode cJx4a65c_grow_d5877 5 = .ok (.iconst 1, 1) := by decide +kernel
theorem dJx4a65c_grow_d5877_6 : decode cJx4a65c_grow_d5877 6 = .ok (.iadd, 1) := by decide +kernel
theorem dJx4a65c_grow_d5877_7 : decode cJx4a65c_grow_d5877 7 = .ok (.invokevirtual 69, 3) := by decide +kernel
theorem dJx4a65c_grow_d5877_10 : decode cJx4a65c_grow_d5877 10 = .ok (.areturn, 1) := by decide +kernel
theorem dJx4a65c_size_8abf5_0 : decode cJx4a65c_size_8abf5 0 = .ok (.aload_n 0, 1) := by decide +kernel
theorem dJx4a65c_size_8abf5_1 : decode cJx4a65c_size_8abf5 1 = .ok (.getfield 48, 3) := by decide +kernel
theorem dJx4a65c_size_8abf5_4 : decode cJx4a65c_size_8abf5 4 = .ok (.ireturn, 1) := by decide +kernel
theorem dJx4a65c_elementData_915e3_0 : decode cJx4a65c_elementData_915e3 0 = .ok (.aload_n 0, 1) := by decide +kernel
theorem dJx4a65c_elementData_915e3_1 : decode cJx4a65c_elementData_915e3 1 = .ok (.getfield 9, 3) := by decide +kernel
theorem dJx4a65c_elementData_915e3_4 : decode cJx4a65c_elementData_915e3 4 = .ok (.iload_n 1, 1) := by decide +kernel
theorem dJx4a65c_elementData_915e3_5 : decode cJx4a65c_elementData_915e3 5 = .ok (.aaload, 1) := by decide +kernel
theorem dJx4a65c_elementData_915e3_6 : decode cJx4a65c_elementData_915e3 6 = .ok (.areturn, 1) := by decide +kernel
set_option maxRecDepth 20000 in
theorem ggJx4a65c_get_915e3_J15_checkIndex_7cf53 : GoodIn wsJx4a65c_get_915e3 wsJ15_checkIndex_7cf53 := goodIn_r _ [5, 6, 7, 8, 9] (by decide +kernel) (by decide +kernel)
set_option maxRecDepth 20000 in
theorem gJx4a65c_get_915e3_J15_checkIndex_7cf53 : GoodIn wsJx4a65c_get_915e3 (va_wsS RJx4a65c 118 yJ15_checkIndex_7cf53 wsJ15_checkIndex_7cf53) := goodIn_app (goodIn_of _ (by decide +kernel)) ggJx4a65c_get_915e3_J15_checkIndex_7cf53
set_option maxRecDepth 20000 in
theorem ggJx4a65c_get_915e3_Jx4a65c_elementData_915e3 : GoodIn wsJx4a65c_get_915e3 wsJx4a65c_elementData_915e3 := goodIn_r _ [14, 15, 16, 17, 18] (by decide +kernel) (by decide +kernel)
set_option maxRecDepth 20000 in
theorem gJx4a65c_get_915e3_Jx4a65c_elementData_915e3 : GoodIn wsJx4a65c_get_915e3 (wsV RJx4a65c 123 RJx4a65c yJx4a65c_elementData_915e3 wsJx4a65c_elementData_915e3) := goodIn_app (goodIn_of _ (by decide +kernel)) ggJx4a65c_get_915e3_Jx4a65c_elementData_915e3
theorem dJx4a65c_get_915e3_0 : decode cJx4a65c_get_915e3 0 = .ok (.iload_n 1, 1) := by decide +kernel
theorem dJx4a65c_get_915e3_1 : decode cJx4a65c_get_915e3 1 = .ok (.aload_n 0, 1) := by decide +kernel
theorem dJx4a65c_get_915e3_2 : decode cJx4a65c_get_915e3 2 = .ok (.getfield 48, 3) := by decide +kernel
theorem dJx4a65c_get_915e3_5 : decode cJx4a65c_get_915e3 5 = .ok (.invokestatic 118, 3) := by decide +kernel
theorem dJx4a65c_get_915e3_8 : decode cJx4a65c_get_915e3 8 = .ok (.pop, 1) := by decide +kernel
theorem dJx4a65c_get_915e3_9 : decode cJx4a65c_get_915e3 9 = .ok (.aload_n 0, 1) := by decide +kernel
theorem dJx4a65c_get_915e3_10 : decode cJx4a65c_get_915e3 10 = .ok (.iload_n 1, 1) := by decide +kernel
theorem dJx4a65c_get_915e3_11 : decode cJx4a65c_get_915e3 11 = .ok (.invokevirtual 123, 3) := by decide +kernel
theorem dJx4a65c_get_915e3_14 : decode cJx4a65c_get_915e3 14 = .ok (.areturn, 1) := by decide +kernel
set_option maxRecDepth 20000 in
theorem ggJx4a65c_add_72be8_Jx4a65c_grow_d5877 : GoodIn wsJx4a65c_add_72be8 wsJx4a65c_grow_d5877 := goodIn_r _ [6, 1, 7, 8, 9, 5, 10, 11, 12, 13, 14, 15, 16, 17, 18, 19, 20, 21, 22, 23, 24, 25, 26, 27, 28, 29, 30, 31, 32, 33, 34, 35, 36, 37, 38, 39, 40, 41, 42, 43, 44, 45, 46, 47, 48, 49] (by decide +kernel) (by decide +kernel)
set_option maxRecDepth 20000 in
theorem gJx4a65c_add_72be8_Jx4a65c_grow_d5877 : GoodIn wsJx4a65c_add_72be8 (wsV RJx4a65c 129 RJx4a65c yJx4a65c_grow_d5877 wsJx4a65c_grow_d5877) := goodIn_app (goodIn_of _ (by decide +kernel)) ggJx4a65c_add_72be8_Jx4a65c_grow_d5877
theorem dJx4a65c_add_72be8_0 : decode cJx4a65c_add_72be8 0 = .ok (.iload_n 3, 1) := by decide +kernel
theorem dJx4a65c_add_72be8_1 : decode cJx4a65c_add_72be8 1 = .ok (.aload_n 2, 1) := by decide +kernel
theorem dJx4a65c_add_72be8_2 : decode cJx4a65c_add_72be8 2 = .ok (.arraylength, 1) := by decide +kernel
theorem dJx4a65c_add_72be8_3 : decode cJx4a65c_add_72be8 3 = .ok (.if_icmp .ne 8, 3) := by decide +kernel
theorem dJx4a65c_add_72be8_6 : decode cJx4a65c_add_72be8 6 = .ok (.aload_n 0, 1) := by decide +kernel
theorem dJx4a65c_add_72be8_7 : decode cJx4a65c_add_72be8 7 = .ok (.invokevirtual 129, 3) := by decide +kernel
theorem dJx4a65c_add_72be8_10 : decode cJx4a65c_add_72be8 10 = .ok (.astore_n 2, 1) := by decide +kernel
theorem dJx4a65c_add_72be8_11 : decode cJx4a65c_add_72be8 11 = .ok (.aload_n 2, 1) := by decide +kernel
theorem dJx4a65c_add_72be8_12 : decode cJx4a65c_add_72be8 12 = .ok (.iload_n 3, 1) := by decide +kernel
theorem dJx4a65c_add_72be8_13 : decode cJx4a65c_add_72be8 13 = .ok (.aload_n 1, 1) := by decide +kernel
theorem dJx4a65c_add_72be8_14 : decode cJx4a65c_add_72be8 14 = .ok (.aastore, 1) := by decide +kernel
theorem dJx4a65c_add_72be8_15 : decode cJx4a65c_add_72be8 15 = .ok (.aload_n 0, 1) := by decide +kernel
theorem dJx4a65c_add_72be8_16 : decode cJx4a65c_add_72be8 16 = .ok (.iload_n 3, 1) := by decide +kernel
theorem dJx4a65c_add_72be8_17 : decode cJx4a65c_add_72be8 17 = .ok (.iconst 1, 1) := by decide +kernel
theorem dJx4a65c_add_72be8_18 : decode cJx4a65c_add_72be8 18 = .ok (.iadd, 1) := by decide +kernel
theorem dJx4a65c_add_72be8_19 : decode cJx4a65c_add_72be8 19 = .ok (.putfield 48, 3) := by decide +kernel
theorem dJx4a65c_add_72be8_22 : decode cJx4a65c_add_72be8 22 = .ok (.return_, 1) := by decide +kernel
set_option maxRecDepth 20000 in
theorem ggJx4a65c_add_9ea2d_Jx4a65c_add_72be8 : GoodIn wsJx4a65c_add_9ea2d wsJx4a65c_add_72be8 := goodIn_r _ [9, 4, 10, 11, 12, 8, 13, 14, 15, 16, 17, 3, 18, 19, 20, 21, 22, 23, 24, 25, 26, 27, 28, 29, 30, 31, 32, 33, 34, 35, 36, 37, 38, 39, 40, 41, 42, 43, 44, 45, 46, 47, 48, 49, 50, 51, 52, 53, 54, 55] (by decide +kernel) (by decide +kernel)
set_option maxRecDepth 20000 in
theorem gJx4a65c_add_9ea2d_Jx4a65c_add_72be8 : GoodIn wsJx4a65c_add_9ea2d (wsV RJx4a65c 131 RJx4a65c yJx4a65c_add_72be8 wsJx4a65c_add_72be8) := goodIn_app (goodIn_of _ (by decide +kernel)) ggJx4a65c_add_9ea2d_Jx4a65c_add_72be8
theorem dJx4a65c_add_9ea2d_0 : decode cJx4a65c_add_9ea2d 0 = .ok (.aload_n 0, 1) := by decide +kernel
theorem dJx4a65c_add_9ea2d_1 : decode cJx4a65c_add_9ea2d 1 = .ok (.dup, 1) := by decide +kernel
theorem dJx4a65c_add_9ea2d_2 : decode cJx4a65c_add_9ea2d 2 = .ok (.getfield 63, 3) := by decide +kernel
theorem dJx4a65c_add_9ea2d_5 : decode cJx4a65c_add_9ea2d 5 = .ok (.iconst 1, 1) := by decide +kernel
theorem dJx4a65c_add_9ea2d_6 : decode cJx4a65c_add_9ea2d 6 = .ok (.iadd, 1) := by decide +kernel
theorem dJx4a65c_add_9ea2d_7 : decode cJx4a65c_add_9ea2d 7 = .ok (.putfield 63, 3) := by decide +kernel
theorem dJx4a65c_add_9ea2d_10 : decode cJx4a65c_add_9ea2d 10 = .ok (.aload_n 0, 1) := by decide +kernel
theorem dJx4a65c_add_9ea2d_11 : decode cJx4a65c_add_9ea2d 11 = .ok (.aload_n 1, 1) := by decide +kernel
theorem dJx4a65c_add_9ea2d_12 : decode cJx4a65c_add_9ea2d 12 = .ok (.aload_n 0, 1) := by decide +kernel
