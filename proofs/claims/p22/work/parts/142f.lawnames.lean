set_option maxHeartbeats 1000000 in
set_option maxRecDepth 20000 in
theorem ggL_isWell_X5_count_r5 : GoodIn wsL_isWell wsX5_count_r5 := goodIn_r _ [102, 103, 104, 105, 106, 107, 108, 109, 110, 111, 112, 113, 114, 115, 116, 117, 118, 119, 120, 121, 122, 123, 124, 125] (by decide +kernel) (by decide +kernel)
set_option maxHeartbeats 1000000 in
set_option maxRecDepth 20000 in
theorem ggL_isWell_X5_count_r6 : GoodIn wsL_isWell wsX5_count_r6 := goodIn_r _ [126, 127, 128, 129, 130, 131, 132, 133, 134, 135, 136, 137, 138, 139, 140, 141, 142, 143, 144, 145, 146, 147, 148, 149] (by decide +kernel) (by decide +kernel)
set_option maxHeartbeats 1000000 in
set_option maxRecDepth 20000 in
theorem ggL_isWell_X5_count_r7 : GoodIn wsL_isWell wsX5_count_r7 := goodIn_r _ [150, 151, 152, 153, 154, 155, 156, 157, 158, 159, 160, 161, 162, 163, 164, 165, 166, 167, 168, 169, 170, 171, 172, 173] (by decide +kernel) (by decide +kernel)
set_option maxHeartbeats 1000000 in
set_option maxRecDepth 20000 in
theorem ggL_isWell_X5_count_r8 : GoodIn wsL_isWell wsX5_count_r8 := goodIn_r _ [174, 175, 176, 177, 178, 179, 180, 181, 182, 183, 184, 185, 186, 187, 188, 189, 190, 191, 192, 193, 194] (by decide +kernel) (by decide +kernel)
set_option maxHeartbeats 1000000 in
set_option maxRecDepth 20000 in
theorem ggL_isWell_X5_count_X5 : GoodIn wsL_isWell wsX50 := goodIn_r _ [260, 261, 262, 263, 264, 265, 266] (by decide +kernel) (by decide +kernel)
set_option maxHeartbeats 1000000 in
set_option maxRecDepth 20000 in
theorem ggL_isWell_X5_count_X3 : GoodIn wsL_isWell wsX30 := goodIn_r _ [267, 268, 269, 270, 271, 272] (by decide +kernel) (by decide +kernel)
set_option maxHeartbeats 1000000 in
set_option maxRecDepth 20000 in
theorem ggL_isWell_X5_count_X0 : GoodIn wsL_isWell wsX00 := goodIn_r _ [273, 274, 275, 276, 277, 278] (by decide +kernel) (by decide +kernel)
set_option maxHeartbeats 1000000 in
set_option maxRecDepth 20000 in
theorem ggL_isWell_X5_count_X1 : GoodIn wsL_isWell wsX10 := goodIn_r _ [279, 280, 281] (by decide +kernel) (by decide +kernel)
set_option maxHeartbeats 1000000 in
set_option maxRecDepth 20000 in
theorem ggL_isWell_X5_count_X4 : GoodIn wsL_isWell wsX40 := goodIn_r _ [282, 283] (by decide +kernel) (by decide +kernel)
set_option maxRecDepth 20000 in
theorem ggL_isWell_X5_count : GoodIn wsL_isWell wsX5_count := goodIn_app ggL_isWell_X5_count_h (goodIn_app (goodIn_app (goodIn_app (goodIn_app (goodIn_app (goodIn_app ggL_isWell_X5_count_r1 (goodIn_app ggL_isWell_X5_count_r2 (goodIn_app ggL_isWell_X5_count_r3 (goodIn_app ggL_isWell_X5_count_r4 (goodIn_app ggL_isWell_X5_count_r5 (goodIn_app ggL_isWell_X5_count_r6 (goodIn_app ggL_isWell_X5_count_r7 (ggL_isWell_X5_count_r8)))))))) ggL_isWell_X5_count_X5) ggL_isWell_X5_count_X3) ggL_isWell_X5_count_X0) ggL_isWell_X5_count_X1) ggL_isWell_X5_count_X4)
set_option maxRecDepth 20000 in
theorem gL_isWell_X5_count : GoodIn wsL_isWell (wsV RL 9 RX5 yX5_count wsX5_count) := goodIn_app (goodIn_of _ (by decide +kernel)) ggL_isWell_X5_count
set_option maxHeartbeats 1000000 in
set_option maxRecDepth 20000 in
theorem ggL_isWell_X5_sum_h : GoodIn wsL_isWell [.code yX5_sum cX5_sum 3 (some .int)] := goodIn_r _ [198] (by decide +kernel) (by decide +kernel)
set_option maxHeartbeats 1000000 in
set_option maxRecDepth 20000 in
theorem ggL_isWell_X5_sum_r1 : GoodIn wsL_isWell wsX5_sum_r1 := goodIn_r _ [39, 40, 41, 5, 42, 43, 44, 45, 46, 47, 48, 49, 50, 51, 52, 53, 54, 55, 56, 57, 58, 11, 12, 13] (by decide +kernel) (by decide +kernel)
set_option maxHeartbeats 1000000 in
set_option maxRecDepth 20000 in
theorem ggL_isWell_X5_sum_r2 : GoodIn wsL_isWell wsX5_sum_r2 := goodIn_r _ [14, 15, 59, 60, 61, 62, 63, 64, 65, 66, 67, 68, 33, 34, 28, 29, 30, 31, 32, 69, 70, 71, 72, 73] (by decide +kernel) (by decide +kernel)
set_option maxHeartbeats 1000000 in
set_option maxRecDepth 20000 in
theorem ggL_isWell_X5_sum_r3 : GoodIn wsL_isWell wsX5_sum_r3 := goodIn_r _ [74, 75, 76, 77, 78, 79, 80, 81, 82, 83, 84, 85, 86, 87, 88, 89, 90, 91, 92, 93, 94, 95, 96, 97] (by decide +kernel) (by decide +kernel)
set_option maxHeartbeats 1000000 in
set_option maxRecDepth 20000 in
theorem ggL_isWell_X5_sum_r4 : GoodIn wsL_isWell wsX5_sum_r4 := goodIn_r _ [98, 99, 199, 200, 201, 202, 203, 204, 205, 206, 207, 208, 209, 210, 124, 125, 126, 127, 211, 212, 213, 214, 215, 216] (by decide +kernel) (by decide +kernel)
set_option maxHeartbeats 1000000 in
set_option maxRecDepth 20000 in
theorem ggL_isWell_X5_sum_r5 : GoodIn wsL_isWell wsX5_sum_r5 := goodIn_r _ [217, 218, 219, 220, 221, 222, 223] (by decide +kernel) (by decide +kernel)
set_option maxHeartbeats 1000000 in
set_option maxRecDepth 20000 in
theorem ggL_isWell_X5_sum_X5 : GoodIn wsL_isWell wsX50 := goodIn_r _ [260, 261, 262, 263, 264, 265, 266] (by decide +kernel) (by decide +kernel)
set_option maxHeartbeats 1000000 in
set_option maxRecDepth 20000 in
theorem ggL_isWell_X5_sum_X0 : GoodIn wsL_isWell wsX00 := goodIn_r _ [273, 274, 275, 276, 277, 278] (by decide +kernel) (by decide +kernel)
set_option maxHeartbeats 1000000 in
set_option maxRecDepth 20000 in
theorem ggL_isWell_X5_sum_X3 : GoodIn wsL_isWell wsX30 := goodIn_r _ [267, 268, 269, 270, 271, 272] (by decide +kernel) (by decide +kernel)
set_option maxRecDepth 20000 in
theorem ggL_isWell_X5_sum : GoodIn wsL_isWell wsX5_sum := goodIn_app ggL_isWell_X5_sum_h (goodIn_app (goodIn_app (goodIn_app (goodIn_app ggL_isWell_X5_sum_r1 (goodIn_app ggL_isWell_X5_sum_r2 (goodIn_app ggL_isWell_X5_sum_r3 (goodIn_app ggL_isWell_X5_sum_r4 (ggL_isWell_X5_sum_r5))))) ggL_isWell_X5_sum_X5) ggL_isWell_X5_sum_X0) ggL_isWell_X5_sum_X3)
set_option maxRecDepth 20000 in
theorem gL_isWell_X5_sum : GoodIn wsL_isWell (wsV RL 69 RX5 yX5_sum wsX5_sum) := goodIn_app (goodIn_of _ (by decide +kernel)) ggL_isWell_X5_sum
set_option maxHeartbeats 1000000 in
set_option maxRecDepth 20000 in
theorem ggL_isWell_X5_kept_h : GoodIn wsL_isWell [.code yX5_kept cX5_kept 4 (some .int)] := goodIn_r _ [227] (by decide +kernel) (by decide +kernel)
set_option maxHeartbeats 1000000 in
set_option maxRecDepth 20000 in
theorem ggL_isWell_X5_kept_r1 : GoodIn wsL_isWell wsX5_kept_r1 := goodIn_r _ [228, 94, 5, 95, 39, 40, 41, 42, 43, 44, 45, 46, 47, 48, 49, 50, 51, 52, 53, 54, 55, 56, 57, 58] (by decide +kernel) (by decide +kernel)
set_option maxHeartbeats 1000000 in
set_option maxRecDepth 20000 in
theorem ggL_isWell_X5_kept_r2 : GoodIn wsL_isWell wsX5_kept_r2 := goodIn_r _ [11, 12, 13, 14, 15, 59, 60, 61, 62, 63, 64, 65, 66, 67, 68, 33, 34, 28, 29, 30, 31, 32, 69, 70] (by decide +kernel) (by decide +kernel)
set_option maxHeartbeats 1000000 in
set_option maxRecDepth 20000 in
theorem ggL_isWell_X5_kept_r3 : GoodIn wsL_isWell wsX5_kept_r3 := goodIn_r _ [71, 72, 73, 74, 75, 76, 77, 78, 79, 80, 81, 82, 83, 84, 85, 86, 87, 88, 89, 90, 91, 92, 93, 96] (by decide +kernel) (by decide +kernel)
set_option maxHeartbeats 1000000 in
set_option maxRecDepth 20000 in
theorem ggL_isWell_X5_kept_r4 : GoodIn wsL_isWell wsX5_kept_r4 := goodIn_r _ [97, 98, 99, 100, 101, 102, 103, 229, 217, 218, 219, 124, 125, 126, 127] (by decide +kernel) (by decide +kernel)
set_option maxHeartbeats 1000000 in
set_option maxRecDepth 20000 in
theorem ggL_isWell_X5_kept_X5 : GoodIn wsL_isWell wsX50 := goodIn_r _ [260, 261, 262, 263, 264, 265, 266] (by decide +kernel) (by decide +kernel)
set_option maxHeartbeats 1000000 in
set_option maxRecDepth 20000 in
theorem ggL_isWell_X5_kept_X0 : GoodIn wsL_isWell wsX00 := goodIn_r _ [273, 274, 275, 276, 277, 278] (by decide +kernel) (by decide +kernel)
set_option maxHeartbeats 1000000 in
set_option maxRecDepth 20000 in
theorem ggL_isWell_X5_kept_X3 : GoodIn wsL_isWell wsX30 := goodIn_r _ [267, 268, 269, 270, 271, 272] (by decide +kernel) (by decide +kernel)
set_option maxRecDepth 20000 in
theorem ggL_isWell_X5_kept : GoodIn wsL_isWell wsX5_kept := goodIn_app ggL_isWell_X5_kept_h (goodIn_app (goodIn_app (goodIn_app (goodIn_app ggL_isWell_X5_kept_r1 (goodIn_app ggL_isWell_X5_kept_r2 (goodIn_app ggL_isWell_X5_kept_r3 (ggL_isWell_X5_kept_r4)))) ggL_isWell_X5_kept_X5) ggL_isWell_X5_kept_X0) ggL_isWell_X5_kept_X3)
set_option maxRecDepth 20000 in
theorem gL_isWell_X5_kept : GoodIn wsL_isWell (wsV RL 72 RX5 yX5_kept wsX5_kept) := goodIn_app (goodIn_of _ (by decide +kernel)) ggL_isWell_X5_kept
set_option maxHeartbeats 1000000 in
set_option maxRecDepth 20000 in
theorem ggL_isWell_X5_key_h : GoodIn wsL_isWell [.code yX5_key cX5_key 3 (some .int)] := goodIn_r _ [233] (by decide +kernel) (by decide +kernel)
set_option maxHeartbeats 1000000 in
set_option maxRecDepth 20000 in
theorem ggL_isWell_X5_key_r1 : GoodIn wsL_isWell wsX5_key_r1 := goodIn_r _ [7, 228, 94, 5, 95, 234, 25, 26, 13, 27, 15, 28, 29, 30, 31, 32, 33, 34, 39, 40, 41, 42, 43, 44] (by decide +kernel) (by decide +kernel)
set_option maxHeartbeats 1000000 in
set_option maxRecDepth 20000 in
theorem ggL_isWell_X5_key_r2 : GoodIn wsL_isWell wsX5_key_r2 := goodIn_r _ [45, 46, 47, 48, 49, 50, 51, 52, 53, 54, 55, 56, 57, 58, 11, 12, 14, 59, 60, 61, 62, 63, 64, 65] (by decide +kernel) (by decide +kernel)
set_option maxHeartbeats 1000000 in
set_option maxRecDepth 20000 in
theorem ggL_isWell_X5_key_r3 : GoodIn wsL_isWell wsX5_key_r3 := goodIn_r _ [66, 67, 68, 69, 70, 71, 72, 73, 74, 75, 76, 77, 78, 79, 80, 81, 82, 83, 84, 85, 86, 87, 88, 89] (by decide +kernel) (by decide +kernel)
set_option maxHeartbeats 1000000 in
set_option maxRecDepth 20000 in
theorem ggL_isWell_X5_key_r4 : GoodIn wsL_isWell wsX5_key_r4 := goodIn_r _ [90, 91, 92, 93, 96, 97, 98, 99, 235, 236, 237, 238, 239, 240, 241, 242, 243, 244, 245] (by decide +kernel) (by decide +kernel)
set_option maxHeartbeats 1000000 in
set_option maxRecDepth 20000 in
theorem ggL_isWell_X5_key_X5 : GoodIn wsL_isWell wsX50 := goodIn_r _ [260, 261, 262, 263, 264, 265, 266] (by decide +kernel) (by decide +kernel)
set_option maxHeartbeats 1000000 in
set_option maxRecDepth 20000 in
theorem ggL_isWell_X5_key_X3 : GoodIn wsL_isWell wsX30 := goodIn_r _ [267, 268, 269, 270, 271, 272] (by decide +kernel) (by decide +kernel)
set_option maxHeartbeats 1000000 in
set_option maxRecDepth 20000 in
theorem ggL_isWell_X5_key_X0 : GoodIn wsL_isWell wsX00 := goodIn_r _ [273, 274, 275, 276, 277, 278] (by decide +kernel) (by decide +kernel)
set_option maxRecDepth 20000 in
theorem ggL_isWell_X5_key : GoodIn wsL_isWell wsX5_key := goodIn_app ggL_isWell_X5_key_h (goodIn_app (goodIn_app (goodIn_app (goodIn_app ggL_isWell_X5_key_r1 (goodIn_app ggL_isWell_X5_key_r2 (goodIn_app ggL_isWell_X5_key_r3 (ggL_isWell_X5_key_r4)))) ggL_isWell_X5_key_X5) ggL_isWell_X5_key_X3) ggL_isWell_X5_key_X0)
set_option maxRecDepth 20000 in
theorem gL_isWell_X5_key : GoodIn wsL_isWell (wsV RL 38 RX5 yX5_key wsX5_key) := goodIn_app (goodIn_of _ (by decide +kernel)) ggL_isWell_X5_key
set_option maxHeartbeats 1000000 in
set_option maxRecDepth 20000 in
theorem ggL_isWell_X5_row_h : GoodIn wsL_isWell [.code yX5_row cX5_row 3 (some .int)] := goodIn_r _ [249] (by decide +kernel) (by decide +kernel)
set_option maxHeartbeats 1000000 in
set_option maxRecDepth 20000 in
theorem ggL_isWell_X5_row_r1 : GoodIn wsL_isWell wsX5_row_r1 := goodIn_r _ [7, 250, 251, 252, 13, 253, 15, 254, 29, 30, 31, 32, 33, 5, 34, 255, 129, 130, 131, 132, 256, 65, 66, 67] (by decide +kernel) (by decide +kernel)
set_option maxHeartbeats 1000000 in
set_option maxRecDepth 20000 in
theorem ggL_isWell_X5_row_r2 : GoodIn wsL_isWell wsX5_row_r2 := goodIn_r _ [68, 257, 90, 91, 92, 93, 258, 60, 61, 62, 63, 64, 28, 69, 70, 71, 72, 180, 181, 182, 39, 40, 41, 42] (by decide +kernel) (by decide +kernel)
set_option maxHeartbeats 1000000 in
set_option maxRecDepth 20000 in
theorem ggL_isWell_X5_row_r3 : GoodIn wsL_isWell wsX5_row_r3 := goodIn_r _ [43, 44, 45, 46, 47, 48, 49, 50, 51, 52, 53, 54, 55, 56, 57, 58, 11, 12, 14, 59, 73, 74, 75, 76] (by decide +kernel) (by decide +kernel)
set_option maxHeartbeats 1000000 in
set_option maxRecDepth 20000 in
theorem ggL_isWell_X5_row_r4 : GoodIn wsL_isWell wsX5_row_r4 := goodIn_r _ [77, 78, 79, 80, 81, 82, 83, 84, 85, 86, 87, 88, 89, 94, 95, 96, 97, 98, 99, 259, 109, 110, 111] (by decide +kernel) (by decide +kernel)
set_option maxHeartbeats 1000000 in
set_option maxRecDepth 20000 in
theorem ggL_isWell_X5_row_X5 : GoodIn wsL_isWell wsX50 := goodIn_r _ [260, 261, 262, 263, 264, 265, 266] (by decide +kernel) (by decide +kernel)
set_option maxHeartbeats 1000000 in
set_option maxRecDepth 20000 in
theorem ggL_isWell_X5_row_X3 : GoodIn wsL_isWell wsX30 := goodIn_r _ [267, 268, 269, 270, 271, 272] (by decide +kernel) (by decide +kernel)
set_option maxHeartbeats 1000000 in
set_option maxRecDepth 20000 in
theorem ggL_isWell_X5_row_X0 : GoodIn wsL_isWell wsX00 := goodIn_r _ [273, 274, 275, 276, 277, 278] (by decide +kernel) (by decide +kernel)
set_option maxRecDepth 20000 in
theorem ggL_isWell_X5_row : GoodIn wsL_isWell wsX5_row := goodIn_app ggL_isWell_X5_row_h (goodIn_app (goodIn_app (goodIn_app (goodIn_app ggL_isWell_X5_row_r1 (goodIn_app ggL_isWell_X5_row_r2 (goodIn_app ggL_isWell_X5_row_r3 (ggL_isWell_X5_row_r4)))) ggL_isWell_X5_row_X5) ggL_isWell_X5_row_X3) ggL_isWell_X5_row_X0)
set_option maxRecDepth 20000 in
theorem gL_isWell_X5_row : GoodIn wsL_isWell (wsV RL 32 RX5 yX5_row wsX5_row) := goodIn_app (goodIn_of _ (by decide +kernel)) ggL_isWell_X5_row
theorem dL_isWell_0 : decode cL_isWell 0 = .ok (.aload_n 0, 1) := by decide +kernel
theorem dL_isWell_1 : decode cL_isWell 1 = .ok (.iconst 3, 1) := by decide +kernel
theorem dL_isWell_2 : decode cL_isWell 2 = .ok (.invokevirtual 9, 3) := by decide +kernel
theorem dL_isWell_5 : decode cL_isWell 5 = .ok (.istore_n 1, 1) := by decide +kernel
theorem dL_isWell_6 : decode cL_isWell 6 = .ok (.iload_n 1, 1) := by decide +kernel
theorem dL_isWell_7 : decode cL_isWell 7 = .ok (.sipush 200, 3) := by decide +kernel
theorem dL_isWell_10 : decode cL_isWell 10 = .ok (.if_icmp .le 5, 3) := by decide +kernel
theorem dL_isWell_13 : decode cL_isWell 13 = .ok (.iconst 1, 1) := by decide +kernel
theorem dL_isWell_14 : decode cL_isWell 14 = .ok (.ireturn, 1) := by decide +kernel
theorem dL_isWell_15 : decode cL_isWell 15 = .ok (.aload_n 0, 1) := by decide +kernel
theorem dL_isWell_16 : decode cL_isWell 16 = .ok (.iconst 0, 1) := by decide +kernel
theorem dL_isWell_17 : decode cL_isWell 17 = .ok (.invokevirtual 9, 3) := by decide +kernel
theorem dL_isWell_20 : decode cL_isWell 20 = .ok (.istore_n 2, 1) := by decide +kernel
theorem dL_isWell_21 : decode cL_isWell 21 = .ok (.bipush 20, 2) := by decide +kernel
theorem dL_isWell_23 : decode cL_isWell 23 = .ok (.newarray .int, 2) := by decide +kernel
theorem dL_isWell_25 : decode cL_isWell 25 = .ok (.astore_n 3, 1) := by decide +kernel
theorem dL_isWell_26 : decode cL_isWell 26 = .ok (.iconst 1, 1) := by decide +kernel
theorem dL_isWell_27 : decode cL_isWell 27 = .ok (.istore 4, 2) := by decide +kernel
theorem dL_isWell_29 : decode cL_isWell 29 = .ok (.iconst 0, 1) := by decide +kernel
theorem dL_isWell_30 : decode cL_isWell 30 = .ok (.istore 5, 2) := by decide +kernel
theorem dL_isWell_32 : decode cL_isWell 32 = .ok (.iconst 0, 1) := by decide +kernel
theorem dL_isWell_33 : decode cL_isWell 33 = .ok (.istore 6, 2) := by decide +kernel
theorem dL_isWell_35 : decode cL_isWell 35 = .ok (.iconst 0, 1) := by decide +kernel
theorem dL_isWell_36 : decode cL_isWell 36 = .ok (.istore 7, 2) := by decide +kernel
theorem dL_isWell_38 : decode cL_isWell 38 = .ok (.aload_n 0, 1) := by decide +kernel
theorem dL_isWell_39 : decode cL_isWell 39 = .ok (.iconst 0, 1) := by decide +kernel
theorem dL_isWell_40 : decode cL_isWell 40 = .ok (.invokevirtual 69, 3) := by decide +kernel
theorem dL_isWell_43 : decode cL_isWell 43 = .ok (.istore 8, 2) := by decide +kernel
theorem dL_isWell_45 : decode cL_isWell 45 = .ok (.aload_n 0, 1) := by decide +kernel
theorem dL_isWell_46 : decode cL_isWell 46 = .ok (.iconst 1, 1) := by decide +kernel
theorem dL_isWell_47 : decode cL_isWell 47 = .ok (.invokevirtual 69, 3) := by decide +kernel
theorem dL_isWell_50 : decode cL_isWell 50 = .ok (.istore 9, 2) := by decide +kernel
theorem dL_isWell_52 : decode cL_isWell 52 = .ok (.aload_n 0, 1) := by decide +kernel
theorem dL_isWell_53 : decode cL_isWell 53 = .ok (.iconst 2, 1) := by decide +kernel
theorem dL_isWell_54 : decode cL_isWell 54 = .ok (.invokevirtual 69, 3) := by decide +kernel
theorem dL_isWell_57 : decode cL_isWell 57 = .ok (.istore 10, 2) := by decide +kernel
theorem dL_isWell_59 : decode cL_isWell 59 = .ok (.aload_n 0, 1) := by decide +kernel
theorem dL_isWell_60 : decode cL_isWell 60 = .ok (.iconst 3, 1) := by decide +kernel
theorem dL_isWell_61 : decode cL_isWell 61 = .ok (.invokevirtual 69, 3) := by decide +kernel
theorem dL_isWell_64 : decode cL_isWell 64 = .ok (.istore 11, 2) := by decide +kernel
theorem dL_isWell_66 : decode cL_isWell 66 = .ok (.iconst 1, 1) := by decide +kernel
theorem dL_isWell_67 : decode cL_isWell 67 = .ok (.istore 12, 2) := by decide +kernel
theorem dL_isWell_69 : decode cL_isWell 69 = .ok (.iconst 0, 1) := by decide +kernel
theorem dL_isWell_70 : decode cL_isWell 70 = .ok (.istore 13, 2) := by decide +kernel
theorem dL_isWell_72 : decode cL_isWell 72 = .ok (.iload 13, 2) := by decide +kernel
theorem dL_isWell_74 : decode cL_isWell 74 = .ok (.iload_n 1, 1) := by decide +kernel
theorem dL_isWell_75 : decode cL_isWell 75 = .ok (.if_icmp .ge 254, 3) := by decide +kernel
theorem dL_isWell_78 : decode cL_isWell 78 = .ok (.iload 12, 2) := by decide +kernel
theorem dL_isWell_80 : decode cL_isWell 80 = .ok (.ifCond .eq 249, 3) := by decide +kernel
theorem dL_isWell_83 : decode cL_isWell 83 = .ok (.iconst 0, 1) := by decide +kernel
theorem dL_isWell_84 : decode cL_isWell 84 = .ok (.istore 14, 2) := by decide +kernel
theorem dL_isWell_86 : decode cL_isWell 86 = .ok (.iconst 0, 1) := by decide +kernel
theorem dL_isWell_87 : decode cL_isWell 87 = .ok (.istore 15, 2) := by decide +kernel
theorem dL_isWell_89 : decode cL_isWell 89 = .ok (.iload 15, 2) := by decide +kernel
theorem dL_isWell_91 : decode cL_isWell 91 = .ok (.bipush 10, 2) := by decide +kernel
theorem dL_isWell_93 : decode cL_isWell 93 = .ok (.if_icmp .ge 136, 3) := by decide +kernel
theorem dL_isWell_96 : decode cL_isWell 96 = .ok (.iload 12, 2) := by decide +kernel
theorem dL_isWell_98 : decode cL_isWell 98 = .ok (.ifCond .eq 131, 3) := by decide +kernel
theorem dL_isWell_101 : decode cL_isWell 101 = .ok (.aload_n 0, 1) := by decide +kernel
theorem dL_isWell_102 : decode cL_isWell 102 = .ok (.iload 13, 2) := by decide +kernel
theorem dL_isWell_104 : decode cL_isWell 104 = .ok (.iload 15, 2) := by decide +kernel
theorem dL_isWell_106 : decode cL_isWell 106 = .ok (.invokevirtual 72, 3) := by decide +kernel
theorem dL_isWell_109 : decode cL_isWell 109 = .ok (.istore 16, 2) := by decide +kernel
theorem dL_isWell_111 : decode cL_isWell 111 = .ok (.iload 16, 2) := by decide +kernel
theorem dL_isWell_113 : decode cL_isWell 113 = .ok (.bipush (-5), 2) := by decide +kernel
theorem dL_isWell_115 : decode cL_isWell 115 = .ok (.if_icmp .ne 7, 3) := by decide +kernel
theorem dL_isWell_118 : decode cL_isWell 118 = .ok (.iconst 1, 1) := by decide +kernel
theorem dL_isWell_119 : decode cL_isWell 119 = .ok (.goto 4, 3) := by decide +kernel
theorem dL_isWell_122 : decode cL_isWell 122 = .ok (.iconst 0, 1) := by decide +kernel
theorem dL_isWell_123 : decode cL_isWell 123 = .ok (.aload_n 0, 1) := by decide +kernel
theorem dL_isWell_124 : decode cL_isWell 124 = .ok (.iload 15, 2) := by decide +kernel
theorem dL_isWell_126 : decode cL_isWell 126 = .ok (.iconst 0, 1) := by decide +kernel
theorem dL_isWell_127 : decode cL_isWell 127 = .ok (.invokevirtual 38, 3) := by decide +kernel
theorem dL_isWell_130 : decode cL_isWell 130 = .ok (.ifCond .ne 7, 3) := by decide +kernel
theorem dL_isWell_133 : decode cL_isWell 133 = .ok (.iconst 1, 1) := by decide +kernel
theorem dL_isWell_134 : decode cL_isWell 134 = .ok (.goto 4, 3) := by decide +kernel
theorem dL_isWell_137 : decode cL_isWell 137 = .ok (.iconst 0, 1) := by decide +kernel
theorem dL_isWell_138 : decode cL_isWell 138 = .ok (.if_icmp .ne 35, 3) := by decide +kernel
theorem dL_isWell_141 : decode cL_isWell 141 = .ok (.iload 16, 2) := by decide +kernel
theorem dL_isWell_143 : decode cL_isWell 143 = .ok (.ifCond .lt 26, 3) := by decide +kernel
theorem dL_isWell_146 : decode cL_isWell 146 = .ok (.aload_n 0, 1) := by decide +kernel
theorem dL_isWell_147 : decode cL_isWell 147 = .ok (.iload 16, 2) := by decide +kernel
theorem dL_isWell_149 : decode cL_isWell 149 = .ok (.iconst 0, 1) := by decide +kernel
theorem dL_isWell_150 : decode cL_isWell 150 = .ok (.invokevirtual 32, 3) := by decide +kernel
theorem dL_isWell_153 : decode cL_isWell 153 = .ok (.iload 15, 2) := by decide +kernel
theorem dL_isWell_155 : decode cL_isWell 155 = .ok (.if_icmp .ne 18, 3) := by decide +kernel
theorem dL_isWell_158 : decode cL_isWell 158 = .ok (.aload_n 0, 1) := by decide +kernel
theorem dL_isWell_159 : decode cL_isWell 159 = .ok (.iload 16, 2) := by decide +kernel
theorem dL_isWell_161 : decode cL_isWell 161 = .ok (.iconst 4, 1) := by decide +kernel
theorem dL_isWell_162 : decode cL_isWell 162 = .ok (.invokevirtual 32, 3) := by decide +kernel
theorem dL_isWell_165 : decode cL_isWell 165 = .ok (.iconst 1, 1) := by decide +kernel
theorem dL_isWell_166 : decode cL_isWell 166 = .ok (.if_icmp .ne 7, 3) := by decide +kernel
theorem dL_isWell_169 : decode cL_isWell 169 = .ok (.iconst 1, 1) := by decide +kernel
theorem dL_isWell_170 : decode cL_isWell 170 = .ok (.goto 4, 3) := by decide +kernel
theorem dL_isWell_173 : decode cL_isWell 173 = .ok (.iconst 0, 1) := by decide +kernel
theorem dL_isWell_174 : decode cL_isWell 174 = .ok (.istore 12, 2) := by decide +kernel
theorem dL_isWell_176 : decode cL_isWell 176 = .ok (.aload_n 3, 1) := by decide +kernel
theorem dL_isWell_177 : decode cL_isWell 177 = .ok (.iload 16, 2) := by decide +kernel
theorem dL_isWell_179 : decode cL_isWell 179 = .ok (.ifCond .ge 7, 3) := by decide +kernel
theorem dL_isWell_182 : decode cL_isWell 182 = .ok (.iconst 0, 1) := by decide +kernel
theorem dL_isWell_183 : decode cL_isWell 183 = .ok (.goto 5, 3) := by decide +kernel
theorem dL_isWell_186 : decode cL_isWell 186 = .ok (.iload 16, 2) := by decide +kernel
theorem dL_isWell_188 : decode cL_isWell 188 = .ok (.dup2, 1) := by decide +kernel
theorem dL_isWell_189 : decode cL_isWell 189 = .ok (.iaload, 1) := by decide +kernel
theorem dL_isWell_190 : decode cL_isWell 190 = .ok (.iload 16, 2) := by decide +kernel
theorem dL_isWell_192 : decode cL_isWell 192 = .ok (.ifCond .ge 7, 3) := by decide +kernel
theorem dL_isWell_195 : decode cL_isWell 195 = .ok (.iconst 0, 1) := by decide +kernel
theorem dL_isWell_196 : decode cL_isWell 196 = .ok (.goto 4, 3) := by decide +kernel
theorem dL_isWell_199 : decode cL_isWell 199 = .ok (.iconst 1, 1) := by decide +kernel
theorem dL_isWell_200 : decode cL_isWell 200 = .ok (.iadd, 1) := by decide +kernel
theorem dL_isWell_201 : decode cL_isWell 201 = .ok (.iastore, 1) := by decide +kernel
theorem dL_isWell_202 : decode cL_isWell 202 = .ok (.iload 14, 2) := by decide +kernel
theorem dL_isWell_204 : decode cL_isWell 204 = .ok (.iload 16, 2) := by decide +kernel
theorem dL_isWell_206 : decode cL_isWell 206 = .ok (.ifCond .ge 7, 3) := by decide +kernel
theorem dL_isWell_209 : decode cL_isWell 209 = .ok (.iconst 0, 1) := by decide +kernel
theorem dL_isWell_210 : decode cL_isWell 210 = .ok (.goto 10, 3) := by decide +kernel
theorem dL_isWell_213 : decode cL_isWell 213 = .ok (.aload_n 0, 1) := by decide +kernel
theorem dL_isWell_214 : decode cL_isWell 214 = .ok (.iload 16, 2) := by decide +kernel
theorem dL_isWell_216 : decode cL_isWell 216 = .ok (.iconst 2, 1) := by decide +kernel
theorem dL_isWell_217 : decode cL_isWell 217 = .ok (.invokevirtual 32, 3) := by decide +kernel
theorem dL_isWell_220 : decode cL_isWell 220 = .ok (.iadd, 1) := by decide +kernel
theorem dL_isWell_221 : decode cL_isWell 221 = .ok (.istore 14, 2) := by decide +kernel
theorem dL_isWell_223 : decode cL_isWell 223 = .ok (.iinc 15 1, 3) := by decide +kernel
theorem dL_isWell_226 : decode cL_isWell 226 = .ok (.goto (-137), 3) := by decide +kernel
theorem dL_isWell_229 : decode cL_isWell 229 = .ok (.iload 12, 2) := by decide +kernel
theorem dL_isWell_231 : decode cL_isWell 231 = .ok (.ifCond .eq 89, 3) := by decide +kernel
theorem dL_isWell_234 : decode cL_isWell 234 = .ok (.iload 14, 2) := by decide +kernel
theorem dL_isWell_236 : decode cL_isWell 236 = .ok (.iload 8, 2) := by decide +kernel
theorem dL_isWell_238 : decode cL_isWell 238 = .ok (.if_icmp .lt 82, 3) := by decide +kernel
theorem dL_isWell_241 : decode cL_isWell 241 = .ok (.iload 14, 2) := by decide +kernel
theorem dL_isWell_243 : decode cL_isWell 243 = .ok (.iload 9, 2) := by decide +kernel
theorem dL_isWell_245 : decode cL_isWell 245 = .ok (.if_icmp .gt 75, 3) := by decide +kernel
theorem dL_isWell_248 : decode cL_isWell 248 = .ok (.iload 13, 2) := by decide +kernel
theorem dL_isWell_250 : decode cL_isWell 250 = .ok (.iload 10, 2) := by decide +kernel
theorem dL_isWell_252 : decode cL_isWell 252 = .ok (.if_icmp .gt 30, 3) := by decide +kernel
theorem dL_isWell_255 : decode cL_isWell 255 = .ok (.iload 14, 2) := by decide +kernel
theorem dL_isWell_257 : decode cL_isWell 257 = .ok (.iload 8, 2) := by decide +kernel
theorem dL_isWell_259 : decode cL_isWell 259 = .ok (.if_icmp .ne 7, 3) := by decide +kernel
theorem dL_isWell_262 : decode cL_isWell 262 = .ok (.iconst 1, 1) := by decide +kernel
theorem dL_isWell_263 : decode cL_isWell 263 = .ok (.goto 4, 3) := by decide +kernel
theorem dL_isWell_266 : decode cL_isWell 266 = .ok (.iconst 0, 1) := by decide +kernel
theorem dL_isWell_267 : decode cL_isWell 267 = .ok (.iload 13, 2) := by decide +kernel
theorem dL_isWell_269 : decode cL_isWell 269 = .ok (.iload 10, 2) := by decide +kernel
theorem dL_isWell_271 : decode cL_isWell 271 = .ok (.if_icmp .ne 7, 3) := by decide +kernel
theorem dL_isWell_274 : decode cL_isWell 274 = .ok (.iconst 1, 1) := by decide +kernel
theorem dL_isWell_275 : decode cL_isWell 275 = .ok (.goto 4, 3) := by decide +kernel
theorem dL_isWell_278 : decode cL_isWell 278 = .ok (.iconst 0, 1) := by decide +kernel
theorem dL_isWell_279 : decode cL_isWell 279 = .ok (.if_icmp .ne 41, 3) := by decide +kernel
theorem dL_isWell_282 : decode cL_isWell 282 = .ok (.iload 13, 2) := by decide +kernel
theorem dL_isWell_284 : decode cL_isWell 284 = .ok (.iload 11, 2) := by decide +kernel
theorem dL_isWell_286 : decode cL_isWell 286 = .ok (.if_icmp .gt 30, 3) := by decide +kernel
theorem dL_isWell_289 : decode cL_isWell 289 = .ok (.iload 14, 2) := by decide +kernel
theorem dL_isWell_291 : decode cL_isWell 291 = .ok (.iload 9, 2) := by decide +kernel
theorem dL_isWell_293 : decode cL_isWell 293 = .ok (.if_icmp .ne 7, 3) := by decide +kernel
theorem dL_isWell_296 : decode cL_isWell 296 = .ok (.iconst 1, 1) := by decide +kernel
theorem dL_isWell_297 : decode cL_isWell 297 = .ok (.goto 4, 3) := by decide +kernel
theorem dL_isWell_300 : decode cL_isWell 300 = .ok (.iconst 0, 1) := by decide +kernel
theorem dL_isWell_301 : decode cL_isWell 301 = .ok (.iload 13, 2) := by decide +kernel
theorem dL_isWell_303 : decode cL_isWell 303 = .ok (.iload 11, 2) := by decide +kernel
theorem dL_isWell_305 : decode cL_isWell 305 = .ok (.if_icmp .ne 7, 3) := by decide +kernel
theorem dL_isWell_308 : decode cL_isWell 308 = .ok (.iconst 1, 1) := by decide +kernel
theorem dL_isWell_309 : decode cL_isWell 309 = .ok (.goto 4, 3) := by decide +kernel
theorem dL_isWell_312 : decode cL_isWell 312 = .ok (.iconst 0, 1) := by decide +kernel
theorem dL_isWell_313 : decode cL_isWell 313 = .ok (.if_icmp .ne 7, 3) := by decide +kernel
theorem dL_isWell_316 : decode cL_isWell 316 = .ok (.iconst 1, 1) := by decide +kernel
theorem dL_isWell_317 : decode cL_isWell 317 = .ok (.goto 4, 3) := by decide +kernel
theorem dL_isWell_320 : decode cL_isWell 320 = .ok (.iconst 0, 1) := by decide +kernel
theorem dL_isWell_321 : decode cL_isWell 321 = .ok (.istore 12, 2) := by decide +kernel
theorem dL_isWell_323 : decode cL_isWell 323 = .ok (.iinc 13 1, 3) := by decide +kernel
theorem dL_isWell_326 : decode cL_isWell 326 = .ok (.goto (-254), 3) := by decide +kernel
theorem dL_isWell_329 : decode cL_isWell 329 = .ok (.iconst 0, 1) := by decide +kernel
theorem dL_isWell_330 : decode cL_isWell 330 = .ok (.istore 13, 2) := by decide +kernel
theorem dL_isWell_332 : decode cL_isWell 332 = .ok (.iload 13, 2) := by decide +kernel
theorem dL_isWell_334 : decode cL_isWell 334 = .ok (.iload_n 2, 1) := by decide +kernel
theorem dL_isWell_335 : decode cL_isWell 335 = .ok (.if_icmp .ge 101, 3) := by decide +kernel
theorem dL_isWell_338 : decode cL_isWell 338 = .ok (.iload 12, 2) := by decide +kernel
theorem dL_isWell_340 : decode cL_isWell 340 = .ok (.ifCond .eq 96, 3) := by decide +kernel
theorem dL_isWell_343 : decode cL_isWell 343 = .ok (.aload_n 3, 1) := by decide +kernel
theorem dL_isWell_344 : decode cL_isWell 344 = .ok (.iload 13, 2) := by decide +kernel
theorem dL_isWell_346 : decode cL_isWell 346 = .ok (.iaload, 1) := by decide +kernel
theorem dL_isWell_347 : decode cL_isWell 347 = .ok (.aload_n 0, 1) := by decide +kernel
theorem dL_isWell_348 : decode cL_isWell 348 = .ok (.iload 13, 2) := by decide +kernel
theorem dL_isWell_350 : decode cL_isWell 350 = .ok (.iconst 4, 1) := by decide +kernel
theorem dL_isWell_351 : decode cL_isWell 351 = .ok (.invokevirtual 32, 3) := by decide +kernel
theorem dL_isWell_354 : decode cL_isWell 354 = .ok (.iconst 1, 1) := by decide +kernel
theorem dL_isWell_355 : decode cL_isWell 355 = .ok (.if_icmp .ne 20, 3) := by decide +kernel
theorem dL_isWell_358 : decode cL_isWell 358 = .ok (.iload_n 1, 1) := by decide +kernel
theorem dL_isWell_359 : decode cL_isWell 359 = .ok (.aload_n 0, 1) := by decide +kernel
theorem dL_isWell_360 : decode cL_isWell 360 = .ok (.aload_n 0, 1) := by decide +kernel
theorem dL_isWell_361 : decode cL_isWell 361 = .ok (.iload 13, 2) := by decide +kernel
theorem dL_isWell_363 : decode cL_isWell 363 = .ok (.iconst 0, 1) := by decide +kernel
theorem dL_isWell_364 : decode cL_isWell 364 = .ok (.invokevirtual 32, 3) := by decide +kernel
theorem dL_isWell_367 : decode cL_isWell 367 = .ok (.iconst 1, 1) := by decide +kernel
theorem dL_isWell_368 : decode cL_isWell 368 = .ok (.invokevirtual 38, 3) := by decide +kernel
theorem dL_isWell_371 : decode cL_isWell 371 = .ok (.idiv, 1) := by decide +kernel
theorem dL_isWell_372 : decode cL_isWell 372 = .ok (.goto 4, 3) := by decide +kernel
theorem dL_isWell_375 : decode cL_isWell 375 = .ok (.iconst 0, 1) := by decide +kernel
theorem dL_isWell_376 : decode cL_isWell 376 = .ok (.if_icmp .ne 39, 3) := by decide +kernel
theorem dL_isWell_379 : decode cL_isWell 379 = .ok (.aload_n 0, 1) := by decide +kernel
theorem dL_isWell_380 : decode cL_isWell 380 = .ok (.iload 13, 2) := by decide +kernel
theorem dL_isWell_382 : decode cL_isWell 382 = .ok (.iconst 5, 1) := by decide +kernel
theorem dL_isWell_383 : decode cL_isWell 383 = .ok (.invokevirtual 32, 3) := by decide +kernel
theorem dL_isWell_386 : decode cL_isWell 386 = .ok (.iconst 1, 1) := by decide +kernel
theorem dL_isWell_387 : decode cL_isWell 387 = .ok (.if_icmp .ne 7, 3) := by decide +kernel
theorem dL_isWell_390 : decode cL_isWell 390 = .ok (.iconst 1, 1) := by decide +kernel
theorem dL_isWell_391 : decode cL_isWell 391 = .ok (.goto 4, 3) := by decide +kernel
theorem dL_isWell_394 : decode cL_isWell 394 = .ok (.iconst 0, 1) := by decide +kernel
theorem dL_isWell_395 : decode cL_isWell 395 = .ok (.aload_n 3, 1) := by decide +kernel
theorem dL_isWell_396 : decode cL_isWell 396 = .ok (.iload 13, 2) := by decide +kernel
theorem dL_isWell_398 : decode cL_isWell 398 = .ok (.iaload, 1) := by decide +kernel
theorem dL_isWell_399 : decode cL_isWell 399 = .ok (.iload_n 1, 1) := by decide +kernel
theorem dL_isWell_400 : decode cL_isWell 400 = .ok (.if_icmp .ne 7, 3) := by decide +kernel
theorem dL_isWell_403 : decode cL_isWell 403 = .ok (.iconst 1, 1) := by decide +kernel
theorem dL_isWell_404 : decode cL_isWell 404 = .ok (.goto 4, 3) := by decide +kernel
theorem dL_isWell_407 : decode cL_isWell 407 = .ok (.iconst 0, 1) := by decide +kernel
theorem dL_isWell_408 : decode cL_isWell 408 = .ok (.if_icmp .ne 7, 3) := by decide +kernel
theorem dL_isWell_411 : decode cL_isWell 411 = .ok (.iconst 1, 1) := by decide +kernel
theorem dL_isWell_412 : decode cL_isWell 412 = .ok (.goto 4, 3) := by decide +kernel
theorem dL_isWell_415 : decode cL_isWell 415 = .ok (.iconst 0, 1) := by decide +kernel
theorem dL_isWell_416 : decode cL_isWell 416 = .ok (.istore 12, 2) := by decide +kernel
theorem dL_isWell_418 : decode cL_isWell 418 = .ok (.iload 7, 2) := by decide +kernel
theorem dL_isWell_420 : decode cL_isWell 420 = .ok (.aload_n 0, 1) := by decide +kernel
theorem dL_isWell_421 : decode cL_isWell 421 = .ok (.iload 13, 2) := by decide +kernel
theorem dL_isWell_423 : decode cL_isWell 423 = .ok (.iconst 5, 1) := by decide +kernel
theorem dL_isWell_424 : decode cL_isWell 424 = .ok (.invokevirtual 32, 3) := by decide +kernel
theorem dL_isWell_427 : decode cL_isWell 427 = .ok (.iadd, 1) := by decide +kernel
theorem dL_isWell_428 : decode cL_isWell 428 = .ok (.istore 7, 2) := by decide +kernel
theorem dL_isWell_430 : decode cL_isWell 430 = .ok (.iinc 13 1, 3) := by decide +kernel
theorem dL_isWell_433 : decode cL_isWell 433 = .ok (.goto (-101), 3) := by decide +kernel
theorem dL_isWell_436 : decode cL_isWell 436 = .ok (.iconst 0, 1) := by decide +kernel
theorem dL_isWell_437 : decode cL_isWell 437 = .ok (.istore 13, 2) := by decide +kernel
theorem dL_isWell_439 : decode cL_isWell 439 = .ok (.iload 13, 2) := by decide +kernel
theorem dL_isWell_441 : decode cL_isWell 441 = .ok (.bipush 10, 2) := by decide +kernel
theorem dL_isWell_443 : decode cL_isWell 443 = .ok (.if_icmp .ge 148, 3) := by decide +kernel
theorem dL_isWell_446 : decode cL_isWell 446 = .ok (.aload_n 0, 1) := by decide +kernel
theorem dL_isWell_447 : decode cL_isWell 447 = .ok (.iload 13, 2) := by decide +kernel
theorem dL_isWell_449 : decode cL_isWell 449 = .ok (.iconst 1, 1) := by decide +kernel
theorem dL_isWell_450 : decode cL_isWell 450 = .ok (.invokevirtual 38, 3) := by decide +kernel
theorem dL_isWell_453 : decode cL_isWell 453 = .ok (.istore 14, 2) := by decide +kernel
theorem dL_isWell_455 : decode cL_isWell 455 = .ok (.iload 4, 2) := by decide +kernel
theorem dL_isWell_457 : decode cL_isWell 457 = .ok (.iload 14, 2) := by decide +kernel
theorem dL_isWell_459 : decode cL_isWell 459 = .ok (.ifCond .le 8, 3) := by decide +kernel
theorem dL_isWell_462 : decode cL_isWell 462 = .ok (.iload 14, 2) := by decide +kernel
theorem dL_isWell_464 : decode cL_isWell 464 = .ok (.goto 4, 3) := by decide +kernel
theorem dL_isWell_467 : decode cL_isWell 467 = .ok (.iconst 1, 1) := by decide +kernel
theorem dL_isWell_468 : decode cL_isWell 468 = .ok (.imul, 1) := by decide +kernel
theorem dL_isWell_469 : decode cL_isWell 469 = .ok (.istore 4, 2) := by decide +kernel
theorem dL_isWell_471 : decode cL_isWell 471 = .ok (.iload 5, 2) := by decide +kernel
theorem dL_isWell_473 : decode cL_isWell 473 = .ok (.aload_n 0, 1) := by decide +kernel
theorem dL_isWell_474 : decode cL_isWell 474 = .ok (.iload 13, 2) := by decide +kernel
theorem dL_isWell_476 : decode cL_isWell 476 = .ok (.iconst 0, 1) := by decide +kernel
theorem dL_isWell_477 : decode cL_isWell 477 = .ok (.invokevirtual 38, 3) := by decide +kernel
theorem dL_isWell_480 : decode cL_isWell 480 = .ok (.ifCond .le 7, 3) := by decide +kernel
theorem dL_isWell_483 : decode cL_isWell 483 = .ok (.iconst 1, 1) := by decide +kernel
theorem dL_isWell_484 : decode cL_isWell 484 = .ok (.goto 4, 3) := by decide +kernel
theorem dL_isWell_487 : decode cL_isWell 487 = .ok (.iconst 0, 1) := by decide +kernel
theorem dL_isWell_488 : decode cL_isWell 488 = .ok (.iadd, 1) := by decide +kernel
theorem dL_isWell_489 : decode cL_isWell 489 = .ok (.istore 5, 2) := by decide +kernel
theorem dL_isWell_491 : decode cL_isWell 491 = .ok (.iload 6, 2) := by decide +kernel
theorem dL_isWell_493 : decode cL_isWell 493 = .ok (.aload_n 0, 1) := by decide +kernel
theorem dL_isWell_494 : decode cL_isWell 494 = .ok (.iload 13, 2) := by decide +kernel
theorem dL_isWell_496 : decode cL_isWell 496 = .ok (.iconst 0, 1) := by decide +kernel
theorem dL_isWell_497 : decode cL_isWell 497 = .ok (.invokevirtual 38, 3) := by decide +kernel
theorem dL_isWell_500 : decode cL_isWell 500 = .ok (.iconst 1, 1) := by decide +kernel
theorem dL_isWell_501 : decode cL_isWell 501 = .ok (.if_icmp .le 7, 3) := by decide +kernel
theorem dL_isWell_504 : decode cL_isWell 504 = .ok (.iconst 1, 1) := by decide +kernel
theorem dL_isWell_505 : decode cL_isWell 505 = .ok (.goto 4, 3) := by decide +kernel
theorem dL_isWell_508 : decode cL_isWell 508 = .ok (.iconst 0, 1) := by decide +kernel
theorem dL_isWell_509 : decode cL_isWell 509 = .ok (.iadd, 1) := by decide +kernel
theorem dL_isWell_510 : decode cL_isWell 510 = .ok (.istore 6, 2) := by decide +kernel
theorem dL_isWell_512 : decode cL_isWell 512 = .ok (.iload 12, 2) := by decide +kernel
theorem dL_isWell_514 : decode cL_isWell 514 = .ok (.ifCond .eq 68, 3) := by decide +kernel
theorem dL_isWell_517 : decode cL_isWell 517 = .ok (.iload 14, 2) := by decide +kernel
theorem dL_isWell_519 : decode cL_isWell 519 = .ok (.aload_n 0, 1) := by decide +kernel
theorem dL_isWell_520 : decode cL_isWell 520 = .ok (.iload 13, 2) := by decide +kernel
theorem dL_isWell_522 : decode cL_isWell 522 = .ok (.iconst 0, 1) := by decide +kernel
theorem dL_isWell_523 : decode cL_isWell 523 = .ok (.invokevirtual 38, 3) := by decide +kernel
theorem dL_isWell_526 : decode cL_isWell 526 = .ok (.if_icmp .gt 56, 3) := by decide +kernel
theorem dL_isWell_529 : decode cL_isWell 529 = .ok (.iload 14, 2) := by decide +kernel
theorem dL_isWell_531 : decode cL_isWell 531 = .ok (.ifCond .le 7, 3) := by decide +kernel
theorem dL_isWell_534 : decode cL_isWell 534 = .ok (.iconst 1, 1) := by decide +kernel
theorem dL_isWell_535 : decode cL_isWell 535 = .ok (.goto 4, 3) := by decide +kernel
theorem dL_isWell_538 : decode cL_isWell 538 = .ok (.iconst 0, 1) := by decide +kernel
theorem dL_isWell_539 : decode cL_isWell 539 = .ok (.aload_n 0, 1) := by decide +kernel
theorem dL_isWell_540 : decode cL_isWell 540 = .ok (.iload 13, 2) := by decide +kernel
theorem dL_isWell_542 : decode cL_isWell 542 = .ok (.iconst 0, 1) := by decide +kernel
theorem dL_isWell_543 : decode cL_isWell 543 = .ok (.invokevirtual 38, 3) := by decide +kernel
theorem dL_isWell_546 : decode cL_isWell 546 = .ok (.ifCond .le 7, 3) := by decide +kernel
theorem dL_isWell_549 : decode cL_isWell 549 = .ok (.iconst 1, 1) := by decide +kernel
theorem dL_isWell_550 : decode cL_isWell 550 = .ok (.goto 4, 3) := by decide +kernel
theorem dL_isWell_553 : decode cL_isWell 553 = .ok (.iconst 0, 1) := by decide +kernel
theorem dL_isWell_554 : decode cL_isWell 554 = .ok (.if_icmp .ne 28, 3) := by decide +kernel
theorem dL_isWell_557 : decode cL_isWell 557 = .ok (.iload 14, 2) := by decide +kernel
theorem dL_isWell_559 : decode cL_isWell 559 = .ok (.ifCond .eq 19, 3) := by decide +kernel
theorem dL_isWell_562 : decode cL_isWell 562 = .ok (.aload_n 0, 1) := by decide +kernel
theorem dL_isWell_563 : decode cL_isWell 563 = .ok (.aload_n 0, 1) := by decide +kernel
theorem dL_isWell_564 : decode cL_isWell 564 = .ok (.iload 13, 2) := by decide +kernel
theorem dL_isWell_566 : decode cL_isWell 566 = .ok (.iconst 3, 1) := by decide +kernel
theorem dL_isWell_567 : decode cL_isWell 567 = .ok (.invokevirtual 38, 3) := by decide +kernel
theorem dL_isWell_570 : decode cL_isWell 570 = .ok (.iconst 4, 1) := by decide +kernel
theorem dL_isWell_571 : decode cL_isWell 571 = .ok (.invokevirtual 32, 3) := by decide +kernel
theorem dL_isWell_574 : decode cL_isWell 574 = .ok (.iconst 1, 1) := by decide +kernel
theorem dL_isWell_575 : decode cL_isWell 575 = .ok (.if_icmp .ne 7, 3) := by decide +kernel
theorem dL_isWell_578 : decode cL_isWell 578 = .ok (.iconst 1, 1) := by decide +kernel
theorem dL_isWell_579 : decode cL_isWell 579 = .ok (.goto 4, 3) := by decide +kernel
theorem dL_isWell_582 : decode cL_isWell 582 = .ok (.iconst 0, 1) := by decide +kernel
theorem dL_isWell_583 : decode cL_isWell 583 = .ok (.istore 12, 2) := by decide +kernel
theorem dL_isWell_585 : decode cL_isWell 585 = .ok (.iinc 13 1, 3) := by decide +kernel
theorem dL_isWell_588 : decode cL_isWell 588 = .ok (.goto (-149), 3) := by decide +kernel
theorem dL_isWell_591 : decode cL_isWell 591 = .ok (.iload 12, 2) := by decide +kernel
theorem dL_isWell_593 : decode cL_isWell 593 = .ok (.ifCond .eq 83, 3) := by decide +kernel
theorem dL_isWell_596 : decode cL_isWell 596 = .ok (.iload 4, 2) := by decide +kernel
theorem dL_isWell_598 : decode cL_isWell 598 = .ok (.iload_n 1, 1) := by decide +kernel
theorem dL_isWell_599 : decode cL_isWell 599 = .ok (.if_icmp .ne 77, 3) := by decide +kernel
theorem dL_isWell_602 : decode cL_isWell 602 = .ok (.iload 5, 2) := by decide +kernel
theorem dL_isWell_604 : decode cL_isWell 604 = .ok (.aload_n 0, 1) := by decide +kernel
theorem dL_isWell_605 : decode cL_isWell 605 = .ok (.iconst 1, 1) := by decide +kernel
theorem dL_isWell_606 : decode cL_isWell 606 = .ok (.invokevirtual 9, 3) := by decide +kernel
theorem dL_isWell_609 : decode cL_isWell 609 = .ok (.if_icmp .ne 67, 3) := by decide +kernel
theorem dL_isWell_612 : decode cL_isWell 612 = .ok (.iload 6, 2) := by decide +kernel
theorem dL_isWell_614 : decode cL_isWell 614 = .ok (.aload_n 0, 1) := by decide +kernel
theorem dL_isWell_615 : decode cL_isWell 615 = .ok (.iconst 2, 1) := by decide +kernel
theorem dL_isWell_616 : decode cL_isWell 616 = .ok (.invokevirtual 9, 3) := by decide +kernel
theorem dL_isWell_619 : decode cL_isWell 619 = .ok (.if_icmp .ne 57, 3) := by decide +kernel
theorem dL_isWell_622 : decode cL_isWell 622 = .ok (.iload 7, 2) := by decide +kernel
theorem dL_isWell_624 : decode cL_isWell 624 = .ok (.aload_n 0, 1) := by decide +kernel
theorem dL_isWell_625 : decode cL_isWell 625 = .ok (.iconst 4, 1) := by decide +kernel
theorem dL_isWell_626 : decode cL_isWell 626 = .ok (.invokevirtual 9, 3) := by decide +kernel
theorem dL_isWell_629 : decode cL_isWell 629 = .ok (.if_icmp .ne 47, 3) := by decide +kernel
theorem dL_isWell_632 : decode cL_isWell 632 = .ok (.aload_n 0, 1) := by decide +kernel
theorem dL_isWell_633 : decode cL_isWell 633 = .ok (.iload_n 1, 1) := by decide +kernel
theorem dL_isWell_634 : decode cL_isWell 634 = .ok (.iconst 0, 1) := by decide +kernel
theorem dL_isWell_635 : decode cL_isWell 635 = .ok (.invokevirtual 72, 3) := by decide +kernel
theorem dL_isWell_638 : decode cL_isWell 638 = .ok (.bipush (-2), 2) := by decide +kernel
theorem dL_isWell_640 : decode cL_isWell 640 = .ok (.if_icmp .ne 36, 3) := by decide +kernel
theorem dL_isWell_643 : decode cL_isWell 643 = .ok (.aload_n 0, 1) := by decide +kernel
theorem dL_isWell_644 : decode cL_isWell 644 = .ok (.iconst 5, 1) := by decide +kernel
theorem dL_isWell_645 : decode cL_isWell 645 = .ok (.invokevirtual 9, 3) := by decide +kernel
theorem dL_isWell_648 : decode cL_isWell 648 = .ok (.aload_n 0, 1) := by decide +kernel
theorem dL_isWell_649 : decode cL_isWell 649 = .ok (.bipush 6, 2) := by decide +kernel
theorem dL_isWell_651 : decode cL_isWell 651 = .ok (.invokevirtual 9, 3) := by decide +kernel
theorem dL_isWell_654 : decode cL_isWell 654 = .ok (.if_icmp .gt 22, 3) := by decide +kernel
theorem dL_isWell_657 : decode cL_isWell 657 = .ok (.aload_n 0, 1) := by decide +kernel
theorem dL_isWell_658 : decode cL_isWell 658 = .ok (.bipush 7, 2) := by decide +kernel
theorem dL_isWell_660 : decode cL_isWell 660 = .ok (.invokevirtual 9, 3) := by decide +kernel
theorem dL_isWell_663 : decode cL_isWell 663 = .ok (.aload_n 0, 1) := by decide +kernel
theorem dL_isWell_664 : decode cL_isWell 664 = .ok (.bipush 8, 2) := by decide +kernel
theorem dL_isWell_666 : decode cL_isWell 666 = .ok (.invokevirtual 9, 3) := by decide +kernel
theorem dL_isWell_669 : decode cL_isWell 669 = .ok (.if_icmp .gt 7, 3) := by decide +kernel
theorem dL_isWell_672 : decode cL_isWell 672 = .ok (.iconst 1, 1) := by decide +kernel
theorem dL_isWell_673 : decode cL_isWell 673 = .ok (.goto 4, 3) := by decide +kernel
theorem dL_isWell_676 : decode cL_isWell 676 = .ok (.iconst 0, 1) := by decide +kernel
theorem dL_isWell_677 : decode cL_isWell 677 = .ok (.ireturn, 1) := by decide +kernel
