set_option maxHeartbeats 1000000 in
set_option maxRecDepth 20000 in
theorem ggL_areAlike_X5_count_X5 : GoodIn wsL_areAlike wsX50 := goodIn_r _ [301, 302, 303, 304, 305, 306, 307] (by decide +kernel) (by decide +kernel)
set_option maxHeartbeats 1000000 in
set_option maxRecDepth 20000 in
theorem ggL_areAlike_X5_count_X3 : GoodIn wsL_areAlike wsX30 := goodIn_r _ [314, 315, 316, 317, 318, 319] (by decide +kernel) (by decide +kernel)
set_option maxHeartbeats 1000000 in
set_option maxRecDepth 20000 in
theorem ggL_areAlike_X5_count_X0 : GoodIn wsL_areAlike wsX00 := goodIn_r _ [308, 309, 310, 311, 312, 313] (by decide +kernel) (by decide +kernel)
set_option maxHeartbeats 1000000 in
set_option maxRecDepth 20000 in
theorem ggL_areAlike_X5_count_X1 : GoodIn wsL_areAlike wsX10 := goodIn_r _ [320, 321, 322] (by decide +kernel) (by decide +kernel)
set_option maxHeartbeats 1000000 in
set_option maxRecDepth 20000 in
theorem ggL_areAlike_X5_count_X4 : GoodIn wsL_areAlike wsX40 := goodIn_r _ [323, 324] (by decide +kernel) (by decide +kernel)
set_option maxRecDepth 20000 in
theorem ggL_areAlike_X5_count : GoodIn wsL_areAlike wsX5_count := goodIn_app ggL_areAlike_X5_count_h (goodIn_app (goodIn_app (goodIn_app (goodIn_app (goodIn_app (goodIn_app ggL_areAlike_X5_count_r1 (goodIn_app ggL_areAlike_X5_count_r2 (goodIn_app ggL_areAlike_X5_count_r3 (goodIn_app ggL_areAlike_X5_count_r4 (goodIn_app ggL_areAlike_X5_count_r5 (goodIn_app ggL_areAlike_X5_count_r6 (goodIn_app ggL_areAlike_X5_count_r7 (ggL_areAlike_X5_count_r8)))))))) ggL_areAlike_X5_count_X5) ggL_areAlike_X5_count_X3) ggL_areAlike_X5_count_X0) ggL_areAlike_X5_count_X1) ggL_areAlike_X5_count_X4)
set_option maxRecDepth 20000 in
theorem gL_areAlike_X5_count : GoodIn wsL_areAlike (wsV RL 9 RX5 yX5_count wsX5_count) := goodIn_app (goodIn_of _ (by decide +kernel)) ggL_areAlike_X5_count
set_option maxHeartbeats 1000000 in
set_option maxRecDepth 20000 in
theorem ggL_areAlike_X5_row_h : GoodIn wsL_areAlike [.code yX5_row cX5_row 3 (some .int)] := goodIn_r _ [226] (by decide +kernel) (by decide +kernel)
set_option maxHeartbeats 1000000 in
set_option maxRecDepth 20000 in
theorem ggL_areAlike_X5_row_r1 : GoodIn wsL_areAlike wsX5_row_r1 := goodIn_r _ [112, 227, 228, 229, 28, 230, 30, 231, 44, 45, 46, 47, 41, 4, 42, 232, 157, 158, 159, 160, 233, 37, 38, 39] (by decide +kernel) (by decide +kernel)
set_option maxHeartbeats 1000000 in
set_option maxRecDepth 20000 in
theorem ggL_areAlike_X5_row_r2 : GoodIn wsL_areAlike wsX5_row_r2 := goodIn_r _ [40, 234, 69, 70, 71, 72, 235, 32, 33, 34, 35, 36, 43, 48, 49, 50, 51, 208, 209, 210, 6, 7, 8, 9] (by decide +kernel) (by decide +kernel)
set_option maxHeartbeats 1000000 in
set_option maxRecDepth 20000 in
theorem ggL_areAlike_X5_row_r3 : GoodIn wsL_areAlike wsX5_row_r3 := goodIn_r _ [10, 11, 12, 13, 14, 15, 16, 17, 18, 19, 20, 21, 22, 23, 24, 25, 26, 27, 29, 31, 52, 53, 54, 55] (by decide +kernel) (by decide +kernel)
set_option maxHeartbeats 1000000 in
set_option maxRecDepth 20000 in
theorem ggL_areAlike_X5_row_r4 : GoodIn wsL_areAlike wsX5_row_r4 := goodIn_r _ [56, 57, 58, 59, 60, 61, 62, 63, 64, 65, 66, 67, 68, 73, 74, 75, 76, 77, 78, 236, 141, 142, 143] (by decide +kernel) (by decide +kernel)
set_option maxHeartbeats 1000000 in
set_option maxRecDepth 20000 in
theorem ggL_areAlike_X5_row_X5 : GoodIn wsL_areAlike wsX50 := goodIn_r _ [301, 302, 303, 304, 305, 306, 307] (by decide +kernel) (by decide +kernel)
set_option maxHeartbeats 1000000 in
set_option maxRecDepth 20000 in
theorem ggL_areAlike_X5_row_X3 : GoodIn wsL_areAlike wsX30 := goodIn_r _ [314, 315, 316, 317, 318, 319] (by decide +kernel) (by decide +kernel)
set_option maxHeartbeats 1000000 in
set_option maxRecDepth 20000 in
theorem ggL_areAlike_X5_row_X0 : GoodIn wsL_areAlike wsX00 := goodIn_r _ [308, 309, 310, 311, 312, 313] (by decide +kernel) (by decide +kernel)
set_option maxRecDepth 20000 in
theorem ggL_areAlike_X5_row : GoodIn wsL_areAlike wsX5_row := goodIn_app ggL_areAlike_X5_row_h (goodIn_app (goodIn_app (goodIn_app (goodIn_app ggL_areAlike_X5_row_r1 (goodIn_app ggL_areAlike_X5_row_r2 (goodIn_app ggL_areAlike_X5_row_r3 (ggL_areAlike_X5_row_r4)))) ggL_areAlike_X5_row_X5) ggL_areAlike_X5_row_X3) ggL_areAlike_X5_row_X0)
set_option maxRecDepth 20000 in
theorem gL_areAlike_X5_row : GoodIn wsL_areAlike (wsV RL 32 RX5 yX5_row wsX5_row) := goodIn_app (goodIn_of _ (by decide +kernel)) ggL_areAlike_X5_row
set_option maxRecDepth 20000 in
theorem ggL_areAlike_L_there : GoodIn wsL_areAlike wsL_there := goodIn_r _ [240] (by decide +kernel) (by decide +kernel)
set_option maxRecDepth 20000 in
theorem gL_areAlike_L_there : GoodIn wsL_areAlike (va_wsS RL 29 yL_there wsL_there) := goodIn_app (goodIn_of _ (by decide +kernel)) ggL_areAlike_L_there
set_option maxRecDepth 20000 in
theorem ggL_areAlike_L_value : GoodIn wsL_areAlike wsL_value := goodIn_r _ [243] (by decide +kernel) (by decide +kernel)
set_option maxRecDepth 20000 in
theorem gL_areAlike_L_value : GoodIn wsL_areAlike (va_wsS RL 25 yL_value wsL_value) := goodIn_app (goodIn_of _ (by decide +kernel)) ggL_areAlike_L_value
set_option maxHeartbeats 1000000 in
set_option maxRecDepth 20000 in
theorem ggL_areAlike_X5_key_h : GoodIn wsL_areAlike [.code yX5_key cX5_key 3 (some .int)] := goodIn_r _ [247] (by decide +kernel) (by decide +kernel)
set_option maxHeartbeats 1000000 in
set_option maxRecDepth 20000 in
theorem ggL_areAlike_X5_key_r1 : GoodIn wsL_areAlike wsX5_key_r1 := goodIn_r _ [112, 248, 73, 4, 74, 249, 125, 126, 28, 127, 30, 43, 44, 45, 46, 47, 41, 42, 6, 7, 8, 9, 10, 11] (by decide +kernel) (by decide +kernel)
set_option maxHeartbeats 1000000 in
set_option maxRecDepth 20000 in
theorem ggL_areAlike_X5_key_r2 : GoodIn wsL_areAlike wsX5_key_r2 := goodIn_r _ [12, 13, 14, 15, 16, 17, 18, 19, 20, 21, 22, 23, 24, 25, 26, 27, 29, 31, 32, 33, 34, 35, 36, 37] (by decide +kernel) (by decide +kernel)
set_option maxHeartbeats 1000000 in
set_option maxRecDepth 20000 in
theorem ggL_areAlike_X5_key_r3 : GoodIn wsL_areAlike wsX5_key_r3 := goodIn_r _ [38, 39, 40, 48, 49, 50, 51, 52, 53, 54, 55, 56, 57, 58, 59, 60, 61, 62, 63, 64, 65, 66, 67, 68] (by decide +kernel) (by decide +kernel)
set_option maxHeartbeats 1000000 in
set_option maxRecDepth 20000 in
theorem ggL_areAlike_X5_key_r4 : GoodIn wsL_areAlike wsX5_key_r4 := goodIn_r _ [69, 70, 71, 72, 75, 76, 77, 78, 250, 251, 252, 253, 254, 255, 256, 257, 258, 259, 260] (by decide +kernel) (by decide +kernel)
set_option maxHeartbeats 1000000 in
set_option maxRecDepth 20000 in
theorem ggL_areAlike_X5_key_X5 : GoodIn wsL_areAlike wsX50 := goodIn_r _ [301, 302, 303, 304, 305, 306, 307] (by decide +kernel) (by decide +kernel)
set_option maxHeartbeats 1000000 in
set_option maxRecDepth 20000 in
theorem ggL_areAlike_X5_key_X3 : GoodIn wsL_areAlike wsX30 := goodIn_r _ [314, 315, 316, 317, 318, 319] (by decide +kernel) (by decide +kernel)
set_option maxHeartbeats 1000000 in
set_option maxRecDepth 20000 in
theorem ggL_areAlike_X5_key_X0 : GoodIn wsL_areAlike wsX00 := goodIn_r _ [308, 309, 310, 311, 312, 313] (by decide +kernel) (by decide +kernel)
set_option maxRecDepth 20000 in
theorem ggL_areAlike_X5_key : GoodIn wsL_areAlike wsX5_key := goodIn_app ggL_areAlike_X5_key_h (goodIn_app (goodIn_app (goodIn_app (goodIn_app ggL_areAlike_X5_key_r1 (goodIn_app ggL_areAlike_X5_key_r2 (goodIn_app ggL_areAlike_X5_key_r3 (ggL_areAlike_X5_key_r4)))) ggL_areAlike_X5_key_X5) ggL_areAlike_X5_key_X3) ggL_areAlike_X5_key_X0)
set_option maxRecDepth 20000 in
theorem gL_areAlike_X5_key : GoodIn wsL_areAlike (wsV RL 38 RX5 yX5_key wsX5_key) := goodIn_app (goodIn_of _ (by decide +kernel)) ggL_areAlike_X5_key
set_option maxHeartbeats 1000000 in
set_option maxRecDepth 20000 in
theorem ggL_areAlike_X5_value_h : GoodIn wsL_areAlike [.code yX5_value cX5_value 4 (some .int)] := goodIn_r _ [264] (by decide +kernel) (by decide +kernel)
set_option maxHeartbeats 1000000 in
set_option maxRecDepth 20000 in
theorem ggL_areAlike_X5_value_r1 : GoodIn wsL_areAlike wsX5_value_r1 := goodIn_r _ [265, 266, 4, 267, 6, 7, 8, 9, 10, 11, 12, 13, 14, 15, 16, 17, 18, 19, 20, 21, 22, 23, 24, 25] (by decide +kernel) (by decide +kernel)
set_option maxHeartbeats 1000000 in
set_option maxRecDepth 20000 in
theorem ggL_areAlike_X5_value_r2 : GoodIn wsL_areAlike wsX5_value_r2 := goodIn_r _ [26, 27, 28, 29, 30, 31, 32, 33, 34, 35, 36, 37, 38, 39, 40, 41, 42, 43, 44, 45, 46, 47, 48, 49] (by decide +kernel) (by decide +kernel)
set_option maxHeartbeats 1000000 in
set_option maxRecDepth 20000 in
theorem ggL_areAlike_X5_value_r3 : GoodIn wsL_areAlike wsX5_value_r3 := goodIn_r _ [50, 51, 52, 53, 54, 55, 56, 57, 58, 59, 60, 61, 62, 63, 64, 65, 66, 67, 68, 69, 70, 71, 72, 73] (by decide +kernel) (by decide +kernel)
set_option maxHeartbeats 1000000 in
set_option maxRecDepth 20000 in
theorem ggL_areAlike_X5_value_r4 : GoodIn wsL_areAlike wsX5_value_r4 := goodIn_r _ [74, 75, 76, 77, 78, 268, 149, 150, 151, 152, 153, 154, 155, 91, 92, 93, 94, 156, 157, 158, 159, 160, 208, 209] (by decide +kernel) (by decide +kernel)
set_option maxHeartbeats 1000000 in
set_option maxRecDepth 20000 in
theorem ggL_areAlike_X5_value_r5 : GoodIn wsL_areAlike wsX5_value_r5 := goodIn_r _ [210, 269, 166, 167, 168, 132, 133, 134, 135, 270, 271, 272, 273] (by decide +kernel) (by decide +kernel)
set_option maxHeartbeats 1000000 in
set_option maxRecDepth 20000 in
theorem ggL_areAlike_X5_value_X5 : GoodIn wsL_areAlike wsX50 := goodIn_r _ [301, 302, 303, 304, 305, 306, 307] (by decide +kernel) (by decide +kernel)
set_option maxHeartbeats 1000000 in
set_option maxRecDepth 20000 in
theorem ggL_areAlike_X5_value_X0 : GoodIn wsL_areAlike wsX00 := goodIn_r _ [308, 309, 310, 311, 312, 313] (by decide +kernel) (by decide +kernel)
set_option maxHeartbeats 1000000 in
set_option maxRecDepth 20000 in
theorem ggL_areAlike_X5_value_X3 : GoodIn wsL_areAlike wsX30 := goodIn_r _ [314, 315, 316, 317, 318, 319] (by decide +kernel) (by decide +kernel)
set_option maxRecDepth 20000 in
theorem ggL_areAlike_X5_value : GoodIn wsL_areAlike wsX5_value := goodIn_app ggL_areAlike_X5_value_h (goodIn_app (goodIn_app (goodIn_app (goodIn_app ggL_areAlike_X5_value_r1 (goodIn_app ggL_areAlike_X5_value_r2 (goodIn_app ggL_areAlike_X5_value_r3 (goodIn_app ggL_areAlike_X5_value_r4 (ggL_areAlike_X5_value_r5))))) ggL_areAlike_X5_value_X5) ggL_areAlike_X5_value_X0) ggL_areAlike_X5_value_X3)
set_option maxRecDepth 20000 in
theorem gL_areAlike_X5_value : GoodIn wsL_areAlike (wsV RL 63 RX5 yX5_value wsX5_value) := goodIn_app (goodIn_of _ (by decide +kernel)) ggL_areAlike_X5_value
set_option maxHeartbeats 1000000 in
set_option maxRecDepth 20000 in
theorem ggL_areAlike_X5_way_h : GoodIn wsL_areAlike [.code yX5_way cX5_way 5 (some .int)] := goodIn_r _ [277] (by decide +kernel) (by decide +kernel)
set_option maxHeartbeats 1000000 in
set_option maxRecDepth 20000 in
theorem ggL_areAlike_X5_way_r1 : GoodIn wsL_areAlike wsX5_way_r1 := goodIn_r _ [248, 73, 4, 74, 6, 7, 8, 9, 10, 11, 12, 13, 14, 15, 16, 17, 18, 19, 20, 21, 22, 23, 24, 25] (by decide +kernel) (by decide +kernel)
set_option maxHeartbeats 1000000 in
set_option maxRecDepth 20000 in
theorem ggL_areAlike_X5_way_r2 : GoodIn wsL_areAlike wsX5_way_r2 := goodIn_r _ [26, 27, 28, 29, 30, 31, 32, 33, 34, 35, 36, 37, 38, 39, 40, 41, 42, 43, 44, 45, 46, 47, 48, 49] (by decide +kernel) (by decide +kernel)
set_option maxHeartbeats 1000000 in
set_option maxRecDepth 20000 in
theorem ggL_areAlike_X5_way_r3 : GoodIn wsL_areAlike wsX5_way_r3 := goodIn_r _ [50, 51, 52, 53, 54, 55, 56, 57, 58, 59, 60, 61, 62, 63, 64, 65, 66, 67, 68, 69, 70, 71, 72, 75] (by decide +kernel) (by decide +kernel)
set_option maxHeartbeats 1000000 in
set_option maxRecDepth 20000 in
theorem ggL_areAlike_X5_way_r4 : GoodIn wsL_areAlike wsX5_way_r4 := goodIn_r _ [76, 77, 78, 278, 279, 280, 281, 173, 174, 175, 176, 177, 178, 179, 180, 181, 182, 183, 184, 282, 283, 284, 208, 209] (by decide +kernel) (by decide +kernel)
set_option maxHeartbeats 1000000 in
set_option maxRecDepth 20000 in
theorem ggL_areAlike_X5_way_r5 : GoodIn wsL_areAlike wsX5_way_r5 := goodIn_r _ [210, 285, 286, 287, 288, 200, 201, 202, 203, 289, 290, 291, 292, 293, 294, 295, 296, 100, 101, 102, 103, 91, 92, 93] (by decide +kernel) (by decide +kernel)
set_option maxHeartbeats 1000000 in
set_option maxRecDepth 20000 in
theorem ggL_areAlike_X5_way_r6 : GoodIn wsL_areAlike wsX5_way_r6 := goodIn_r _ [94, 297, 298, 299, 300] (by decide +kernel) (by decide +kernel)
set_option maxHeartbeats 1000000 in
set_option maxRecDepth 20000 in
theorem ggL_areAlike_X5_way_X5 : GoodIn wsL_areAlike wsX50 := goodIn_r _ [301, 302, 303, 304, 305, 306, 307] (by decide +kernel) (by decide +kernel)
set_option maxHeartbeats 1000000 in
set_option maxRecDepth 20000 in
theorem ggL_areAlike_X5_way_X0 : GoodIn wsL_areAlike wsX00 := goodIn_r _ [308, 309, 310, 311, 312, 313] (by decide +kernel) (by decide +kernel)
set_option maxHeartbeats 1000000 in
set_option maxRecDepth 20000 in
theorem ggL_areAlike_X5_way_X3 : GoodIn wsL_areAlike wsX30 := goodIn_r _ [314, 315, 316, 317, 318, 319] (by decide +kernel) (by decide +kernel)
set_option maxRecDepth 20000 in
theorem ggL_areAlike_X5_way : GoodIn wsL_areAlike wsX5_way := goodIn_app ggL_areAlike_X5_way_h (goodIn_app (goodIn_app (goodIn_app (goodIn_app ggL_areAlike_X5_way_r1 (goodIn_app ggL_areAlike_X5_way_r2 (goodIn_app ggL_areAlike_X5_way_r3 (goodIn_app ggL_areAlike_X5_way_r4 (goodIn_app ggL_areAlike_X5_way_r5 (ggL_areAlike_X5_way_r6)))))) ggL_areAlike_X5_way_X5) ggL_areAlike_X5_way_X0) ggL_areAlike_X5_way_X3)
set_option maxRecDepth 20000 in
theorem gL_areAlike_X5_way : GoodIn wsL_areAlike (wsV RL 59 RX5 yX5_way wsX5_way) := goodIn_app (goodIn_of _ (by decide +kernel)) ggL_areAlike_X5_way
theorem dL_areAlike_0 : decode cL_areAlike 0 = .ok (.aload_n 0, 1) := by decide +kernel
theorem dL_areAlike_1 : decode cL_areAlike 1 = .ok (.iconst 0, 1) := by decide +kernel
theorem dL_areAlike_2 : decode cL_areAlike 2 = .ok (.invokevirtual 69, 3) := by decide +kernel
theorem dL_areAlike_5 : decode cL_areAlike 5 = .ok (.aload_n 1, 1) := by decide +kernel
theorem dL_areAlike_6 : decode cL_areAlike 6 = .ok (.iconst 0, 1) := by decide +kernel
theorem dL_areAlike_7 : decode cL_areAlike 7 = .ok (.invokevirtual 69, 3) := by decide +kernel
theorem dL_areAlike_10 : decode cL_areAlike 10 = .ok (.if_icmp .ne 20, 3) := by decide +kernel
theorem dL_areAlike_13 : decode cL_areAlike 13 = .ok (.aload_n 0, 1) := by decide +kernel
theorem dL_areAlike_14 : decode cL_areAlike 14 = .ok (.iconst 1, 1) := by decide +kernel
theorem dL_areAlike_15 : decode cL_areAlike 15 = .ok (.invokevirtual 69, 3) := by decide +kernel
theorem dL_areAlike_18 : decode cL_areAlike 18 = .ok (.aload_n 1, 1) := by decide +kernel
theorem dL_areAlike_19 : decode cL_areAlike 19 = .ok (.iconst 1, 1) := by decide +kernel
theorem dL_areAlike_20 : decode cL_areAlike 20 = .ok (.invokevirtual 69, 3) := by decide +kernel
theorem dL_areAlike_23 : decode cL_areAlike 23 = .ok (.if_icmp .ne 7, 3) := by decide +kernel
theorem dL_areAlike_26 : decode cL_areAlike 26 = .ok (.iconst 1, 1) := by decide +kernel
theorem dL_areAlike_27 : decode cL_areAlike 27 = .ok (.goto 4, 3) := by decide +kernel
theorem dL_areAlike_30 : decode cL_areAlike 30 = .ok (.iconst 0, 1) := by decide +kernel
theorem dL_areAlike_31 : decode cL_areAlike 31 = .ok (.istore_n 2, 1) := by decide +kernel
theorem dL_areAlike_32 : decode cL_areAlike 32 = .ok (.iconst 0, 1) := by decide +kernel
theorem dL_areAlike_33 : decode cL_areAlike 33 = .ok (.istore_n 3, 1) := by decide +kernel
theorem dL_areAlike_34 : decode cL_areAlike 34 = .ok (.iload_n 3, 1) := by decide +kernel
theorem dL_areAlike_35 : decode cL_areAlike 35 = .ok (.bipush 10, 2) := by decide +kernel
theorem dL_areAlike_37 : decode cL_areAlike 37 = .ok (.if_icmp .ge 32, 3) := by decide +kernel
theorem dL_areAlike_40 : decode cL_areAlike 40 = .ok (.iload_n 2, 1) := by decide +kernel
theorem dL_areAlike_41 : decode cL_areAlike 41 = .ok (.ifCond .eq 20, 3) := by decide +kernel
theorem dL_areAlike_44 : decode cL_areAlike 44 = .ok (.aload_n 0, 1) := by decide +kernel
theorem dL_areAlike_45 : decode cL_areAlike 45 = .ok (.iload_n 3, 1) := by decide +kernel
theorem dL_areAlike_46 : decode cL_areAlike 46 = .ok (.invokevirtual 9, 3) := by decide +kernel
theorem dL_areAlike_49 : decode cL_areAlike 49 = .ok (.aload_n 1, 1) := by decide +kernel
theorem dL_areAlike_50 : decode cL_areAlike 50 = .ok (.iload_n 3, 1) := by decide +kernel
theorem dL_areAlike_51 : decode cL_areAlike 51 = .ok (.invokevirtual 9, 3) := by decide +kernel
theorem dL_areAlike_54 : decode cL_areAlike 54 = .ok (.if_icmp .ne 7, 3) := by decide +kernel
theorem dL_areAlike_57 : decode cL_areAlike 57 = .ok (.iconst 1, 1) := by decide +kernel
theorem dL_areAlike_58 : decode cL_areAlike 58 = .ok (.goto 4, 3) := by decide +kernel
theorem dL_areAlike_61 : decode cL_areAlike 61 = .ok (.iconst 0, 1) := by decide +kernel
theorem dL_areAlike_62 : decode cL_areAlike 62 = .ok (.istore_n 2, 1) := by decide +kernel
theorem dL_areAlike_63 : decode cL_areAlike 63 = .ok (.iinc 3 1, 3) := by decide +kernel
theorem dL_areAlike_66 : decode cL_areAlike 66 = .ok (.goto (-32), 3) := by decide +kernel
theorem dL_areAlike_69 : decode cL_areAlike 69 = .ok (.iconst 0, 1) := by decide +kernel
theorem dL_areAlike_70 : decode cL_areAlike 70 = .ok (.istore_n 3, 1) := by decide +kernel
theorem dL_areAlike_71 : decode cL_areAlike 71 = .ok (.iload_n 3, 1) := by decide +kernel
theorem dL_areAlike_72 : decode cL_areAlike 72 = .ok (.aload_n 0, 1) := by decide +kernel
theorem dL_areAlike_73 : decode cL_areAlike 73 = .ok (.iconst 0, 1) := by decide +kernel
theorem dL_areAlike_74 : decode cL_areAlike 74 = .ok (.invokevirtual 9, 3) := by decide +kernel
theorem dL_areAlike_77 : decode cL_areAlike 77 = .ok (.if_icmp .ge 118, 3) := by decide +kernel
theorem dL_areAlike_80 : decode cL_areAlike 80 = .ok (.iload_n 2, 1) := by decide +kernel
theorem dL_areAlike_81 : decode cL_areAlike 81 = .ok (.ifCond .eq 114, 3) := by decide +kernel
theorem dL_areAlike_84 : decode cL_areAlike 84 = .ok (.aload_n 0, 1) := by decide +kernel
theorem dL_areAlike_85 : decode cL_areAlike 85 = .ok (.iload_n 3, 1) := by decide +kernel
theorem dL_areAlike_86 : decode cL_areAlike 86 = .ok (.iconst 0, 1) := by decide +kernel
theorem dL_areAlike_87 : decode cL_areAlike 87 = .ok (.invokevirtual 32, 3) := by decide +kernel
theorem dL_areAlike_90 : decode cL_areAlike 90 = .ok (.invokestatic 29, 3) := by decide +kernel
theorem dL_areAlike_93 : decode cL_areAlike 93 = .ok (.aload_n 1, 1) := by decide +kernel
theorem dL_areAlike_94 : decode cL_areAlike 94 = .ok (.iload_n 3, 1) := by decide +kernel
theorem dL_areAlike_95 : decode cL_areAlike 95 = .ok (.iconst 0, 1) := by decide +kernel
theorem dL_areAlike_96 : decode cL_areAlike 96 = .ok (.invokevirtual 32, 3) := by decide +kernel
theorem dL_areAlike_99 : decode cL_areAlike 99 = .ok (.if_icmp .ne 88, 3) := by decide +kernel
theorem dL_areAlike_102 : decode cL_areAlike 102 = .ok (.aload_n 0, 1) := by decide +kernel
theorem dL_areAlike_103 : decode cL_areAlike 103 = .ok (.iload_n 3, 1) := by decide +kernel
theorem dL_areAlike_104 : decode cL_areAlike 104 = .ok (.iconst 1, 1) := by decide +kernel
theorem dL_areAlike_105 : decode cL_areAlike 105 = .ok (.invokevirtual 32, 3) := by decide +kernel
theorem dL_areAlike_108 : decode cL_areAlike 108 = .ok (.invokestatic 25, 3) := by decide +kernel
theorem dL_areAlike_111 : decode cL_areAlike 111 = .ok (.aload_n 1, 1) := by decide +kernel
theorem dL_areAlike_112 : decode cL_areAlike 112 = .ok (.iload_n 3, 1) := by decide +kernel
theorem dL_areAlike_113 : decode cL_areAlike 113 = .ok (.iconst 1, 1) := by decide +kernel
theorem dL_areAlike_114 : decode cL_areAlike 114 = .ok (.invokevirtual 32, 3) := by decide +kernel
theorem dL_areAlike_117 : decode cL_areAlike 117 = .ok (.if_icmp .ne 70, 3) := by decide +kernel
theorem dL_areAlike_120 : decode cL_areAlike 120 = .ok (.aload_n 0, 1) := by decide +kernel
theorem dL_areAlike_121 : decode cL_areAlike 121 = .ok (.iload_n 3, 1) := by decide +kernel
theorem dL_areAlike_122 : decode cL_areAlike 122 = .ok (.iconst 2, 1) := by decide +kernel
theorem dL_areAlike_123 : decode cL_areAlike 123 = .ok (.invokevirtual 32, 3) := by decide +kernel
theorem dL_areAlike_126 : decode cL_areAlike 126 = .ok (.aload_n 1, 1) := by decide +kernel
theorem dL_areAlike_127 : decode cL_areAlike 127 = .ok (.iload_n 3, 1) := by decide +kernel
theorem dL_areAlike_128 : decode cL_areAlike 128 = .ok (.iconst 2, 1) := by decide +kernel
theorem dL_areAlike_129 : decode cL_areAlike 129 = .ok (.invokevirtual 32, 3) := by decide +kernel
theorem dL_areAlike_132 : decode cL_areAlike 132 = .ok (.if_icmp .ne 55, 3) := by decide +kernel
theorem dL_areAlike_135 : decode cL_areAlike 135 = .ok (.aload_n 0, 1) := by decide +kernel
theorem dL_areAlike_136 : decode cL_areAlike 136 = .ok (.iload_n 3, 1) := by decide +kernel
theorem dL_areAlike_137 : decode cL_areAlike 137 = .ok (.iconst 3, 1) := by decide +kernel
theorem dL_areAlike_138 : decode cL_areAlike 138 = .ok (.invokevirtual 32, 3) := by decide +kernel
theorem dL_areAlike_141 : decode cL_areAlike 141 = .ok (.invokestatic 29, 3) := by decide +kernel
theorem dL_areAlike_144 : decode cL_areAlike 144 = .ok (.aload_n 1, 1) := by decide +kernel
theorem dL_areAlike_145 : decode cL_areAlike 145 = .ok (.iload_n 3, 1) := by decide +kernel
theorem dL_areAlike_146 : decode cL_areAlike 146 = .ok (.iconst 3, 1) := by decide +kernel
theorem dL_areAlike_147 : decode cL_areAlike 147 = .ok (.invokevirtual 32, 3) := by decide +kernel
theorem dL_areAlike_150 : decode cL_areAlike 150 = .ok (.if_icmp .ne 37, 3) := by decide +kernel
theorem dL_areAlike_153 : decode cL_areAlike 153 = .ok (.aload_n 0, 1) := by decide +kernel
theorem dL_areAlike_154 : decode cL_areAlike 154 = .ok (.iload_n 3, 1) := by decide +kernel
theorem dL_areAlike_155 : decode cL_areAlike 155 = .ok (.iconst 4, 1) := by decide +kernel
theorem dL_areAlike_156 : decode cL_areAlike 156 = .ok (.invokevirtual 32, 3) := by decide +kernel
theorem dL_areAlike_159 : decode cL_areAlike 159 = .ok (.aload_n 1, 1) := by decide +kernel
theorem dL_areAlike_160 : decode cL_areAlike 160 = .ok (.iload_n 3, 1) := by decide +kernel
theorem dL_areAlike_161 : decode cL_areAlike 161 = .ok (.iconst 4, 1) := by decide +kernel
theorem dL_areAlike_162 : decode cL_areAlike 162 = .ok (.invokevirtual 32, 3) := by decide +kernel
theorem dL_areAlike_165 : decode cL_areAlike 165 = .ok (.if_icmp .ne 22, 3) := by decide +kernel
theorem dL_areAlike_168 : decode cL_areAlike 168 = .ok (.aload_n 0, 1) := by decide +kernel
theorem dL_areAlike_169 : decode cL_areAlike 169 = .ok (.iload_n 3, 1) := by decide +kernel
theorem dL_areAlike_170 : decode cL_areAlike 170 = .ok (.iconst 5, 1) := by decide +kernel
theorem dL_areAlike_171 : decode cL_areAlike 171 = .ok (.invokevirtual 32, 3) := by decide +kernel
theorem dL_areAlike_174 : decode cL_areAlike 174 = .ok (.aload_n 1, 1) := by decide +kernel
theorem dL_areAlike_175 : decode cL_areAlike 175 = .ok (.iload_n 3, 1) := by decide +kernel
theorem dL_areAlike_176 : decode cL_areAlike 176 = .ok (.iconst 5, 1) := by decide +kernel
theorem dL_areAlike_177 : decode cL_areAlike 177 = .ok (.invokevirtual 32, 3) := by decide +kernel
theorem dL_areAlike_180 : decode cL_areAlike 180 = .ok (.if_icmp .ne 7, 3) := by decide +kernel
theorem dL_areAlike_183 : decode cL_areAlike 183 = .ok (.iconst 1, 1) := by decide +kernel
theorem dL_areAlike_184 : decode cL_areAlike 184 = .ok (.goto 4, 3) := by decide +kernel
theorem dL_areAlike_187 : decode cL_areAlike 187 = .ok (.iconst 0, 1) := by decide +kernel
theorem dL_areAlike_188 : decode cL_areAlike 188 = .ok (.istore_n 2, 1) := by decide +kernel
theorem dL_areAlike_189 : decode cL_areAlike 189 = .ok (.iinc 3 1, 3) := by decide +kernel
theorem dL_areAlike_192 : decode cL_areAlike 192 = .ok (.goto (-121), 3) := by decide +kernel
theorem dL_areAlike_195 : decode cL_areAlike 195 = .ok (.iconst 0, 1) := by decide +kernel
theorem dL_areAlike_196 : decode cL_areAlike 196 = .ok (.istore_n 3, 1) := by decide +kernel
theorem dL_areAlike_197 : decode cL_areAlike 197 = .ok (.iload_n 3, 1) := by decide +kernel
theorem dL_areAlike_198 : decode cL_areAlike 198 = .ok (.bipush 10, 2) := by decide +kernel
theorem dL_areAlike_200 : decode cL_areAlike 200 = .ok (.if_icmp .ge 159, 3) := by decide +kernel
theorem dL_areAlike_203 : decode cL_areAlike 203 = .ok (.iload_n 2, 1) := by decide +kernel
theorem dL_areAlike_204 : decode cL_areAlike 204 = .ok (.ifCond .eq 155, 3) := by decide +kernel
theorem dL_areAlike_207 : decode cL_areAlike 207 = .ok (.iconst 0, 1) := by decide +kernel
theorem dL_areAlike_208 : decode cL_areAlike 208 = .ok (.istore 4, 2) := by decide +kernel
theorem dL_areAlike_210 : decode cL_areAlike 210 = .ok (.iload 4, 2) := by decide +kernel
theorem dL_areAlike_212 : decode cL_areAlike 212 = .ok (.iconst 5, 1) := by decide +kernel
theorem dL_areAlike_213 : decode cL_areAlike 213 = .ok (.if_icmp .ge 72, 3) := by decide +kernel
theorem dL_areAlike_216 : decode cL_areAlike 216 = .ok (.iload_n 2, 1) := by decide +kernel
theorem dL_areAlike_217 : decode cL_areAlike 217 = .ok (.ifCond .eq 60, 3) := by decide +kernel
theorem dL_areAlike_220 : decode cL_areAlike 220 = .ok (.aload_n 0, 1) := by decide +kernel
theorem dL_areAlike_221 : decode cL_areAlike 221 = .ok (.iload_n 3, 1) := by decide +kernel
theorem dL_areAlike_222 : decode cL_areAlike 222 = .ok (.iload 4, 2) := by decide +kernel
theorem dL_areAlike_224 : decode cL_areAlike 224 = .ok (.invokevirtual 38, 3) := by decide +kernel
theorem dL_areAlike_227 : decode cL_areAlike 227 = .ok (.aload_n 1, 1) := by decide +kernel
theorem dL_areAlike_228 : decode cL_areAlike 228 = .ok (.bipush 9, 2) := by decide +kernel
theorem dL_areAlike_230 : decode cL_areAlike 230 = .ok (.iload_n 3, 1) := by decide +kernel
theorem dL_areAlike_231 : decode cL_areAlike 231 = .ok (.isub, 1) := by decide +kernel
theorem dL_areAlike_232 : decode cL_areAlike 232 = .ok (.iload 4, 2) := by decide +kernel
theorem dL_areAlike_234 : decode cL_areAlike 234 = .ok (.invokevirtual 38, 3) := by decide +kernel
theorem dL_areAlike_237 : decode cL_areAlike 237 = .ok (.if_icmp .ne 40, 3) := by decide +kernel
theorem dL_areAlike_240 : decode cL_areAlike 240 = .ok (.iload_n 3, 1) := by decide +kernel
theorem dL_areAlike_241 : decode cL_areAlike 241 = .ok (.bipush 7, 2) := by decide +kernel
theorem dL_areAlike_243 : decode cL_areAlike 243 = .ok (.if_icmp .gt 30, 3) := by decide +kernel
theorem dL_areAlike_246 : decode cL_areAlike 246 = .ok (.aload_n 0, 1) := by decide +kernel
theorem dL_areAlike_247 : decode cL_areAlike 247 = .ok (.bipush 97, 2) := by decide +kernel
theorem dL_areAlike_249 : decode cL_areAlike 249 = .ok (.iload_n 3, 1) := by decide +kernel
theorem dL_areAlike_250 : decode cL_areAlike 250 = .ok (.iadd, 1) := by decide +kernel
theorem dL_areAlike_251 : decode cL_areAlike 251 = .ok (.i2c, 1) := by decide +kernel
theorem dL_areAlike_252 : decode cL_areAlike 252 = .ok (.iload 4, 2) := by decide +kernel
theorem dL_areAlike_254 : decode cL_areAlike 254 = .ok (.invokevirtual 63, 3) := by decide +kernel
theorem dL_areAlike_257 : decode cL_areAlike 257 = .ok (.aload_n 1, 1) := by decide +kernel
theorem dL_areAlike_258 : decode cL_areAlike 258 = .ok (.bipush 97, 2) := by decide +kernel
theorem dL_areAlike_260 : decode cL_areAlike 260 = .ok (.iload_n 3, 1) := by decide +kernel
theorem dL_areAlike_261 : decode cL_areAlike 261 = .ok (.iadd, 1) := by decide +kernel
theorem dL_areAlike_262 : decode cL_areAlike 262 = .ok (.invokestatic 25, 3) := by decide +kernel
theorem dL_areAlike_265 : decode cL_areAlike 265 = .ok (.iload 4, 2) := by decide +kernel
theorem dL_areAlike_267 : decode cL_areAlike 267 = .ok (.invokevirtual 63, 3) := by decide +kernel
theorem dL_areAlike_270 : decode cL_areAlike 270 = .ok (.if_icmp .ne 7, 3) := by decide +kernel
theorem dL_areAlike_273 : decode cL_areAlike 273 = .ok (.iconst 1, 1) := by decide +kernel
theorem dL_areAlike_274 : decode cL_areAlike 274 = .ok (.goto 4, 3) := by decide +kernel
theorem dL_areAlike_277 : decode cL_areAlike 277 = .ok (.iconst 0, 1) := by decide +kernel
theorem dL_areAlike_278 : decode cL_areAlike 278 = .ok (.istore_n 2, 1) := by decide +kernel
theorem dL_areAlike_279 : decode cL_areAlike 279 = .ok (.iinc 4 1, 3) := by decide +kernel
theorem dL_areAlike_282 : decode cL_areAlike 282 = .ok (.goto (-72), 3) := by decide +kernel
theorem dL_areAlike_285 : decode cL_areAlike 285 = .ok (.iconst 3, 1) := by decide +kernel
theorem dL_areAlike_286 : decode cL_areAlike 286 = .ok (.iload_n 3, 1) := by decide +kernel
theorem dL_areAlike_287 : decode cL_areAlike 287 = .ok (.imul, 1) := by decide +kernel
theorem dL_areAlike_288 : decode cL_areAlike 288 = .ok (.iconst 1, 1) := by decide +kernel
theorem dL_areAlike_289 : decode cL_areAlike 289 = .ok (.iadd, 1) := by decide +kernel
theorem dL_areAlike_290 : decode cL_areAlike 290 = .ok (.bipush 10, 2) := by decide +kernel
theorem dL_areAlike_292 : decode cL_areAlike 292 = .ok (.irem, 1) := by decide +kernel
theorem dL_areAlike_293 : decode cL_areAlike 293 = .ok (.istore 4, 2) := by decide +kernel
theorem dL_areAlike_295 : decode cL_areAlike 295 = .ok (.iconst 0, 1) := by decide +kernel
theorem dL_areAlike_296 : decode cL_areAlike 296 = .ok (.istore 5, 2) := by decide +kernel
theorem dL_areAlike_298 : decode cL_areAlike 298 = .ok (.iload 5, 2) := by decide +kernel
theorem dL_areAlike_300 : decode cL_areAlike 300 = .ok (.iconst 5, 1) := by decide +kernel
theorem dL_areAlike_301 : decode cL_areAlike 301 = .ok (.if_icmp .ge 52, 3) := by decide +kernel
theorem dL_areAlike_304 : decode cL_areAlike 304 = .ok (.iload_n 2, 1) := by decide +kernel
theorem dL_areAlike_305 : decode cL_areAlike 305 = .ok (.ifCond .eq 40, 3) := by decide +kernel
theorem dL_areAlike_308 : decode cL_areAlike 308 = .ok (.iload 5, 2) := by decide +kernel
theorem dL_areAlike_310 : decode cL_areAlike 310 = .ok (.iconst 3, 1) := by decide +kernel
theorem dL_areAlike_311 : decode cL_areAlike 311 = .ok (.if_icmp .eq 30, 3) := by decide +kernel
theorem dL_areAlike_314 : decode cL_areAlike 314 = .ok (.aload_n 0, 1) := by decide +kernel
theorem dL_areAlike_315 : decode cL_areAlike 315 = .ok (.iload_n 3, 1) := by decide +kernel
theorem dL_areAlike_316 : decode cL_areAlike 316 = .ok (.iload 4, 2) := by decide +kernel
theorem dL_areAlike_318 : decode cL_areAlike 318 = .ok (.iload 5, 2) := by decide +kernel
theorem dL_areAlike_320 : decode cL_areAlike 320 = .ok (.invokevirtual 59, 3) := by decide +kernel
theorem dL_areAlike_323 : decode cL_areAlike 323 = .ok (.aload_n 1, 1) := by decide +kernel
theorem dL_areAlike_324 : decode cL_areAlike 324 = .ok (.bipush 9, 2) := by decide +kernel
theorem dL_areAlike_326 : decode cL_areAlike 326 = .ok (.iload_n 3, 1) := by decide +kernel
theorem dL_areAlike_327 : decode cL_areAlike 327 = .ok (.isub, 1) := by decide +kernel
theorem dL_areAlike_328 : decode cL_areAlike 328 = .ok (.bipush 9, 2) := by decide +kernel
theorem dL_areAlike_330 : decode cL_areAlike 330 = .ok (.iload 4, 2) := by decide +kernel
theorem dL_areAlike_332 : decode cL_areAlike 332 = .ok (.isub, 1) := by decide +kernel
theorem dL_areAlike_333 : decode cL_areAlike 333 = .ok (.iload 5, 2) := by decide +kernel
theorem dL_areAlike_335 : decode cL_areAlike 335 = .ok (.invokevirtual 59, 3) := by decide +kernel
theorem dL_areAlike_338 : decode cL_areAlike 338 = .ok (.if_icmp .ne 7, 3) := by decide +kernel
theorem dL_areAlike_341 : decode cL_areAlike 341 = .ok (.iconst 1, 1) := by decide +kernel
theorem dL_areAlike_342 : decode cL_areAlike 342 = .ok (.goto 4, 3) := by decide +kernel
theorem dL_areAlike_345 : decode cL_areAlike 345 = .ok (.iconst 0, 1) := by decide +kernel
theorem dL_areAlike_346 : decode cL_areAlike 346 = .ok (.istore_n 2, 1) := by decide +kernel
theorem dL_areAlike_347 : decode cL_areAlike 347 = .ok (.iinc 5 1, 3) := by decide +kernel
theorem dL_areAlike_350 : decode cL_areAlike 350 = .ok (.goto (-52), 3) := by decide +kernel
theorem dL_areAlike_353 : decode cL_areAlike 353 = .ok (.iinc 3 1, 3) := by decide +kernel
theorem dL_areAlike_356 : decode cL_areAlike 356 = .ok (.goto (-159), 3) := by decide +kernel
theorem dL_areAlike_359 : decode cL_areAlike 359 = .ok (.iload_n 2, 1) := by decide +kernel
theorem dL_areAlike_360 : decode cL_areAlike 360 = .ok (.ireturn, 1) := by decide +kernel
set_option maxHeartbeats 1000000 in
set_option maxRecDepth 20000 in
theorem ggL_isWell_X5_count_h : GoodIn wsL_isWell [.code yX5_count cX5_count 2 (some .int)] := goodIn_r _ [6] (by decide +kernel) (by decide +kernel)
set_option maxHeartbeats 1000000 in
set_option maxRecDepth 20000 in
theorem ggL_isWell_X5_count_r1 : GoodIn wsL_isWell wsX5_count_r1 := goodIn_r _ [7, 8, 9, 10, 11, 12, 13, 14, 15, 16, 17, 18, 19, 20, 21, 22, 23, 24, 25, 26, 27, 28, 29, 30] (by decide +kernel) (by decide +kernel)
set_option maxHeartbeats 1000000 in
set_option maxRecDepth 20000 in
theorem ggL_isWell_X5_count_r2 : GoodIn wsL_isWell wsX5_count_r2 := goodIn_r _ [31, 32, 33, 5, 34, 35, 36, 37, 38, 39, 40, 41, 42, 43, 44, 45, 46, 47, 48, 49, 50, 51, 52, 53] (by decide +kernel) (by decide +kernel)
set_option maxHeartbeats 1000000 in
set_option maxRecDepth 20000 in
theorem ggL_isWell_X5_count_r3 : GoodIn wsL_isWell wsX5_count_r3 := goodIn_r _ [54, 55, 56, 57, 58, 59, 60, 61, 62, 63, 64, 65, 66, 67, 68, 69, 70, 71, 72, 73, 74, 75, 76, 77] (by decide +kernel) (by decide +kernel)
set_option maxHeartbeats 1000000 in
set_option maxRecDepth 20000 in
theorem ggL_isWell_X5_count_r4 : GoodIn wsL_isWell wsX5_count_r4 := goodIn_r _ [78, 79, 80, 81, 82, 83, 84, 85, 86, 87, 88, 89, 90, 91, 92, 93, 94, 95, 96, 97, 98, 99, 100, 101] (by decide +kernel) (by decide +kernel)
