theorem dL_cell_0 : decode cL_cell 0 = .ok (.iload_n 1, 1) := by decide +kernel
theorem dL_cell_1 : decode cL_cell 1 = .ok (.aload_n 0, 1) := by decide +kernel
theorem dL_cell_2 : decode cL_cell 2 = .ok (.arraylength, 1) := by decide +kernel
theorem dL_cell_3 : decode cL_cell 3 = .ok (.if_icmp .ge 9, 3) := by decide +kernel
theorem dL_cell_6 : decode cL_cell 6 = .ok (.aload_n 0, 1) := by decide +kernel
theorem dL_cell_7 : decode cL_cell 7 = .ok (.iload_n 1, 1) := by decide +kernel
theorem dL_cell_8 : decode cL_cell 8 = .ok (.iaload, 1) := by decide +kernel
theorem dL_cell_9 : decode cL_cell 9 = .ok (.goto 11, 3) := by decide +kernel
theorem dL_cell_12 : decode cL_cell 12 = .ok (.ldc 7, 2) := by decide +kernel
theorem dL_cell_14 : decode cL_cell 14 = .ok (.iload_n 1, 1) := by decide +kernel
theorem dL_cell_15 : decode cL_cell 15 = .ok (.sipush 1093, 3) := by decide +kernel
theorem dL_cell_18 : decode cL_cell 18 = .ok (.iadd, 1) := by decide +kernel
theorem dL_cell_19 : decode cL_cell 19 = .ok (.imul, 1) := by decide +kernel
theorem dL_cell_20 : decode cL_cell 20 = .ok (.ireturn, 1) := by decide +kernel
theorem dL_up_0 : decode cL_up 0 = .ok (.iload_n 0, 1) := by decide +kernel
theorem dL_up_1 : decode cL_up 1 = .ok (.ldc 8, 2) := by decide +kernel
theorem dL_up_3 : decode cL_up 3 = .ok (.iand, 1) := by decide +kernel
theorem dL_up_4 : decode cL_up 4 = .ok (.iload_n 1, 1) := by decide +kernel
theorem dL_up_5 : decode cL_up 5 = .ok (.irem, 1) := by decide +kernel
theorem dL_up_6 : decode cL_up 6 = .ok (.ireturn, 1) := by decide +kernel
theorem dL_there_0 : decode cL_there 0 = .ok (.iload_n 0, 1) := by decide +kernel
theorem dL_there_1 : decode cL_there 1 = .ok (.ifCond .ge 7, 3) := by decide +kernel
theorem dL_there_4 : decode cL_there 4 = .ok (.iload_n 0, 1) := by decide +kernel
theorem dL_there_5 : decode cL_there 5 = .ok (.goto 7, 3) := by decide +kernel
theorem dL_there_8 : decode cL_there 8 = .ok (.bipush 9, 2) := by decide +kernel
theorem dL_there_10 : decode cL_there 10 = .ok (.iload_n 0, 1) := by decide +kernel
theorem dL_there_11 : decode cL_there 11 = .ok (.isub, 1) := by decide +kernel
theorem dL_there_12 : decode cL_there 12 = .ok (.ireturn, 1) := by decide +kernel
theorem dL_value_0 : decode cL_value 0 = .ok (.sipush 201, 3) := by decide +kernel
theorem dL_value_3 : decode cL_value 3 = .ok (.iload_n 0, 1) := by decide +kernel
theorem dL_value_4 : decode cL_value 4 = .ok (.isub, 1) := by decide +kernel
theorem dL_value_5 : decode cL_value 5 = .ok (.i2c, 1) := by decide +kernel
theorem dL_value_6 : decode cL_value 6 = .ok (.ireturn, 1) := by decide +kernel
set_option maxHeartbeats 1000000 in
set_option maxRecDepth 20000 in
theorem ggL_isStep_X5_count_h : GoodIn wsL_isStep [.code yX5_count cX5_count 2 (some .int)] := goodIn_r _ [5] (by decide +kernel) (by decide +kernel)
set_option maxHeartbeats 1000000 in
set_option maxRecDepth 20000 in
theorem ggL_isStep_X5_count_r1 : GoodIn wsL_isStep wsX5_count_r1 := goodIn_r _ [6, 7, 8, 9, 10, 11, 12, 13, 14, 15, 16, 17, 18, 19, 20, 21, 22, 23, 24, 25, 26, 27, 28, 29] (by decide +kernel) (by decide +kernel)
set_option maxHeartbeats 1000000 in
set_option maxRecDepth 20000 in
theorem ggL_isStep_X5_count_r2 : GoodIn wsL_isStep wsX5_count_r2 := goodIn_r _ [30, 31, 32, 4, 33, 34, 35, 36, 37, 38, 39, 40, 41, 42, 43, 44, 45, 46, 47, 48, 49, 50, 51, 52] (by decide +kernel) (by decide +kernel)
set_option maxHeartbeats 1000000 in
set_option maxRecDepth 20000 in
theorem ggL_isStep_X5_count_r3 : GoodIn wsL_isStep wsX5_count_r3 := goodIn_r _ [53, 54, 55, 56, 57, 58, 59, 60, 61, 62, 63, 64, 65, 66, 67, 68, 69, 70, 71, 72, 73, 74, 75, 76] (by decide +kernel) (by decide +kernel)
set_option maxHeartbeats 1000000 in
set_option maxRecDepth 20000 in
theorem ggL_isStep_X5_count_r4 : GoodIn wsL_isStep wsX5_count_r4 := goodIn_r _ [77, 78, 79, 80, 81, 82, 83, 84, 85, 86, 87, 88, 89, 90, 91, 92, 93, 94, 95, 96, 97, 98, 99, 100] (by decide +kernel) (by decide +kernel)
set_option maxHeartbeats 1000000 in
set_option maxRecDepth 20000 in
theorem ggL_isStep_X5_count_r5 : GoodIn wsL_isStep wsX5_count_r5 := goodIn_r _ [101, 102, 103, 104, 105, 106, 107, 108, 109, 110, 111, 112, 113, 114, 115, 116, 117, 118, 119, 120, 121, 122, 123, 124] (by decide +kernel) (by decide +kernel)
set_option maxHeartbeats 1000000 in
set_option maxRecDepth 20000 in
theorem ggL_isStep_X5_count_r6 : GoodIn wsL_isStep wsX5_count_r6 := goodIn_r _ [125, 126, 127, 128, 129, 130, 131, 132, 133, 134, 135, 136, 137, 138, 139, 140, 141, 142, 143, 144, 145, 146, 147, 148] (by decide +kernel) (by decide +kernel)
set_option maxHeartbeats 1000000 in
set_option maxRecDepth 20000 in
theorem ggL_isStep_X5_count_r7 : GoodIn wsL_isStep wsX5_count_r7 := goodIn_r _ [149, 150, 151, 152, 153, 154, 155, 156, 157, 158, 159, 160, 161, 162, 163, 164, 165, 166, 167, 168, 169, 170, 171, 172] (by decide +kernel) (by decide +kernel)
set_option maxHeartbeats 1000000 in
set_option maxRecDepth 20000 in
theorem ggL_isStep_X5_count_r8 : GoodIn wsL_isStep wsX5_count_r8 := goodIn_r _ [173, 174, 175, 176, 177, 178, 179, 180, 181, 182, 183, 184, 185, 186, 187, 188, 189, 190, 191, 192, 193] (by decide +kernel) (by decide +kernel)
set_option maxHeartbeats 1000000 in
set_option maxRecDepth 20000 in
theorem ggL_isStep_X5_count_X5 : GoodIn wsL_isStep wsX50 := goodIn_r _ [388, 389, 390, 391, 392, 393, 394] (by decide +kernel) (by decide +kernel)
set_option maxHeartbeats 1000000 in
set_option maxRecDepth 20000 in
theorem ggL_isStep_X5_count_X3 : GoodIn wsL_isStep wsX30 := goodIn_r _ [395, 396, 397, 398, 399, 400] (by decide +kernel) (by decide +kernel)
set_option maxHeartbeats 1000000 in
set_option maxRecDepth 20000 in
theorem ggL_isStep_X5_count_X0 : GoodIn wsL_isStep wsX00 := goodIn_r _ [401, 402, 403, 404, 405, 406] (by decide +kernel) (by decide +kernel)
set_option maxHeartbeats 1000000 in
set_option maxRecDepth 20000 in
theorem ggL_isStep_X5_count_X1 : GoodIn wsL_isStep wsX10 := goodIn_r _ [407, 408, 409] (by decide +kernel) (by decide +kernel)
set_option maxHeartbeats 1000000 in
set_option maxRecDepth 20000 in
theorem ggL_isStep_X5_count_X4 : GoodIn wsL_isStep wsX40 := goodIn_r _ [410, 411] (by decide +kernel) (by decide +kernel)
set_option maxRecDepth 20000 in
theorem ggL_isStep_X5_count : GoodIn wsL_isStep wsX5_count := goodIn_app ggL_isStep_X5_count_h (goodIn_app (goodIn_app (goodIn_app (goodIn_app (goodIn_app (goodIn_app ggL_isStep_X5_count_r1 (goodIn_app ggL_isStep_X5_count_r2 (goodIn_app ggL_isStep_X5_count_r3 (goodIn_app ggL_isStep_X5_count_r4 (goodIn_app ggL_isStep_X5_count_r5 (goodIn_app ggL_isStep_X5_count_r6 (goodIn_app ggL_isStep_X5_count_r7 (ggL_isStep_X5_count_r8)))))))) ggL_isStep_X5_count_X5) ggL_isStep_X5_count_X3) ggL_isStep_X5_count_X0) ggL_isStep_X5_count_X1) ggL_isStep_X5_count_X4)
set_option maxRecDepth 20000 in
theorem gL_isStep_X5_count : GoodIn wsL_isStep (wsV RL 9 RX5 yX5_count wsX5_count) := goodIn_app (goodIn_of _ (by decide +kernel)) ggL_isStep_X5_count
set_option maxRecDepth 20000 in
theorem ggL_isStep_L_up : GoodIn wsL_isStep wsL_up := goodIn_r _ [197, 198] (by decide +kernel) (by decide +kernel)
set_option maxRecDepth 20000 in
theorem gL_isStep_L_up : GoodIn wsL_isStep (va_wsS RL 15 yL_up wsL_up) := goodIn_app (goodIn_of _ (by decide +kernel)) ggL_isStep_L_up
set_option maxHeartbeats 1000000 in
set_option maxRecDepth 20000 in
theorem ggL_isStep_X5_add_h : GoodIn wsL_isStep [.code yX5_add cX5_add 5 (some .int)] := goodIn_r _ [202] (by decide +kernel) (by decide +kernel)
set_option maxHeartbeats 1000000 in
set_option maxRecDepth 20000 in
theorem ggL_isStep_X5_add_r1 : GoodIn wsL_isStep wsX5_add_r1 := goodIn_r _ [6, 7, 203, 93, 4, 94, 204, 205, 206, 207, 208, 209, 12, 210, 14, 211, 212, 213, 185, 214, 215, 187, 216, 217] (by decide +kernel) (by decide +kernel)
set_option maxHeartbeats 1000000 in
set_option maxRecDepth 20000 in
theorem ggL_isStep_X5_add_r2 : GoodIn wsL_isStep wsX5_add_r2 := goodIn_r _ [218, 219, 220, 221, 222, 223, 224, 225, 226, 227, 228, 31, 131, 67, 92, 62, 229, 230, 231, 232, 233, 234, 235, 236] (by decide +kernel) (by decide +kernel)
set_option maxHeartbeats 1000000 in
set_option maxRecDepth 20000 in
theorem ggL_isStep_X5_add_r3 : GoodIn wsL_isStep wsX5_add_r3 := goodIn_r _ [237, 238, 239, 240, 82, 83, 9, 10, 11, 13] (by decide +kernel) (by decide +kernel)
set_option maxHeartbeats 1000000 in
set_option maxRecDepth 20000 in
theorem ggL_isStep_X5_add_X5 : GoodIn wsL_isStep wsX50 := goodIn_r _ [388, 389, 390, 391, 392, 393, 394] (by decide +kernel) (by decide +kernel)
set_option maxHeartbeats 1000000 in
set_option maxRecDepth 20000 in
theorem ggL_isStep_X5_add_X3 : GoodIn wsL_isStep wsX30 := goodIn_r _ [395, 396, 397, 398, 399, 400] (by decide +kernel) (by decide +kernel)
set_option maxHeartbeats 1000000 in
set_option maxRecDepth 20000 in
theorem ggL_isStep_X5_add_X1 : GoodIn wsL_isStep wsX10 := goodIn_r _ [407, 408, 409] (by decide +kernel) (by decide +kernel)
set_option maxRecDepth 20000 in
theorem ggL_isStep_X5_add : GoodIn wsL_isStep wsX5_add := goodIn_app ggL_isStep_X5_add_h (goodIn_app (goodIn_app (goodIn_app (goodIn_app ggL_isStep_X5_add_r1 (goodIn_app ggL_isStep_X5_add_r2 (ggL_isStep_X5_add_r3))) ggL_isStep_X5_add_X5) ggL_isStep_X5_add_X3) ggL_isStep_X5_add_X1)
set_option maxRecDepth 20000 in
theorem gL_isStep_X5_add : GoodIn wsL_isStep (wsV RL 21 RX5 yX5_add wsX5_add) := goodIn_app (goodIn_of _ (by decide +kernel)) ggL_isStep_X5_add
set_option maxRecDepth 20000 in
theorem ggL_isStep_L_value : GoodIn wsL_isStep wsL_value := goodIn_r _ [243] (by decide +kernel) (by decide +kernel)
set_option maxRecDepth 20000 in
theorem gL_isStep_L_value : GoodIn wsL_isStep (va_wsS RL 25 yL_value wsL_value) := goodIn_app (goodIn_of _ (by decide +kernel)) ggL_isStep_L_value
set_option maxRecDepth 20000 in
theorem ggL_isStep_L_there : GoodIn wsL_isStep wsL_there := goodIn_r _ [246] (by decide +kernel) (by decide +kernel)
set_option maxRecDepth 20000 in
theorem gL_isStep_L_there : GoodIn wsL_isStep (va_wsS RL 29 yL_there wsL_there) := goodIn_app (goodIn_of _ (by decide +kernel)) ggL_isStep_L_there
set_option maxHeartbeats 1000000 in
set_option maxRecDepth 20000 in
theorem ggL_isStep_X5_row_h : GoodIn wsL_isStep [.code yX5_row cX5_row 3 (some .int)] := goodIn_r _ [250] (by decide +kernel) (by decide +kernel)
set_option maxHeartbeats 1000000 in
set_option maxRecDepth 20000 in
theorem ggL_isStep_X5_row_r1 : GoodIn wsL_isStep wsX5_row_r1 := goodIn_r _ [6, 251, 252, 253, 12, 254, 14, 255, 28, 29, 30, 31, 32, 4, 33, 256, 128, 129, 130, 131, 257, 64, 65, 66] (by decide +kernel) (by decide +kernel)
set_option maxHeartbeats 1000000 in
set_option maxRecDepth 20000 in
theorem ggL_isStep_X5_row_r2 : GoodIn wsL_isStep wsX5_row_r2 := goodIn_r _ [67, 258, 89, 90, 91, 92, 259, 59, 60, 61, 62, 63, 27, 68, 69, 70, 71, 179, 180, 181, 38, 39, 40, 41] (by decide +kernel) (by decide +kernel)
set_option maxHeartbeats 1000000 in
set_option maxRecDepth 20000 in
theorem ggL_isStep_X5_row_r3 : GoodIn wsL_isStep wsX5_row_r3 := goodIn_r _ [42, 43, 44, 45, 46, 47, 48, 49, 50, 51, 52, 53, 54, 55, 56, 57, 10, 11, 13, 58, 72, 73, 74, 75] (by decide +kernel) (by decide +kernel)
set_option maxHeartbeats 1000000 in
set_option maxRecDepth 20000 in
theorem ggL_isStep_X5_row_r4 : GoodIn wsL_isStep wsX5_row_r4 := goodIn_r _ [76, 77, 78, 79, 80, 81, 82, 83, 84, 85, 86, 87, 88, 93, 94, 95, 96, 97, 98, 260, 108, 109, 110] (by decide +kernel) (by decide +kernel)
set_option maxHeartbeats 1000000 in
set_option maxRecDepth 20000 in
theorem ggL_isStep_X5_row_X5 : GoodIn wsL_isStep wsX50 := goodIn_r _ [388, 389, 390, 391, 392, 393, 394] (by decide +kernel) (by decide +kernel)
set_option maxHeartbeats 1000000 in
set_option maxRecDepth 20000 in
theorem ggL_isStep_X5_row_X3 : GoodIn wsL_isStep wsX30 := goodIn_r _ [395, 396, 397, 398, 399, 400] (by decide +kernel) (by decide +kernel)
set_option maxHeartbeats 1000000 in
set_option maxRecDepth 20000 in
theorem ggL_isStep_X5_row_X0 : GoodIn wsL_isStep wsX00 := goodIn_r _ [401, 402, 403, 404, 405, 406] (by decide +kernel) (by decide +kernel)
set_option maxRecDepth 20000 in
theorem ggL_isStep_X5_row : GoodIn wsL_isStep wsX5_row := goodIn_app ggL_isStep_X5_row_h (goodIn_app (goodIn_app (goodIn_app (goodIn_app ggL_isStep_X5_row_r1 (goodIn_app ggL_isStep_X5_row_r2 (goodIn_app ggL_isStep_X5_row_r3 (ggL_isStep_X5_row_r4)))) ggL_isStep_X5_row_X5) ggL_isStep_X5_row_X3) ggL_isStep_X5_row_X0)
set_option maxRecDepth 20000 in
theorem gL_isStep_X5_row : GoodIn wsL_isStep (wsV RL 32 RX5 yX5_row wsX5_row) := goodIn_app (goodIn_of _ (by decide +kernel)) ggL_isStep_X5_row
set_option maxHeartbeats 1000000 in
set_option maxRecDepth 20000 in
theorem ggL_isStep_X5_remove_h : GoodIn wsL_isStep [.code yX5_remove cX5_remove 2 (some .int)] := goodIn_r _ [264] (by decide +kernel) (by decide +kernel)
set_option maxHeartbeats 1000000 in
set_option maxRecDepth 20000 in
theorem ggL_isStep_X5_remove_r1 : GoodIn wsL_isStep wsX5_remove_r1 := goodIn_r _ [6, 7, 251, 252, 253, 12, 254, 14, 211, 212, 213, 185, 214, 215, 187, 216, 217, 218, 219, 220, 221, 222, 223, 224] (by decide +kernel) (by decide +kernel)
set_option maxHeartbeats 1000000 in
set_option maxRecDepth 20000 in
theorem ggL_isStep_X5_remove_r2 : GoodIn wsL_isStep wsX5_remove_r2 := goodIn_r _ [225, 226, 227, 228, 31, 131, 67, 92, 62, 229, 4, 230, 231, 232, 233, 234, 235, 265, 266, 267, 268, 269, 270, 271] (by decide +kernel) (by decide +kernel)
set_option maxHeartbeats 1000000 in
set_option maxRecDepth 20000 in
theorem ggL_isStep_X5_remove_r3 : GoodIn wsL_isStep wsX5_remove_r3 := goodIn_r _ [272, 273, 27, 28, 29, 30, 32, 33, 82, 83, 274, 128, 129, 130, 63, 64, 65, 66, 275, 89, 90, 91, 9, 10] (by decide +kernel) (by decide +kernel)
set_option maxHeartbeats 1000000 in
set_option maxRecDepth 20000 in
theorem ggL_isStep_X5_remove_r4 : GoodIn wsL_isStep wsX5_remove_r4 := goodIn_r _ [11, 13] (by decide +kernel) (by decide +kernel)
set_option maxHeartbeats 1000000 in
set_option maxRecDepth 20000 in
theorem ggL_isStep_X5_remove_X5 : GoodIn wsL_isStep wsX50 := goodIn_r _ [388, 389, 390, 391, 392, 393, 394] (by decide +kernel) (by decide +kernel)
set_option maxHeartbeats 1000000 in
set_option maxRecDepth 20000 in
theorem ggL_isStep_X5_remove_X3 : GoodIn wsL_isStep wsX30 := goodIn_r _ [395, 396, 397, 398, 399, 400] (by decide +kernel) (by decide +kernel)
set_option maxHeartbeats 1000000 in
set_option maxRecDepth 20000 in
theorem ggL_isStep_X5_remove_X1 : GoodIn wsL_isStep wsX10 := goodIn_r _ [407, 408, 409] (by decide +kernel) (by decide +kernel)
set_option maxRecDepth 20000 in
theorem ggL_isStep_X5_remove : GoodIn wsL_isStep wsX5_remove := goodIn_app ggL_isStep_X5_remove_h (goodIn_app (goodIn_app (goodIn_app (goodIn_app ggL_isStep_X5_remove_r1 (goodIn_app ggL_isStep_X5_remove_r2 (goodIn_app ggL_isStep_X5_remove_r3 (ggL_isStep_X5_remove_r4)))) ggL_isStep_X5_remove_X5) ggL_isStep_X5_remove_X3) ggL_isStep_X5_remove_X1)
set_option maxRecDepth 20000 in
theorem gL_isStep_X5_remove : GoodIn wsL_isStep (wsV RL 35 RX5 yX5_remove wsX5_remove) := goodIn_app (goodIn_of _ (by decide +kernel)) ggL_isStep_X5_remove
set_option maxHeartbeats 1000000 in
set_option maxRecDepth 20000 in
theorem ggL_isStep_X5_key_h : GoodIn wsL_isStep [.code yX5_key cX5_key 3 (some .int)] := goodIn_r _ [279] (by decide +kernel) (by decide +kernel)
set_option maxHeartbeats 1000000 in
set_option maxRecDepth 20000 in
theorem ggL_isStep_X5_key_r1 : GoodIn wsL_isStep wsX5_key_r1 := goodIn_r _ [6, 203, 93, 4, 94, 280, 24, 25, 12, 26, 14, 27, 28, 29, 30, 31, 32, 33, 38, 39, 40, 41, 42, 43] (by decide +kernel) (by decide +kernel)
set_option maxHeartbeats 1000000 in
set_option maxRecDepth 20000 in
theorem ggL_isStep_X5_key_r2 : GoodIn wsL_isStep wsX5_key_r2 := goodIn_r _ [44, 45, 46, 47, 48, 49, 50, 51, 52, 53, 54, 55, 56, 57, 10, 11, 13, 58, 59, 60, 61, 62, 63, 64] (by decide +kernel) (by decide +kernel)
set_option maxHeartbeats 1000000 in
set_option maxRecDepth 20000 in
theorem ggL_isStep_X5_key_r3 : GoodIn wsL_isStep wsX5_key_r3 := goodIn_r _ [65, 66, 67, 68, 69, 70, 71, 72, 73, 74, 75, 76, 77, 78, 79, 80, 81, 82, 83, 84, 85, 86, 87, 88] (by decide +kernel) (by decide +kernel)
set_option maxHeartbeats 1000000 in
set_option maxRecDepth 20000 in
theorem ggL_isStep_X5_key_r4 : GoodIn wsL_isStep wsX5_key_r4 := goodIn_r _ [89, 90, 91, 92, 95, 96, 97, 98, 281, 282, 283, 284, 285, 286, 287, 288, 289, 290, 275] (by decide +kernel) (by decide +kernel)
set_option maxHeartbeats 1000000 in
set_option maxRecDepth 20000 in
theorem ggL_isStep_X5_key_X5 : GoodIn wsL_isStep wsX50 := goodIn_r _ [388, 389, 390, 391, 392, 393, 394] (by decide +kernel) (by decide +kernel)
set_option maxHeartbeats 1000000 in
set_option maxRecDepth 20000 in
theorem ggL_isStep_X5_key_X3 : GoodIn wsL_isStep wsX30 := goodIn_r _ [395, 396, 397, 398, 399, 400] (by decide +kernel) (by decide +kernel)
set_option maxHeartbeats 1000000 in
set_option maxRecDepth 20000 in
theorem ggL_isStep_X5_key_X0 : GoodIn wsL_isStep wsX00 := goodIn_r _ [401, 402, 403, 404, 405, 406] (by decide +kernel) (by decide +kernel)
set_option maxRecDepth 20000 in
theorem ggL_isStep_X5_key : GoodIn wsL_isStep wsX5_key := goodIn_app ggL_isStep_X5_key_h (goodIn_app (goodIn_app (goodIn_app (goodIn_app ggL_isStep_X5_key_r1 (goodIn_app ggL_isStep_X5_key_r2 (goodIn_app ggL_isStep_X5_key_r3 (ggL_isStep_X5_key_r4)))) ggL_isStep_X5_key_X5) ggL_isStep_X5_key_X3) ggL_isStep_X5_key_X0)
set_option maxRecDepth 20000 in
theorem gL_isStep_X5_key : GoodIn wsL_isStep (wsV RL 38 RX5 yX5_key wsX5_key) := goodIn_app (goodIn_of _ (by decide +kernel)) ggL_isStep_X5_key
set_option maxHeartbeats 1000000 in
set_option maxRecDepth 20000 in
theorem ggL_isStep_X5_mend_h : GoodIn wsL_isStep [.code yX5_mend cX5_mend 3 (some .int)] := goodIn_r _ [294] (by decide +kernel) (by decide +kernel)
set_option maxHeartbeats 1000000 in
set_option maxRecDepth 20000 in
theorem ggL_isStep_X5_mend_r1 : GoodIn wsL_isStep wsX5_mend_r1 := goodIn_r _ [6, 7, 251, 252, 253, 12, 254, 14, 255, 28, 29, 30, 31, 32, 4, 33, 280, 24, 25, 26, 27, 211, 212, 213] (by decide +kernel) (by decide +kernel)
set_option maxHeartbeats 1000000 in
set_option maxRecDepth 20000 in
theorem ggL_isStep_X5_mend_r2 : GoodIn wsL_isStep wsX5_mend_r2 := goodIn_r _ [185, 214, 215, 187, 216, 217, 218, 219, 220, 221, 222, 223, 224, 225, 226, 227, 228, 131, 67, 92, 62, 229, 230, 231] (by decide +kernel) (by decide +kernel)
