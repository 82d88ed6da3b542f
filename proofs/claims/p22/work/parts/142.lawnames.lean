theorem dL_cell_0 : decode cL_cell 0 = .ok (.iload_n 1, 1) := by decide +kernel
theorem dL_cell_1 : decode cL_cell 1 = .ok (.aload_n 0, 1) := by decide +kernel
theorem dL_cell_2 : decode cL_cell 2 = .ok (.arraylength, 1) := by decide +kernel
theorem dL_cell_3 : decode cL_cell 3 = .ok (.if_icmp .ge 9, 3) := by decide +kernel
theorem dL_cell_6 : decode cL_cell 6 = .ok (.aload_n 0, 1) := by decide +kernel
theorem dL_cell_7 : decode cL_cell 7 = .ok (.iload_n 1, 1) := by decide +kernel
theorem dL_cell_8 : decode cL_cell 8 = .ok (.iaload, 1) := by decide +kernel
theorem dL_cell_9 : decode cL_cell 9 = .ok (.goto 11, 3) := by decide +kernel
theorem dL_cell_12 : decode cL_cell 12 = .ok (.ldc 7, 2) := by decide +kernel
theorem dL_cell_14 : decode cL_cell 14 = .ok (.iload_n 1, 1) := by decide +kernel
theorem dL_cell_15 : decode cL_cell 15 = .ok (.sipush 1093, 3) := by decide +kernel
theorem dL_cell_18 : decode cL_cell 18 = .ok (.iadd, 1) := by decide +kernel
theorem dL_cell_19 : decode cL_cell 19 = .ok (.imul, 1) := by decide +kernel
theorem dL_cell_20 : decode cL_cell 20 = .ok (.ireturn, 1) := by decide +kernel
theorem dL_up_0 : decode cL_up 0 = .ok (.iload_n 0, 1) := by decide +kernel
theorem dL_up_1 : decode cL_up 1 = .ok (.ldc 8, 2) := by decide +kernel
theorem dL_up_3 : decode cL_up 3 = .ok (.iand, 1) := by decide +kernel
theorem dL_up_4 : decode cL_up 4 = .ok (.iload_n 1, 1) := by decide +kernel
theorem dL_up_5 : decode cL_up 5 = .ok (.irem, 1) := by decide +kernel
theorem dL_up_6 : decode cL_up 6 = .ok (.ireturn, 1) := by decide +kernel
theorem dL_there_0 : decode cL_there 0 = .ok (.iload_n 0, 1) := by decide +kernel
theorem dL_there_1 : decode cL_there 1 = .ok (.ifCond .ge 7, 3) := by decide +kernel
theorem dL_there_4 : decode cL_there 4 = .ok (.iload_n 0, 1) := by decide +kernel
theorem dL_there_5 : decode cL_there 5 = .ok (.goto 7, 3) := by decide +kernel
theorem dL_there_8 : decode cL_there 8 = .ok (.bipush 9, 2) := by decide +kernel
theorem dL_there_10 : decode cL_there 10 = .ok (.iload_n 0, 1) := by decide +kernel
theorem dL_there_11 : decode cL_there 11 = .ok (.isub, 1) := by decide +kernel
theorem dL_there_12 : decode cL_there 12 = .ok (.ireturn, 1) := by decide +kernel
theorem dL_value_0 : decode cL_value 0 = .ok (.sipush 201, 3) := by decide +kernel
theorem dL_value_3 : decode cL_value 3 = .ok (.iload_n 0, 1) := by decide +kernel
theorem dL_value_4 : decode cL_value 4 = .ok (.isub, 1) := by decide +kernel
theorem dL_value_5 : decode cL_value 5 = .ok (.i2c, 1) := by decide +kernel
theorem dL_value_6 : decode cL_value 6 = .ok (.ireturn, 1) := by decide +kernel
set_option maxRecDepth 20000 in
theorem ggL_isStep_X5_count : GoodIn wsL_isStep wsX5_count := goodIn_r _ [5, 6, 7, 8, 9, 10, 11, 12, 13, 14, 15, 16, 17, 18, 19, 20, 21, 22, 23, 24, 25, 26, 27, 28, 29, 30, 31, 32, 4, 33, 34, 35, 36, 37, 38, 39, 40, 41, 42, 43, 44, 45, 46, 47, 48, 49, 50, 51, 52, 53, 54, 55, 56, 57, 58, 59, 60, 61, 62, 63, 64, 65, 66, 67, 68, 69, 70, 71, 72, 73, 74, 75, 76, 77, 78, 79, 80, 81, 82, 83, 84, 85, 86, 87, 88, 89, 90, 91, 92, 93, 94, 95, 96, 97, 98, 99, 100, 101, 102, 103, 104, 105, 106, 107, 108, 109, 110, 111, 112, 113, 114, 115, 116, 117, 118, 119, 120, 121, 122, 123, 124, 125, 126, 127, 128, 129, 130, 131, 132, 133, 134, 135, 136, 137, 138, 139, 140, 141, 142, 143, 144, 145, 146, 147, 148, 149, 150, 151, 152, 153, 154, 155, 156, 157, 158, 159, 160, 161, 162, 163, 164, 165, 166, 167, 168, 169, 170, 171, 172, 173, 174, 175, 176, 177, 178, 179, 180, 181, 182, 183, 184, 185, 186, 187, 188, 189, 190, 191, 192, 193, 388, 389, 390, 391, 392, 393, 394, 395, 396, 397, 398, 399, 400, 401, 402, 403, 404, 405, 406, 407, 408, 409, 410, 411] (by decide +kernel) (by decide +kernel)
set_option maxRecDepth 20000 in
theorem gL_isStep_X5_count : GoodIn wsL_isStep (wsV RL 9 RX5 yX5_count wsX5_count) := goodIn_app (goodIn_of _ (by decide +kernel)) ggL_isStep_X5_count
set_option maxRecDepth 20000 in
theorem ggL_isStep_L_up : GoodIn wsL_isStep wsL_up := goodIn_r _ [197, 198] (by decide +kernel) (by decide +kernel)
set_option maxRecDepth 20000 in
theorem gL_isStep_L_up : GoodIn wsL_isStep (va_wsS RL 15 yL_up wsL_up) := goodIn_app (goodIn_of _ (by decide +kernel)) ggL_isStep_L_up
set_option maxRecDepth 20000 in
theorem ggL_isStep_X5_add : GoodIn wsL_isStep wsX5_add := goodIn_r _ [202, 6, 7, 203, 93, 4, 94, 204, 205, 206, 207, 208, 209, 12, 210, 14, 211, 212, 213, 185, 214, 215, 187, 216, 217, 218, 219, 220, 221, 222, 223, 224, 225, 226, 227, 228, 31, 131, 67, 92, 62, 229, 230, 231, 232, 233, 234, 235, 236, 237, 238, 239, 240, 82, 83, 9, 10, 11, 13, 388, 389, 390, 391, 392, 393, 394, 395, 396, 397, 398, 399, 400, 407, 408, 409] (by decide +kernel) (by decide +kernel)
set_option maxRecDepth 20000 in
theorem gL_isStep_X5_add : GoodIn wsL_isStep (wsV RL 21 RX5 yX5_add wsX5_add) := goodIn_app (goodIn_of _ (by decide +kernel)) ggL_isStep_X5_add
set_option maxRecDepth 20000 in
theorem ggL_isStep_L_value : GoodIn wsL_isStep wsL_value := goodIn_r _ [243] (by decide +kernel) (by decide +kernel)
set_option maxRecDepth 20000 in
theorem gL_isStep_L_value : GoodIn wsL_isStep (va_wsS RL 25 yL_value wsL_value) := goodIn_app (goodIn_of _ (by decide +kernel)) ggL_isStep_L_value
set_option maxRecDepth 20000 in
theorem ggL_isStep_L_there : GoodIn wsL_isStep wsL_there := goodIn_r _ [246] (by decide +kernel) (by decide +kernel)
set_option maxRecDepth 20000 in
theorem gL_isStep_L_there : GoodIn wsL_isStep (va_wsS RL 29 yL_there wsL_there) := goodIn_app (goodIn_of _ (by decide +kernel)) ggL_isStep_L_there
set_option maxRecDepth 20000 in
theorem ggL_isStep_X5_row : GoodIn wsL_isStep wsX5_row := goodIn_r _ [250, 6, 251, 252, 253, 12, 254, 14, 255, 28, 29, 30, 31, 32, 4, 33, 256, 128, 129, 130, 131, 257, 64, 65, 66, 67, 258, 89, 90, 91, 92, 259, 59, 60, 61, 62, 63, 27, 68, 69, 70, 71, 179, 180, 181, 38, 39, 40, 41, 42, 43, 44, 45, 46, 47, 48, 49, 50, 51, 52, 53, 54, 55, 56, 57, 10, 11, 13, 58, 72, 73, 74, 75, 76, 77, 78, 79, 80, 81, 82, 83, 84, 85, 86, 87, 88, 93, 94, 95, 96, 97, 98, 260, 108, 109, 110, 388, 389, 390, 391, 392, 393, 394, 395, 396, 397, 398, 399, 400, 401, 402, 403, 404, 405, 406] (by decide +kernel) (by decide +kernel)
set_option maxRecDepth 20000 in
theorem gL_isStep_X5_row : GoodIn wsL_isStep (wsV RL 32 RX5 yX5_row wsX5_row) := goodIn_app (goodIn_of _ (by decide +kernel)) ggL_isStep_X5_row
set_option maxRecDepth 20000 in
theorem ggL_isStep_X5_remove : GoodIn wsL_isStep wsX5_remove := goodIn_r _ [264, 6, 7, 251, 252, 253, 12, 254, 14, 211, 212, 213, 185, 214, 215, 187, 216, 217, 218, 219, 220, 221, 222, 223, 224, 225, 226, 227, 228, 31, 131, 67, 92, 62, 229, 4, 230, 231, 232, 233, 234, 235, 265, 266, 267, 268, 269, 270, 271, 272, 273, 27, 28, 29, 30, 32, 33, 82, 83, 274, 128, 129, 130, 63, 64, 65, 66, 275, 89, 90, 91, 9, 10, 11, 13, 388, 389, 390, 391, 392, 393, 394, 395, 396, 397, 398, 399, 400, 407, 408, 409] (by decide +kernel) (by decide +kernel)
set_option maxRecDepth 20000 in
theorem gL_isStep_X5_remove : GoodIn wsL_isStep (wsV RL 35 RX5 yX5_remove wsX5_remove) := goodIn_app (goodIn_of _ (by decide +kernel)) ggL_isStep_X5_remove
set_option maxRecDepth 20000 in
theorem ggL_isStep_X5_key : GoodIn wsL_isStep wsX5_key := goodIn_r _ [279, 6, 203, 93, 4, 94, 280, 24, 25, 12, 26, 14, 27, 28, 29, 30, 31, 32, 33, 38, 39, 40, 41, 42, 43, 44, 45, 46, 47, 48, 49, 50, 51, 52, 53, 54, 55, 56, 57, 10, 11, 13, 58, 59, 60, 61, 62, 63, 64, 65, 66, 67, 68, 69, 70, 71, 72, 73, 74, 75, 76, 77, 78, 79, 80, 81, 82, 83, 84, 85, 86, 87, 88, 89, 90, 91, 92, 95, 96, 97, 98, 281, 282, 283, 284, 285, 286, 287, 288, 289, 290, 275, 388, 389, 390, 391, 392, 393, 394, 395, 396, 397, 398, 399, 400, 401, 402, 403, 404, 405, 406] (by decide +kernel) (by decide +kernel)
set_option maxRecDepth 20000 in
theorem gL_isStep_X5_key : GoodIn wsL_isStep (wsV RL 38 RX5 yX5_key wsX5_key) := goodIn_app (goodIn_of _ (by decide +kernel)) ggL_isStep_X5_key
set_option maxRecDepth 20000 in
theorem ggL_isStep_X5_mend : GoodIn wsL_isStep wsX5_mend := goodIn_r _ [294, 6, 7, 251, 252, 253, 12, 254, 14, 255, 28, 29, 30, 31, 32, 4, 33, 280, 24, 25, 26, 27, 211, 212, 213, 185, 214, 215, 187, 216, 217, 218, 219, 220, 221, 222, 223, 224, 225, 226, 227, 228, 131, 67, 92, 62, 229, 230, 231, 232, 233, 234, 235, 295, 296, 297, 298, 269, 270, 271, 272, 273, 82, 83, 274, 128, 129, 130, 63, 64, 65, 66, 275, 89, 90, 91, 388, 389, 390, 391, 392, 393, 394, 395, 396, 397, 398, 399, 400, 407, 408, 409] (by decide +kernel) (by decide +kernel)
set_option maxRecDepth 20000 in
theorem gL_isStep_X5_mend : GoodIn wsL_isStep (wsV RL 41 RX5 yX5_mend wsX5_mend) := goodIn_app (goodIn_of _ (by decide +kernel)) ggL_isStep_X5_mend
set_option maxRecDepth 20000 in
theorem ggL_isStep_X5_prefer : GoodIn wsL_isStep wsX5_prefer := goodIn_r _ [302, 6, 7, 175, 176, 177, 12, 178, 62, 211, 212, 213, 185, 214, 215, 187, 216, 217, 218, 219, 220, 221, 222, 223, 224, 225, 226, 227, 228, 31, 131, 67, 92, 14, 229, 4, 230, 231, 232, 233, 234, 235, 303, 304, 305, 306, 38, 39, 40, 41, 42, 43, 44, 45, 46, 47, 48, 49, 50, 51, 52, 53, 54, 55, 56, 57, 10, 11, 13, 58, 59, 60, 61, 63, 64, 65, 66, 32, 33, 27, 28, 29, 30, 68, 69, 70, 71, 72, 73, 74, 75, 76, 77, 78, 79, 80, 81, 82, 83, 84, 85, 86, 87, 88, 89, 90, 91, 93, 94, 95, 96, 97, 98, 99, 100, 101, 102, 388, 389, 390, 391, 392, 393, 394, 395, 396, 397, 398, 399, 400, 407, 408, 409, 401, 402, 403, 404, 405, 406] (by decide +kernel) (by decide +kernel)
set_option maxRecDepth 20000 in
theorem gL_isStep_X5_prefer : GoodIn wsL_isStep (wsV RL 44 RX5 yX5_prefer wsX5_prefer) := goodIn_app (goodIn_of _ (by decide +kernel)) ggL_isStep_X5_prefer
set_option maxRecDepth 20000 in
theorem ggL_isStep_X5_mendAll : GoodIn wsL_isStep wsX5_mendAll := goodIn_r _ [310, 6, 7, 34, 35, 36, 12, 37, 19, 20, 21, 22, 23, 24, 25, 26, 14, 27, 28, 29, 30, 31, 32, 4, 33, 211, 212, 213, 185, 214, 215, 187, 216, 217, 218, 219, 220, 221, 222, 223, 224, 225, 226, 227, 228, 131, 67, 92, 62, 229, 230, 231, 232, 233, 234, 235, 9, 10, 11, 13, 311, 312, 313, 314, 315, 316, 317, 318, 319, 320, 321, 322, 286, 69, 70, 71, 63, 64, 65, 66, 295, 296, 297, 298, 269, 252, 253, 254, 270, 271, 272, 273, 82, 83, 274, 128, 129, 130, 275, 89, 90, 91, 388, 389, 390, 391, 392, 393, 394, 395, 396, 397, 398, 399, 400, 407, 408, 409] (by decide +kernel) (by decide +kernel)
set_option maxRecDepth 20000 in
theorem gL_isStep_X5_mendAll : GoodIn wsL_isStep (wsV RL 48 RX5 yX5_mendAll wsX5_mendAll) := goodIn_app (goodIn_of _ (by decide +kernel)) ggL_isStep_X5_mendAll
set_option maxRecDepth 20000 in
theorem ggL_isStep_X5_undo : GoodIn wsL_isStep wsX5_undo := goodIn_r _ [326, 7, 6, 327, 328, 329, 185, 330, 215, 187, 220, 221, 222, 223, 224, 225, 226, 227, 12, 228, 31, 131, 67, 92, 14, 62, 229, 4, 230, 231, 217, 218, 219, 232, 233, 234, 235, 182, 183, 184, 186, 388, 389, 390, 391, 392, 393, 394, 407, 408, 409, 395, 396, 397, 398, 399, 400] (by decide +kernel) (by decide +kernel)
set_option maxRecDepth 20000 in
theorem gL_isStep_X5_undo : GoodIn wsL_isStep (wsV RL 51 RX5 yX5_undo wsX5_undo) := goodIn_app (goodIn_of _ (by decide +kernel)) ggL_isStep_X5_undo
set_option maxRecDepth 20000 in
theorem ggL_isStep_L_areAnswers : GoodIn wsL_isStep wsL_areAnswers := goodIn_r _ [333, 1, 2, 3, 4, 5, 6, 7, 8, 9, 10, 11, 12, 13, 14, 15, 16, 17, 18, 19, 20, 21, 22, 23, 24, 25, 26, 27, 28, 29, 30, 31, 32, 33, 34, 35, 36, 37, 38, 39, 40, 41, 42, 43, 44, 45, 46, 47, 48, 49, 50, 51, 52, 53, 54, 55, 56, 57, 58, 59, 60, 61, 62, 63, 64, 65, 66, 67, 68, 69, 70, 71, 72, 73, 74, 75, 76, 77, 78, 79, 80, 81, 82, 83, 84, 85, 86, 87, 88, 89, 90, 91, 92, 93, 94, 95, 96, 97, 98, 99, 100, 101, 102, 103, 104, 105, 106, 107, 108, 109, 110, 111, 112, 113, 114, 115, 116, 117, 118, 119, 120, 121, 122, 123, 124, 125, 126, 127, 128, 129, 130, 131, 132, 133, 134, 135, 136, 137, 138, 139, 140, 141, 142, 143, 144, 145, 146, 147, 148, 149, 150, 151, 152, 153, 154, 155, 156, 157, 158, 159, 160, 161, 162, 163, 164, 165, 166, 167, 168, 169, 170, 171, 172, 173, 174, 175, 176, 177, 178, 179, 180, 181, 182, 183, 184, 185, 186, 187, 188, 189, 190, 191, 192, 193, 334, 335, 336, 337, 203, 338, 339, 340, 341, 342, 343, 344, 345, 346, 347, 348, 349, 350, 351, 352, 353, 354, 355, 356, 357, 358, 359, 360, 361, 362, 363, 364, 365, 366, 367, 368, 204, 205, 206, 369, 370, 371, 372, 373, 374, 276, 277, 278, 279, 280, 281, 282, 283, 284, 285, 286, 287, 288, 289, 290, 275, 375, 376, 377, 378, 379, 380, 381, 382, 383, 384, 385, 386, 387, 255, 247, 248, 249, 250, 251, 252, 253, 254, 256, 257, 258, 259, 260, 291, 292, 293, 294, 211, 212, 213, 214, 215, 216, 217, 218, 219, 220, 221, 222, 223, 224, 225, 226, 227, 228, 229, 230, 231, 232, 233, 234, 235, 295, 296, 297, 298, 269, 270, 271, 272, 273, 274, 323, 324, 325, 326, 327, 328, 329, 330, 388, 389, 390, 391, 392, 393, 394, 395, 396, 397, 398, 399, 400, 401, 402, 403, 404, 405, 406, 407, 408, 409, 410, 411] (by decide +kernel) (by decide +kernel)
set_option maxRecDepth 20000 in
theorem gL_isStep_L_areAnswers : GoodIn wsL_isStep (va_wsS RL 55 yL_areAnswers wsL_areAnswers) := goodIn_app (goodIn_of _ (by decide +kernel)) ggL_isStep_L_areAnswers
theorem dL_isStep_0 : decode cL_isStep 0 = .ok (.iload_n 2, 1) := by decide +kernel
theorem dL_isStep_1 : decode cL_isStep 1 = .ok (.iconst 4, 1) := by decide +kernel
theorem dL_isStep_2 : decode cL_isStep 2 = .ok (.ishr, 1) := by decide +kernel
theorem dL_isStep_3 : decode cL_isStep 3 = .ok (.istore_n 3, 1) := by decide +kernel
theorem dL_isStep_4 : decode cL_isStep 4 = .ok (.aload_n 0, 1) := by decide +kernel
theorem dL_isStep_5 : decode cL_isStep 5 = .ok (.iconst 0, 1) := by decide +kernel
theorem dL_isStep_6 : decode cL_isStep 6 = .ok (.invokevirtual 9, 3) := by decide +kernel
theorem dL_isStep_9 : decode cL_isStep 9 = .ok (.istore 4, 2) := by decide +kernel
theorem dL_isStep_11 : decode cL_isStep 11 = .ok (.iload_n 3, 1) := by decide +kernel
theorem dL_isStep_12 : decode cL_isStep 12 = .ok (.iload 4, 2) := by decide +kernel
theorem dL_isStep_14 : decode cL_isStep 14 = .ok (.iconst 1, 1) := by decide +kernel
theorem dL_isStep_15 : decode cL_isStep 15 = .ok (.iadd, 1) := by decide +kernel
theorem dL_isStep_16 : decode cL_isStep 16 = .ok (.invokestatic 15, 3) := by decide +kernel
theorem dL_isStep_19 : decode cL_isStep 19 = .ok (.istore 5, 2) := by decide +kernel
theorem dL_isStep_21 : decode cL_isStep 21 = .ok (.iload_n 2, 1) := by decide +kernel
theorem dL_isStep_22 : decode cL_isStep 22 = .ok (.bipush 13, 2) := by decide +kernel
theorem dL_isStep_24 : decode cL_isStep 24 = .ok (.invokestatic 15, 3) := by decide +kernel
theorem dL_isStep_27 : decode cL_isStep 27 = .ok (.tableswitch 636 0 11 #[61, 61, 61, 61, 61, 61, 61, 267, 312, 410, 509, 610], 61) := by decide +kernel
theorem dL_isStep_88 : decode cL_isStep 88 = .ok (.iload_n 3, 1) := by decide +kernel
theorem dL_isStep_89 : decode cL_isStep 89 = .ok (.iload_n 3, 1) := by decide +kernel
theorem dL_isStep_90 : decode cL_isStep 90 = .ok (.bipush 9, 2) := by decide +kernel
theorem dL_isStep_92 : decode cL_isStep 92 = .ok (.ishr, 1) := by decide +kernel
theorem dL_isStep_93 : decode cL_isStep 93 = .ok (.iconst 3, 1) := by decide +kernel
theorem dL_isStep_94 : decode cL_isStep 94 = .ok (.invokestatic 15, 3) := by decide +kernel
theorem dL_isStep_97 : decode cL_isStep 97 = .ok (.ifCond .ne 8, 3) := by decide +kernel
theorem dL_isStep_100 : decode cL_isStep 100 = .ok (.bipush 10, 2) := by decide +kernel
theorem dL_isStep_102 : decode cL_isStep 102 = .ok (.goto 4, 3) := by decide +kernel
theorem dL_isStep_105 : decode cL_isStep 105 = .ok (.iconst 5, 1) := by decide +kernel
theorem dL_isStep_106 : decode cL_isStep 106 = .ok (.invokestatic 15, 3) := by decide +kernel
theorem dL_isStep_109 : decode cL_isStep 109 = .ok (.istore 6, 2) := by decide +kernel
theorem dL_isStep_111 : decode cL_isStep 111 = .ok (.bipush 97, 2) := by decide +kernel
theorem dL_isStep_113 : decode cL_isStep 113 = .ok (.iload_n 3, 1) := by decide +kernel
theorem dL_isStep_114 : decode cL_isStep 114 = .ok (.iconst 3, 1) := by decide +kernel
theorem dL_isStep_115 : decode cL_isStep 115 = .ok (.ishr, 1) := by decide +kernel
theorem dL_isStep_116 : decode cL_isStep 116 = .ok (.iconst 4, 1) := by decide +kernel
theorem dL_isStep_117 : decode cL_isStep 117 = .ok (.invokestatic 15, 3) := by decide +kernel
theorem dL_isStep_120 : decode cL_isStep 120 = .ok (.iadd, 1) := by decide +kernel
theorem dL_isStep_121 : decode cL_isStep 121 = .ok (.istore 7, 2) := by decide +kernel
theorem dL_isStep_123 : decode cL_isStep 123 = .ok (.iload_n 3, 1) := by decide +kernel
theorem dL_isStep_124 : decode cL_isStep 124 = .ok (.iconst 5, 1) := by decide +kernel
theorem dL_isStep_125 : decode cL_isStep 125 = .ok (.ishr, 1) := by decide +kernel
theorem dL_isStep_126 : decode cL_isStep 126 = .ok (.iload_n 3, 1) := by decide +kernel
theorem dL_isStep_127 : decode cL_isStep 127 = .ok (.bipush 6, 2) := by decide +kernel
theorem dL_isStep_129 : decode cL_isStep 129 = .ok (.ishr, 1) := by decide +kernel
theorem dL_isStep_130 : decode cL_isStep 130 = .ok (.iconst 2, 1) := by decide +kernel
theorem dL_isStep_131 : decode cL_isStep 131 = .ok (.invokestatic 15, 3) := by decide +kernel
theorem dL_isStep_134 : decode cL_isStep 134 = .ok (.ifCond .ne 8, 3) := by decide +kernel
theorem dL_isStep_137 : decode cL_isStep 137 = .ok (.bipush 100, 2) := by decide +kernel
theorem dL_isStep_139 : decode cL_isStep 139 = .ok (.goto 4, 3) := by decide +kernel
theorem dL_isStep_142 : decode cL_isStep 142 = .ok (.iconst 3, 1) := by decide +kernel
theorem dL_isStep_143 : decode cL_isStep 143 = .ok (.invokestatic 15, 3) := by decide +kernel
theorem dL_isStep_146 : decode cL_isStep 146 = .ok (.istore 8, 2) := by decide +kernel
theorem dL_isStep_148 : decode cL_isStep 148 = .ok (.iload_n 3, 1) := by decide +kernel
theorem dL_isStep_149 : decode cL_isStep 149 = .ok (.bipush 8, 2) := by decide +kernel
theorem dL_isStep_151 : decode cL_isStep 151 = .ok (.ishr, 1) := by decide +kernel
theorem dL_isStep_152 : decode cL_isStep 152 = .ok (.bipush 7, 2) := by decide +kernel
theorem dL_isStep_154 : decode cL_isStep 154 = .ok (.invokestatic 15, 3) := by decide +kernel
theorem dL_isStep_157 : decode cL_isStep 157 = .ok (.istore 9, 2) := by decide +kernel
theorem dL_isStep_159 : decode cL_isStep 159 = .ok (.iload 9, 2) := by decide +kernel
theorem dL_isStep_161 : decode cL_isStep 161 = .ok (.bipush 6, 2) := by decide +kernel
theorem dL_isStep_163 : decode cL_isStep 163 = .ok (.if_icmp .ne 8, 3) := by decide +kernel
theorem dL_isStep_166 : decode cL_isStep 166 = .ok (.bipush (-5), 2) := by decide +kernel
theorem dL_isStep_168 : decode cL_isStep 168 = .ok (.goto 5, 3) := by decide +kernel
theorem dL_isStep_171 : decode cL_isStep 171 = .ok (.iload 9, 2) := by decide +kernel
theorem dL_isStep_173 : decode cL_isStep 173 = .ok (.istore 9, 2) := by decide +kernel
theorem dL_isStep_175 : decode cL_isStep 175 = .ok (.aload_n 0, 1) := by decide +kernel
theorem dL_isStep_176 : decode cL_isStep 176 = .ok (.iconst 3, 1) := by decide +kernel
theorem dL_isStep_177 : decode cL_isStep 177 = .ok (.invokevirtual 9, 3) := by decide +kernel
theorem dL_isStep_180 : decode cL_isStep 180 = .ok (.istore 10, 2) := by decide +kernel
theorem dL_isStep_182 : decode cL_isStep 182 = .ok (.iload 10, 2) := by decide +kernel
theorem dL_isStep_184 : decode cL_isStep 184 = .ok (.bipush 100, 2) := by decide +kernel
theorem dL_isStep_186 : decode cL_isStep 186 = .ok (.if_icmp .le 5, 3) := by decide +kernel
theorem dL_isStep_189 : decode cL_isStep 189 = .ok (.iconst 1, 1) := by decide +kernel
theorem dL_isStep_190 : decode cL_isStep 190 = .ok (.ireturn, 1) := by decide +kernel
theorem dL_isStep_191 : decode cL_isStep 191 = .ok (.aload_n 0, 1) := by decide +kernel
theorem dL_isStep_192 : decode cL_isStep 192 = .ok (.iload 6, 2) := by decide +kernel
theorem dL_isStep_194 : decode cL_isStep 194 = .ok (.iload 7, 2) := by decide +kernel
theorem dL_isStep_196 : decode cL_isStep 196 = .ok (.i2c, 1) := by decide +kernel
theorem dL_isStep_197 : decode cL_isStep 197 = .ok (.iload 8, 2) := by decide +kernel
theorem dL_isStep_199 : decode cL_isStep 199 = .ok (.iload 9, 2) := by decide +kernel
theorem dL_isStep_201 : decode cL_isStep 201 = .ok (.invokevirtual 21, 3) := by decide +kernel
theorem dL_isStep_204 : decode cL_isStep 204 = .ok (.istore 11, 2) := by decide +kernel
theorem dL_isStep_206 : decode cL_isStep 206 = .ok (.iload 11, 2) := by decide +kernel
theorem dL_isStep_208 : decode cL_isStep 208 = .ok (.aload_n 1, 1) := by decide +kernel
theorem dL_isStep_209 : decode cL_isStep 209 = .ok (.bipush 9, 2) := by decide +kernel
theorem dL_isStep_211 : decode cL_isStep 211 = .ok (.iload 6, 2) := by decide +kernel
theorem dL_isStep_213 : decode cL_isStep 213 = .ok (.isub, 1) := by decide +kernel
theorem dL_isStep_214 : decode cL_isStep 214 = .ok (.iload 7, 2) := by decide +kernel
theorem dL_isStep_216 : decode cL_isStep 216 = .ok (.invokestatic 25, 3) := by decide +kernel
theorem dL_isStep_219 : decode cL_isStep 219 = .ok (.iload 8, 2) := by decide +kernel
theorem dL_isStep_221 : decode cL_isStep 221 = .ok (.iload 9, 2) := by decide +kernel
theorem dL_isStep_223 : decode cL_isStep 223 = .ok (.invokestatic 29, 3) := by decide +kernel
theorem dL_isStep_226 : decode cL_isStep 226 = .ok (.invokevirtual 21, 3) := by decide +kernel
theorem dL_isStep_229 : decode cL_isStep 229 = .ok (.if_icmp .ne 63, 3) := by decide +kernel
theorem dL_isStep_232 : decode cL_isStep 232 = .ok (.iload 4, 2) := by decide +kernel
theorem dL_isStep_234 : decode cL_isStep 234 = .ok (.bipush 20, 2) := by decide +kernel
theorem dL_isStep_236 : decode cL_isStep 236 = .ok (.if_icmp .ne 13, 3) := by decide +kernel
theorem dL_isStep_239 : decode cL_isStep 239 = .ok (.iload 11, 2) := by decide +kernel
theorem dL_isStep_241 : decode cL_isStep 241 = .ok (.bipush (-3), 2) := by decide +kernel
theorem dL_isStep_243 : decode cL_isStep 243 = .ok (.if_icmp .ne 49, 3) := by decide +kernel
theorem dL_isStep_246 : decode cL_isStep 246 = .ok (.goto 42, 3) := by decide +kernel
theorem dL_isStep_249 : decode cL_isStep 249 = .ok (.iload 11, 2) := by decide +kernel
theorem dL_isStep_251 : decode cL_isStep 251 = .ok (.iload 4, 2) := by decide +kernel
theorem dL_isStep_253 : decode cL_isStep 253 = .ok (.if_icmp .ne 39, 3) := by decide +kernel
theorem dL_isStep_256 : decode cL_isStep 256 = .ok (.aload_n 0, 1) := by decide +kernel
theorem dL_isStep_257 : decode cL_isStep 257 = .ok (.iload 4, 2) := by decide +kernel
theorem dL_isStep_259 : decode cL_isStep 259 = .ok (.iconst 2, 1) := by decide +kernel
theorem dL_isStep_260 : decode cL_isStep 260 = .ok (.invokevirtual 32, 3) := by decide +kernel
theorem dL_isStep_263 : decode cL_isStep 263 = .ok (.iload 8, 2) := by decide +kernel
theorem dL_isStep_265 : decode cL_isStep 265 = .ok (.if_icmp .ne 27, 3) := by decide +kernel
theorem dL_isStep_268 : decode cL_isStep 268 = .ok (.aload_n 0, 1) := by decide +kernel
theorem dL_isStep_269 : decode cL_isStep 269 = .ok (.bipush 9, 2) := by decide +kernel
theorem dL_isStep_271 : decode cL_isStep 271 = .ok (.invokevirtual 9, 3) := by decide +kernel
theorem dL_isStep_274 : decode cL_isStep 274 = .ok (.iconst 1, 1) := by decide +kernel
theorem dL_isStep_275 : decode cL_isStep 275 = .ok (.if_icmp .eq 13, 3) := by decide +kernel
theorem dL_isStep_278 : decode cL_isStep 278 = .ok (.aload_n 0, 1) := by decide +kernel
theorem dL_isStep_279 : decode cL_isStep 279 = .ok (.iconst 3, 1) := by decide +kernel
theorem dL_isStep_280 : decode cL_isStep 280 = .ok (.invokevirtual 9, 3) := by decide +kernel
theorem dL_isStep_283 : decode cL_isStep 283 = .ok (.iload 10, 2) := by decide +kernel
theorem dL_isStep_285 : decode cL_isStep 285 = .ok (.if_icmp .lt 7, 3) := by decide +kernel
theorem dL_isStep_288 : decode cL_isStep 288 = .ok (.iconst 1, 1) := by decide +kernel
theorem dL_isStep_289 : decode cL_isStep 289 = .ok (.goto 4, 3) := by decide +kernel
theorem dL_isStep_292 : decode cL_isStep 292 = .ok (.iconst 0, 1) := by decide +kernel
theorem dL_isStep_293 : decode cL_isStep 293 = .ok (.ireturn, 1) := by decide +kernel
theorem dL_isStep_294 : decode cL_isStep 294 = .ok (.aload_n 0, 1) := by decide +kernel
theorem dL_isStep_295 : decode cL_isStep 295 = .ok (.iload 5, 2) := by decide +kernel
theorem dL_isStep_297 : decode cL_isStep 297 = .ok (.invokevirtual 35, 3) := by decide +kernel
theorem dL_isStep_300 : decode cL_isStep 300 = .ok (.istore 6, 2) := by decide +kernel
theorem dL_isStep_302 : decode cL_isStep 302 = .ok (.iload 6, 2) := by decide +kernel
theorem dL_isStep_304 : decode cL_isStep 304 = .ok (.aload_n 1, 1) := by decide +kernel
theorem dL_isStep_305 : decode cL_isStep 305 = .ok (.iload 5, 2) := by decide +kernel
theorem dL_isStep_307 : decode cL_isStep 307 = .ok (.invokevirtual 35, 3) := by decide +kernel
theorem dL_isStep_310 : decode cL_isStep 310 = .ok (.if_icmp .ne 27, 3) := by decide +kernel
theorem dL_isStep_313 : decode cL_isStep 313 = .ok (.iload 6, 2) := by decide +kernel
theorem dL_isStep_315 : decode cL_isStep 315 = .ok (.iload 5, 2) := by decide +kernel
theorem dL_isStep_317 : decode cL_isStep 317 = .ok (.iload 4, 2) := by decide +kernel
theorem dL_isStep_319 : decode cL_isStep 319 = .ok (.if_icmp .ne 7, 3) := by decide +kernel
theorem dL_isStep_322 : decode cL_isStep 322 = .ok (.iconst (-1), 1) := by decide +kernel
theorem dL_isStep_323 : decode cL_isStep 323 = .ok (.goto 7, 3) := by decide +kernel
theorem dL_isStep_326 : decode cL_isStep 326 = .ok (.iload 4, 2) := by decide +kernel
theorem dL_isStep_328 : decode cL_isStep 328 = .ok (.iconst 1, 1) := by decide +kernel
theorem dL_isStep_329 : decode cL_isStep 329 = .ok (.isub, 1) := by decide +kernel
theorem dL_isStep_330 : decode cL_isStep 330 = .ok (.if_icmp .ne 7, 3) := by decide +kernel
theorem dL_isStep_333 : decode cL_isStep 333 = .ok (.iconst 1, 1) := by decide +kernel
theorem dL_isStep_334 : decode cL_isStep 334 = .ok (.goto 4, 3) := by decide +kernel
theorem dL_isStep_337 : decode cL_isStep 337 = .ok (.iconst 0, 1) := by decide +kernel
theorem dL_isStep_338 : decode cL_isStep 338 = .ok (.ireturn, 1) := by decide +kernel
theorem dL_isStep_339 : decode cL_isStep 339 = .ok (.aload_n 0, 1) := by decide +kernel
theorem dL_isStep_340 : decode cL_isStep 340 = .ok (.aload_n 0, 1) := by decide +kernel
theorem dL_isStep_341 : decode cL_isStep 341 = .ok (.iload 5, 2) := by decide +kernel
theorem dL_isStep_343 : decode cL_isStep 343 = .ok (.iconst 0, 1) := by decide +kernel
theorem dL_isStep_344 : decode cL_isStep 344 = .ok (.invokevirtual 32, 3) := by decide +kernel
theorem dL_isStep_347 : decode cL_isStep 347 = .ok (.iconst 0, 1) := by decide +kernel
theorem dL_isStep_348 : decode cL_isStep 348 = .ok (.invokevirtual 38, 3) := by decide +kernel
theorem dL_isStep_351 : decode cL_isStep 351 = .ok (.istore 6, 2) := by decide +kernel
theorem dL_isStep_353 : decode cL_isStep 353 = .ok (.aload_n 0, 1) := by decide +kernel
theorem dL_isStep_354 : decode cL_isStep 354 = .ok (.iload 5, 2) := by decide +kernel
theorem dL_isStep_356 : decode cL_isStep 356 = .ok (.invokevirtual 41, 3) := by decide +kernel
theorem dL_isStep_359 : decode cL_isStep 359 = .ok (.istore 7, 2) := by decide +kernel
theorem dL_isStep_361 : decode cL_isStep 361 = .ok (.iload 7, 2) := by decide +kernel
theorem dL_isStep_363 : decode cL_isStep 363 = .ok (.aload_n 1, 1) := by decide +kernel
theorem dL_isStep_364 : decode cL_isStep 364 = .ok (.iload 5, 2) := by decide +kernel
theorem dL_isStep_366 : decode cL_isStep 366 = .ok (.invokevirtual 41, 3) := by decide +kernel
theorem dL_isStep_369 : decode cL_isStep 369 = .ok (.if_icmp .ne 66, 3) := by decide +kernel
theorem dL_isStep_372 : decode cL_isStep 372 = .ok (.iload 5, 2) := by decide +kernel
theorem dL_isStep_374 : decode cL_isStep 374 = .ok (.iload 4, 2) := by decide +kernel
theorem dL_isStep_376 : decode cL_isStep 376 = .ok (.if_icmp .ne 12, 3) := by decide +kernel
theorem dL_isStep_379 : decode cL_isStep 379 = .ok (.iload 7, 2) := by decide +kernel
theorem dL_isStep_381 : decode cL_isStep 381 = .ok (.iconst (-1), 1) := by decide +kernel
theorem dL_isStep_382 : decode cL_isStep 382 = .ok (.if_icmp .ne 53, 3) := by decide +kernel
theorem dL_isStep_385 : decode cL_isStep 385 = .ok (.goto 46, 3) := by decide +kernel
theorem dL_isStep_388 : decode cL_isStep 388 = .ok (.iload 7, 2) := by decide +kernel
theorem dL_isStep_390 : decode cL_isStep 390 = .ok (.iload 6, 2) := by decide +kernel
theorem dL_isStep_392 : decode cL_isStep 392 = .ok (.iconst 1, 1) := by decide +kernel
theorem dL_isStep_393 : decode cL_isStep 393 = .ok (.if_icmp .ne 8, 3) := by decide +kernel
theorem dL_isStep_396 : decode cL_isStep 396 = .ok (.bipush (-5), 2) := by decide +kernel
theorem dL_isStep_398 : decode cL_isStep 398 = .ok (.goto 7, 3) := by decide +kernel
theorem dL_isStep_401 : decode cL_isStep 401 = .ok (.iload 6, 2) := by decide +kernel
theorem dL_isStep_403 : decode cL_isStep 403 = .ok (.iconst 1, 1) := by decide +kernel
theorem dL_isStep_404 : decode cL_isStep 404 = .ok (.isub, 1) := by decide +kernel
theorem dL_isStep_405 : decode cL_isStep 405 = .ok (.if_icmp .ne 30, 3) := by decide +kernel
theorem dL_isStep_408 : decode cL_isStep 408 = .ok (.aload_n 0, 1) := by decide +kernel
theorem dL_isStep_409 : decode cL_isStep 409 = .ok (.iconst 0, 1) := by decide +kernel
theorem dL_isStep_410 : decode cL_isStep 410 = .ok (.invokevirtual 9, 3) := by decide +kernel
theorem dL_isStep_413 : decode cL_isStep 413 = .ok (.iload 7, 2) := by decide +kernel
theorem dL_isStep_415 : decode cL_isStep 415 = .ok (.ifCond .ge 8, 3) := by decide +kernel
theorem dL_isStep_418 : decode cL_isStep 418 = .ok (.iload 4, 2) := by decide +kernel
theorem dL_isStep_420 : decode cL_isStep 420 = .ok (.goto 8, 3) := by decide +kernel
theorem dL_isStep_423 : decode cL_isStep 423 = .ok (.iload 4, 2) := by decide +kernel
theorem dL_isStep_425 : decode cL_isStep 425 = .ok (.iload 7, 2) := by decide +kernel
theorem dL_isStep_427 : decode cL_isStep 427 = .ok (.isub, 1) := by decide +kernel
theorem dL_isStep_428 : decode cL_isStep 428 = .ok (.if_icmp .ne 7, 3) := by decide +kernel
theorem dL_isStep_431 : decode cL_isStep 431 = .ok (.iconst 1, 1) := by decide +kernel
theorem dL_isStep_432 : decode cL_isStep 432 = .ok (.goto 4, 3) := by decide +kernel
theorem dL_isStep_435 : decode cL_isStep 435 = .ok (.iconst 0, 1) := by decide +kernel
theorem dL_isStep_436 : decode cL_isStep 436 = .ok (.ireturn, 1) := by decide +kernel
theorem dL_isStep_437 : decode cL_isStep 437 = .ok (.iload_n 3, 1) := by decide +kernel
theorem dL_isStep_438 : decode cL_isStep 438 = .ok (.iconst 2, 1) := by decide +kernel
theorem dL_isStep_439 : decode cL_isStep 439 = .ok (.invokestatic 15, 3) := by decide +kernel
theorem dL_isStep_442 : decode cL_isStep 442 = .ok (.ifCond .ne 7, 3) := by decide +kernel
theorem dL_isStep_445 : decode cL_isStep 445 = .ok (.iconst 1, 1) := by decide +kernel
theorem dL_isStep_446 : decode cL_isStep 446 = .ok (.goto 4, 3) := by decide +kernel
theorem dL_isStep_449 : decode cL_isStep 449 = .ok (.iconst 0, 1) := by decide +kernel
theorem dL_isStep_450 : decode cL_isStep 450 = .ok (.istore 6, 2) := by decide +kernel
theorem dL_isStep_452 : decode cL_isStep 452 = .ok (.aload_n 0, 1) := by decide +kernel
theorem dL_isStep_453 : decode cL_isStep 453 = .ok (.bipush 9, 2) := by decide +kernel
theorem dL_isStep_455 : decode cL_isStep 455 = .ok (.invokevirtual 9, 3) := by decide +kernel
theorem dL_isStep_458 : decode cL_isStep 458 = .ok (.iconst 1, 1) := by decide +kernel
theorem dL_isStep_459 : decode cL_isStep 459 = .ok (.if_icmp .ne 7, 3) := by decide +kernel
theorem dL_isStep_462 : decode cL_isStep 462 = .ok (.iconst 1, 1) := by decide +kernel
theorem dL_isStep_463 : decode cL_isStep 463 = .ok (.goto 4, 3) := by decide +kernel
theorem dL_isStep_466 : decode cL_isStep 466 = .ok (.iconst 0, 1) := by decide +kernel
theorem dL_isStep_467 : decode cL_isStep 467 = .ok (.istore 7, 2) := by decide +kernel
theorem dL_isStep_469 : decode cL_isStep 469 = .ok (.aload_n 0, 1) := by decide +kernel
theorem dL_isStep_470 : decode cL_isStep 470 = .ok (.iload 6, 2) := by decide +kernel
theorem dL_isStep_472 : decode cL_isStep 472 = .ok (.invokevirtual 44, 3) := by decide +kernel
theorem dL_isStep_475 : decode cL_isStep 475 = .ok (.istore 8, 2) := by decide +kernel
theorem dL_isStep_477 : decode cL_isStep 477 = .ok (.iload 8, 2) := by decide +kernel
theorem dL_isStep_479 : decode cL_isStep 479 = .ok (.aload_n 1, 1) := by decide +kernel
theorem dL_isStep_480 : decode cL_isStep 480 = .ok (.iload 6, 2) := by decide +kernel
theorem dL_isStep_482 : decode cL_isStep 482 = .ok (.invokevirtual 44, 3) := by decide +kernel
theorem dL_isStep_485 : decode cL_isStep 485 = .ok (.if_icmp .ne 49, 3) := by decide +kernel
theorem dL_isStep_488 : decode cL_isStep 488 = .ok (.iload 8, 2) := by decide +kernel
theorem dL_isStep_490 : decode cL_isStep 490 = .ok (.iload 7, 2) := by decide +kernel
theorem dL_isStep_492 : decode cL_isStep 492 = .ok (.iload 6, 2) := by decide +kernel
theorem dL_isStep_494 : decode cL_isStep 494 = .ok (.if_icmp .ne 8, 3) := by decide +kernel
theorem dL_isStep_497 : decode cL_isStep 497 = .ok (.bipush (-5), 2) := by decide +kernel
theorem dL_isStep_499 : decode cL_isStep 499 = .ok (.goto 8, 3) := by decide +kernel
theorem dL_isStep_502 : decode cL_isStep 502 = .ok (.aload_n 0, 1) := by decide +kernel
theorem dL_isStep_503 : decode cL_isStep 503 = .ok (.iconst 3, 1) := by decide +kernel
theorem dL_isStep_504 : decode cL_isStep 504 = .ok (.invokevirtual 9, 3) := by decide +kernel
theorem dL_isStep_507 : decode cL_isStep 507 = .ok (.if_icmp .ne 27, 3) := by decide +kernel
theorem dL_isStep_510 : decode cL_isStep 510 = .ok (.aload_n 0, 1) := by decide +kernel
theorem dL_isStep_511 : decode cL_isStep 511 = .ok (.bipush 9, 2) := by decide +kernel
theorem dL_isStep_513 : decode cL_isStep 513 = .ok (.invokevirtual 9, 3) := by decide +kernel
theorem dL_isStep_516 : decode cL_isStep 516 = .ok (.iconst 1, 1) := by decide +kernel
theorem dL_isStep_517 : decode cL_isStep 517 = .ok (.if_icmp .ne 7, 3) := by decide +kernel
theorem dL_isStep_520 : decode cL_isStep 520 = .ok (.iconst 1, 1) := by decide +kernel
theorem dL_isStep_521 : decode cL_isStep 521 = .ok (.goto 4, 3) := by decide +kernel
theorem dL_isStep_524 : decode cL_isStep 524 = .ok (.iconst 0, 1) := by decide +kernel
theorem dL_isStep_525 : decode cL_isStep 525 = .ok (.iload 6, 2) := by decide +kernel
theorem dL_isStep_527 : decode cL_isStep 527 = .ok (.if_icmp .ne 7, 3) := by decide +kernel
theorem dL_isStep_530 : decode cL_isStep 530 = .ok (.iconst 1, 1) := by decide +kernel
theorem dL_isStep_531 : decode cL_isStep 531 = .ok (.goto 4, 3) := by decide +kernel
theorem dL_isStep_534 : decode cL_isStep 534 = .ok (.iconst 0, 1) := by decide +kernel
theorem dL_isStep_535 : decode cL_isStep 535 = .ok (.ireturn, 1) := by decide +kernel
theorem dL_isStep_536 : decode cL_isStep 536 = .ok (.aload_n 0, 1) := by decide +kernel
theorem dL_isStep_537 : decode cL_isStep 537 = .ok (.iconst 1, 1) := by decide +kernel
theorem dL_isStep_538 : decode cL_isStep 538 = .ok (.invokevirtual 9, 3) := by decide +kernel
theorem dL_isStep_541 : decode cL_isStep 541 = .ok (.istore 6, 2) := by decide +kernel
theorem dL_isStep_543 : decode cL_isStep 543 = .ok (.iload_n 3, 1) := by decide +kernel
theorem dL_isStep_544 : decode cL_isStep 544 = .ok (.iconst 4, 1) := by decide +kernel
theorem dL_isStep_545 : decode cL_isStep 545 = .ok (.invokestatic 15, 3) := by decide +kernel
theorem dL_isStep_548 : decode cL_isStep 548 = .ok (.ifCond .le 5, 3) := by decide +kernel
theorem dL_isStep_551 : decode cL_isStep 551 = .ok (.iconst 1, 1) := by decide +kernel
theorem dL_isStep_552 : decode cL_isStep 552 = .ok (.ireturn, 1) := by decide +kernel
theorem dL_isStep_553 : decode cL_isStep 553 = .ok (.aload_n 0, 1) := by decide +kernel
theorem dL_isStep_554 : decode cL_isStep 554 = .ok (.iload_n 3, 1) := by decide +kernel
theorem dL_isStep_555 : decode cL_isStep 555 = .ok (.iconst 2, 1) := by decide +kernel
theorem dL_isStep_556 : decode cL_isStep 556 = .ok (.ishr, 1) := by decide +kernel
theorem dL_isStep_557 : decode cL_isStep 557 = .ok (.iconst 3, 1) := by decide +kernel
theorem dL_isStep_558 : decode cL_isStep 558 = .ok (.invokestatic 15, 3) := by decide +kernel
theorem dL_isStep_561 : decode cL_isStep 561 = .ok (.invokevirtual 48, 3) := by decide +kernel
theorem dL_isStep_564 : decode cL_isStep 564 = .ok (.istore 7, 2) := by decide +kernel
theorem dL_isStep_566 : decode cL_isStep 566 = .ok (.iload 7, 2) := by decide +kernel
theorem dL_isStep_568 : decode cL_isStep 568 = .ok (.aload_n 1, 1) := by decide +kernel
theorem dL_isStep_569 : decode cL_isStep 569 = .ok (.iload_n 3, 1) := by decide +kernel
theorem dL_isStep_570 : decode cL_isStep 570 = .ok (.iconst 2, 1) := by decide +kernel
theorem dL_isStep_571 : decode cL_isStep 571 = .ok (.ishr, 1) := by decide +kernel
theorem dL_isStep_572 : decode cL_isStep 572 = .ok (.iconst 3, 1) := by decide +kernel
theorem dL_isStep_573 : decode cL_isStep 573 = .ok (.invokestatic 15, 3) := by decide +kernel
theorem dL_isStep_576 : decode cL_isStep 576 = .ok (.invokevirtual 48, 3) := by decide +kernel
theorem dL_isStep_579 : decode cL_isStep 579 = .ok (.if_icmp .ne 56, 3) := by decide +kernel
theorem dL_isStep_582 : decode cL_isStep 582 = .ok (.iload 7, 2) := by decide +kernel
theorem dL_isStep_584 : decode cL_isStep 584 = .ok (.iload 4, 2) := by decide +kernel
theorem dL_isStep_586 : decode cL_isStep 586 = .ok (.iload 6, 2) := by decide +kernel
theorem dL_isStep_588 : decode cL_isStep 588 = .ok (.if_icmp .ne 8, 3) := by decide +kernel
theorem dL_isStep_591 : decode cL_isStep 591 = .ok (.bipush (-5), 2) := by decide +kernel
theorem dL_isStep_593 : decode cL_isStep 593 = .ok (.goto 8, 3) := by decide +kernel
theorem dL_isStep_596 : decode cL_isStep 596 = .ok (.iload 4, 2) := by decide +kernel
theorem dL_isStep_598 : decode cL_isStep 598 = .ok (.iload 6, 2) := by decide +kernel
theorem dL_isStep_600 : decode cL_isStep 600 = .ok (.isub, 1) := by decide +kernel
theorem dL_isStep_601 : decode cL_isStep 601 = .ok (.if_icmp .ne 34, 3) := by decide +kernel
theorem dL_isStep_604 : decode cL_isStep 604 = .ok (.aload_n 0, 1) := by decide +kernel
theorem dL_isStep_605 : decode cL_isStep 605 = .ok (.iconst 0, 1) := by decide +kernel
theorem dL_isStep_606 : decode cL_isStep 606 = .ok (.invokevirtual 9, 3) := by decide +kernel
theorem dL_isStep_609 : decode cL_isStep 609 = .ok (.iload 6, 2) := by decide +kernel
theorem dL_isStep_611 : decode cL_isStep 611 = .ok (.if_icmp .ne 24, 3) := by decide +kernel
theorem dL_isStep_614 : decode cL_isStep 614 = .ok (.aload_n 0, 1) := by decide +kernel
theorem dL_isStep_615 : decode cL_isStep 615 = .ok (.iconst 3, 1) := by decide +kernel
theorem dL_isStep_616 : decode cL_isStep 616 = .ok (.invokevirtual 9, 3) := by decide +kernel
theorem dL_isStep_619 : decode cL_isStep 619 = .ok (.iconst 1, 1) := by decide +kernel
theorem dL_isStep_620 : decode cL_isStep 620 = .ok (.if_icmp .ne 15, 3) := by decide +kernel
theorem dL_isStep_623 : decode cL_isStep 623 = .ok (.aload_n 0, 1) := by decide +kernel
theorem dL_isStep_624 : decode cL_isStep 624 = .ok (.iconst 2, 1) := by decide +kernel
theorem dL_isStep_625 : decode cL_isStep 625 = .ok (.invokevirtual 9, 3) := by decide +kernel
theorem dL_isStep_628 : decode cL_isStep 628 = .ok (.ifCond .ne 7, 3) := by decide +kernel
theorem dL_isStep_631 : decode cL_isStep 631 = .ok (.iconst 1, 1) := by decide +kernel
theorem dL_isStep_632 : decode cL_isStep 632 = .ok (.goto 4, 3) := by decide +kernel
theorem dL_isStep_635 : decode cL_isStep 635 = .ok (.iconst 0, 1) := by decide +kernel
theorem dL_isStep_636 : decode cL_isStep 636 = .ok (.ireturn, 1) := by decide +kernel
theorem dL_isStep_637 : decode cL_isStep 637 = .ok (.aload_n 0, 1) := by decide +kernel
theorem dL_isStep_638 : decode cL_isStep 638 = .ok (.bipush 10, 2) := by decide +kernel
theorem dL_isStep_640 : decode cL_isStep 640 = .ok (.invokevirtual 9, 3) := by decide +kernel
theorem dL_isStep_643 : decode cL_isStep 643 = .ok (.ifCond .eq 14, 3) := by decide +kernel
theorem dL_isStep_646 : decode cL_isStep 646 = .ok (.aload_n 0, 1) := by decide +kernel
theorem dL_isStep_647 : decode cL_isStep 647 = .ok (.invokevirtual 51, 3) := by decide +kernel
theorem dL_isStep_650 : decode cL_isStep 650 = .ok (.aload_n 1, 1) := by decide +kernel
theorem dL_isStep_651 : decode cL_isStep 651 = .ok (.invokevirtual 51, 3) := by decide +kernel
theorem dL_isStep_654 : decode cL_isStep 654 = .ok (.if_icmp .ne 7, 3) := by decide +kernel
theorem dL_isStep_657 : decode cL_isStep 657 = .ok (.iconst 1, 1) := by decide +kernel
theorem dL_isStep_658 : decode cL_isStep 658 = .ok (.goto 4, 3) := by decide +kernel
theorem dL_isStep_661 : decode cL_isStep 661 = .ok (.iconst 0, 1) := by decide +kernel
theorem dL_isStep_662 : decode cL_isStep 662 = .ok (.ireturn, 1) := by decide +kernel
theorem dL_isStep_663 : decode cL_isStep 663 = .ok (.aload_n 0, 1) := by decide +kernel
theorem dL_isStep_664 : decode cL_isStep 664 = .ok (.aload_n 1, 1) := by decide +kernel
theorem dL_isStep_665 : decode cL_isStep 665 = .ok (.iload_n 3, 1) := by decide +kernel
theorem dL_isStep_666 : decode cL_isStep 666 = .ok (.bipush 6, 2) := by decide +kernel
theorem dL_isStep_668 : decode cL_isStep 668 = .ok (.invokestatic 15, 3) := by decide +kernel
theorem dL_isStep_671 : decode cL_isStep 671 = .ok (.iload_n 3, 1) := by decide +kernel
theorem dL_isStep_672 : decode cL_isStep 672 = .ok (.iconst 3, 1) := by decide +kernel
theorem dL_isStep_673 : decode cL_isStep 673 = .ok (.ishr, 1) := by decide +kernel
theorem dL_isStep_674 : decode cL_isStep 674 = .ok (.bipush 6, 2) := by decide +kernel
theorem dL_isStep_676 : decode cL_isStep 676 = .ok (.invokestatic 15, 3) := by decide +kernel
theorem dL_isStep_679 : decode cL_isStep 679 = .ok (.bipush 97, 2) := by decide +kernel
theorem dL_isStep_681 : decode cL_isStep 681 = .ok (.iload_n 3, 1) := by decide +kernel
theorem dL_isStep_682 : decode cL_isStep 682 = .ok (.bipush 6, 2) := by decide +kernel
theorem dL_isStep_684 : decode cL_isStep 684 = .ok (.ishr, 1) := by decide +kernel
theorem dL_isStep_685 : decode cL_isStep 685 = .ok (.iconst 5, 1) := by decide +kernel
theorem dL_isStep_686 : decode cL_isStep 686 = .ok (.invokestatic 15, 3) := by decide +kernel
theorem dL_isStep_689 : decode cL_isStep 689 = .ok (.iadd, 1) := by decide +kernel
theorem dL_isStep_690 : decode cL_isStep 690 = .ok (.invokestatic 55, 3) := by decide +kernel
theorem dL_isStep_693 : decode cL_isStep 693 = .ok (.ireturn, 1) := by decide +kernel
set_option maxRecDepth 20000 in
theorem ggL_areAnswers_X5_count : GoodIn wsL_areAnswers wsX5_count := goodIn_r _ [5, 6, 7, 8, 9, 10, 11, 12, 13, 14, 15, 16, 17, 18, 19, 20, 21, 22, 23, 24, 25, 26, 27, 28, 29, 30, 31, 32, 4, 33, 34, 35, 36, 37, 38, 39, 40, 41, 42, 43, 44, 45, 46, 47, 48, 49, 50, 51, 52, 53, 54, 55, 56, 57, 58, 59, 60, 61, 62, 63, 64, 65, 66, 67, 68, 69, 70, 71, 72, 73, 74, 75, 76, 77, 78, 79, 80, 81, 82, 83, 84, 85, 86, 87, 88, 89, 90, 91, 92, 93, 94, 95, 96, 97, 98, 99, 100, 101, 102, 103, 104, 105, 106, 107, 108, 109, 110, 111, 112, 113, 114, 115, 116, 117, 118, 119, 120, 121, 122, 123, 124, 125, 126, 127, 128, 129, 130, 131, 132, 133, 134, 135, 136, 137, 138, 139, 140, 141, 142, 143, 144, 145, 146, 147, 148, 149, 150, 151, 152, 153, 154, 155, 156, 157, 158, 159, 160, 161, 162, 163, 164, 165, 166, 167, 168, 169, 170, 171, 172, 173, 174, 175, 176, 177, 178, 179, 180, 181, 182, 183, 184, 185, 186, 187, 188, 189, 190, 191, 192, 193, 329, 330, 331, 332, 333, 334, 335, 336, 337, 338, 339, 340, 341, 342, 343, 344, 345, 346, 347, 348, 349, 350, 351, 352] (by decide +kernel) (by decide +kernel)
set_option maxRecDepth 20000 in
theorem gL_areAnswers_X5_count : GoodIn wsL_areAnswers (wsV RL 9 RX5 yX5_count wsX5_count) := goodIn_app (goodIn_of _ (by decide +kernel)) ggL_areAnswers_X5_count
set_option maxRecDepth 20000 in
theorem ggL_areAnswers_X5_way : GoodIn wsL_areAnswers wsX5_way := goodIn_r _ [197, 198, 93, 4, 94, 38, 39, 40, 41, 42, 43, 44, 45, 46, 47, 48, 49, 50, 51, 52, 53, 54, 55, 56, 57, 10, 11, 12, 13, 14, 58, 59, 60, 61, 62, 63, 64, 65, 66, 67, 32, 33, 27, 28, 29, 30, 31, 68, 69, 70, 71, 72, 73, 74, 75, 76, 77, 78, 79, 80, 81, 82, 83, 84, 85, 86, 87, 88, 89, 90, 91, 92, 95, 96, 97, 98, 199, 200, 201, 202, 144, 145, 146, 147, 148, 149, 150, 151, 152, 153, 154, 155, 203, 204, 205, 179, 180, 181, 206, 207, 208, 209, 171, 172, 173, 174, 210, 211, 212, 213, 214, 215, 216, 217, 218, 219, 220, 221, 123, 124, 125, 126, 222, 223, 224, 225, 329, 330, 331, 332, 333, 334, 335, 342, 343, 344, 345, 346, 347, 336, 337, 338, 339, 340, 341] (by decide +kernel) (by decide +kernel)
set_option maxRecDepth 20000 in
theorem gL_areAnswers_X5_way : GoodIn wsL_areAnswers (wsV RL 59 RX5 yX5_way wsX5_way) := goodIn_app (goodIn_of _ (by decide +kernel)) ggL_areAnswers_X5_way
set_option maxRecDepth 20000 in
theorem ggL_areAnswers_X5_value : GoodIn wsL_areAnswers wsX5_value := goodIn_r _ [229, 230, 231, 4, 232, 38, 39, 40, 41, 42, 43, 44, 45, 46, 47, 48, 49, 50, 51, 52, 53, 54, 55, 56, 57, 10, 11, 12, 13, 14, 58, 59, 60, 61, 62, 63, 64, 65, 66, 67, 32, 33, 27, 28, 29, 30, 31, 68, 69, 70, 71, 72, 73, 74, 75, 76, 77, 78, 79, 80, 81, 82, 83, 84, 85, 86, 87, 88, 89, 90, 91, 92, 93, 94, 95, 96, 97, 98, 233, 116, 117, 118, 119, 120, 121, 122, 123, 124, 125, 126, 127, 128, 129, 130, 131, 179, 180, 181, 234, 137, 138, 139, 99, 100, 101, 102, 235, 236, 237, 238, 329, 330, 331, 332, 333, 334, 335, 342, 343, 344, 345, 346, 347, 336, 337, 338, 339, 340, 341] (by decide +kernel) (by decide +kernel)
set_option maxRecDepth 20000 in
theorem gL_areAnswers_X5_value : GoodIn wsL_areAnswers (wsV RL 63 RX5 yX5_value wsX5_value) := goodIn_app (goodIn_of _ (by decide +kernel)) ggL_areAnswers_X5_value
set_option maxRecDepth 20000 in
theorem ggL_areAnswers_X5_key : GoodIn wsL_areAnswers wsX5_key := goodIn_r _ [242, 6, 198, 93, 4, 94, 243, 24, 25, 12, 26, 14, 27, 28, 29, 30, 31, 32, 33, 38, 39, 40, 41, 42, 43, 44, 45, 46, 47, 48, 49, 50, 51, 52, 53, 54, 55, 56, 57, 10, 11, 13, 58, 59, 60, 61, 62, 63, 64, 65, 66, 67, 68, 69, 70, 71, 72, 73, 74, 75, 76, 77, 78, 79, 80, 81, 82, 83, 84, 85, 86, 87, 88, 89, 90, 91, 92, 95, 96, 97, 98, 244, 245, 246, 247, 248, 249, 250, 251, 252, 253, 254, 329, 330, 331, 332, 333, 334, 335, 336, 337, 338, 339, 340, 341, 342, 343, 344, 345, 346, 347] (by decide +kernel) (by decide +kernel)
set_option maxRecDepth 20000 in
theorem gL_areAnswers_X5_key : GoodIn wsL_areAnswers (wsV RL 38 RX5 yX5_key wsX5_key) := goodIn_app (goodIn_of _ (by decide +kernel)) ggL_areAnswers_X5_key
set_option maxRecDepth 20000 in
theorem ggL_areAnswers_X5_bestMended : GoodIn wsL_areAnswers wsX5_bestMended := goodIn_r _ [258, 6, 198, 93, 4, 94, 38, 39, 40, 41, 42, 43, 44, 45, 46, 47, 48, 49, 50, 51, 52, 53, 54, 55, 56, 57, 10, 11, 12, 13, 14, 58, 59, 60, 61, 62, 63, 64, 65, 66, 67, 32, 33, 27, 28, 29, 30, 31, 68, 69, 70, 71, 72, 73, 74, 75, 76, 77, 78, 79, 80, 81, 82, 83, 84, 85, 86, 87, 88, 89, 90, 91, 92, 95, 96, 97, 98, 259, 260, 261, 262, 263, 200, 201, 202, 144, 145, 146, 147, 148, 149, 150, 151, 152, 153, 154, 155, 203, 204, 205, 123, 124, 125, 126, 264, 265, 266, 267, 268, 329, 330, 331, 332, 333, 334, 335, 342, 343, 344, 345, 346, 347, 336, 337, 338, 339, 340, 341] (by decide +kernel) (by decide +kernel)
set_option maxRecDepth 20000 in
theorem gL_areAnswers_X5_bestMended : GoodIn wsL_areAnswers (wsV RL 66 RX5 yX5_bestMended wsX5_bestMended) := goodIn_app (goodIn_of _ (by decide +kernel)) ggL_areAnswers_X5_bestMended
set_option maxRecDepth 20000 in
theorem ggL_areAnswers_X5_row : GoodIn wsL_areAnswers wsX5_row := goodIn_r _ [272, 6, 273, 274, 275, 12, 276, 14, 268, 28, 29, 30, 31, 32, 4, 33, 277, 128, 129, 130, 131, 278, 64, 65, 66, 67, 279, 89, 90, 91, 92, 280, 59, 60, 61, 62, 63, 27, 68, 69, 70, 71, 179, 180, 181, 38, 39, 40, 41, 42, 43, 44, 45, 46, 47, 48, 49, 50, 51, 52, 53, 54, 55, 56, 57, 10, 11, 13, 58, 72, 73, 74, 75, 76, 77, 78, 79, 80, 81, 82, 83, 84, 85, 86, 87, 88, 93, 94, 95, 96, 97, 98, 281, 108, 109, 110, 329, 330, 331, 332, 333, 334, 335, 336, 337, 338, 339, 340, 341, 342, 343, 344, 345, 346, 347] (by decide +kernel) (by decide +kernel)
set_option maxRecDepth 20000 in
theorem gL_areAnswers_X5_row : GoodIn wsL_areAnswers (wsV RL 32 RX5 yX5_row wsX5_row) := goodIn_app (goodIn_of _ (by decide +kernel)) ggL_areAnswers_X5_row
set_option maxRecDepth 20000 in
theorem ggL_areAnswers_X5_mend : GoodIn wsL_areAnswers wsX5_mend := goodIn_r _ [285, 6, 7, 273, 274, 275, 12, 276, 14, 268, 28, 29, 30, 31, 32, 4, 33, 243, 24, 25, 26, 27, 286, 287, 288, 185, 289, 290, 187, 291, 292, 293, 294, 295, 296, 297, 298, 299, 300, 301, 302, 303, 131, 67, 92, 62, 304, 305, 306, 307, 308, 309, 310, 311, 312, 313, 314, 315, 316, 317, 318, 319, 82, 83, 320, 128, 129, 130, 63, 64, 65, 66, 254, 89, 90, 91, 329, 330, 331, 332, 333, 334, 335, 336, 337, 338, 339, 340, 341, 348, 349, 350] (by decide +kernel) (by decide +kernel)
set_option maxRecDepth 20000 in
theorem gL_areAnswers_X5_mend : GoodIn wsL_areAnswers (wsV RL 41 RX5 yX5_mend wsX5_mend) := goodIn_app (goodIn_of _ (by decide +kernel)) ggL_areAnswers_X5_mend
set_option maxRecDepth 20000 in
theorem ggL_areAnswers_X5_undo : GoodIn wsL_areAnswers wsX5_undo := goodIn_r _ [324, 7, 6, 325, 326, 327, 185, 328, 290, 187, 295, 296, 297, 298, 299, 300, 301, 302, 12, 303, 31, 131, 67, 92, 14, 62, 304, 4, 305, 306, 292, 293, 294, 307, 308, 309, 310, 182, 183, 184, 186, 329, 330, 331, 332, 333, 334, 335, 348, 349, 350, 336, 337, 338, 339, 340, 341] (by decide +kernel) (by decide +kernel)
set_option maxRecDepth 20000 in
theorem gL_areAnswers_X5_undo : GoodIn wsL_areAnswers (wsV RL 51 RX5 yX5_undo wsX5_undo) := goodIn_app (goodIn_of _ (by decide +kernel)) ggL_areAnswers_X5_undo
theorem dL_areAnswers_0 : decode cL_areAnswers 0 = .ok (.aload_n 0, 1) := by decide +kernel
theorem dL_areAnswers_1 : decode cL_areAnswers 1 = .ok (.iconst 3, 1) := by decide +kernel
theorem dL_areAnswers_2 : decode cL_areAnswers 2 = .ok (.invokevirtual 9, 3) := by decide +kernel
theorem dL_areAnswers_5 : decode cL_areAnswers 5 = .ok (.istore 5, 2) := by decide +kernel
theorem dL_areAnswers_7 : decode cL_areAnswers 7 = .ok (.aload_n 0, 1) := by decide +kernel
theorem dL_areAnswers_8 : decode cL_areAnswers 8 = .ok (.iload_n 2, 1) := by decide +kernel
theorem dL_areAnswers_9 : decode cL_areAnswers 9 = .ok (.iload_n 3, 1) := by decide +kernel
theorem dL_areAnswers_10 : decode cL_areAnswers 10 = .ok (.iconst 2, 1) := by decide +kernel
theorem dL_areAnswers_11 : decode cL_areAnswers 11 = .ok (.invokevirtual 59, 3) := by decide +kernel
theorem dL_areAnswers_14 : decode cL_areAnswers 14 = .ok (.istore 6, 2) := by decide +kernel
theorem dL_areAnswers_16 : decode cL_areAnswers 16 = .ok (.aload_n 0, 1) := by decide +kernel
theorem dL_areAnswers_17 : decode cL_areAnswers 17 = .ok (.iload_n 2, 1) := by decide +kernel
theorem dL_areAnswers_18 : decode cL_areAnswers 18 = .ok (.iload_n 3, 1) := by decide +kernel
theorem dL_areAnswers_19 : decode cL_areAnswers 19 = .ok (.iconst 3, 1) := by decide +kernel
theorem dL_areAnswers_20 : decode cL_areAnswers 20 = .ok (.invokevirtual 59, 3) := by decide +kernel
theorem dL_areAnswers_23 : decode cL_areAnswers 23 = .ok (.istore 7, 2) := by decide +kernel
theorem dL_areAnswers_25 : decode cL_areAnswers 25 = .ok (.aload_n 0, 1) := by decide +kernel
theorem dL_areAnswers_26 : decode cL_areAnswers 26 = .ok (.iload_n 2, 1) := by decide +kernel
theorem dL_areAnswers_27 : decode cL_areAnswers 27 = .ok (.iload_n 3, 1) := by decide +kernel
theorem dL_areAnswers_28 : decode cL_areAnswers 28 = .ok (.iconst 4, 1) := by decide +kernel
theorem dL_areAnswers_29 : decode cL_areAnswers 29 = .ok (.invokevirtual 59, 3) := by decide +kernel
theorem dL_areAnswers_32 : decode cL_areAnswers 32 = .ok (.istore 8, 2) := by decide +kernel
theorem dL_areAnswers_34 : decode cL_areAnswers 34 = .ok (.aload_n 0, 1) := by decide +kernel
theorem dL_areAnswers_35 : decode cL_areAnswers 35 = .ok (.iload 4, 2) := by decide +kernel
theorem dL_areAnswers_37 : decode cL_areAnswers 37 = .ok (.i2c, 1) := by decide +kernel
theorem dL_areAnswers_38 : decode cL_areAnswers 38 = .ok (.iconst 2, 1) := by decide +kernel
theorem dL_areAnswers_39 : decode cL_areAnswers 39 = .ok (.invokevirtual 63, 3) := by decide +kernel
theorem dL_areAnswers_42 : decode cL_areAnswers 42 = .ok (.istore 9, 2) := by decide +kernel
theorem dL_areAnswers_44 : decode cL_areAnswers 44 = .ok (.aload_n 0, 1) := by decide +kernel
theorem dL_areAnswers_45 : decode cL_areAnswers 45 = .ok (.iload 4, 2) := by decide +kernel
theorem dL_areAnswers_47 : decode cL_areAnswers 47 = .ok (.i2c, 1) := by decide +kernel
theorem dL_areAnswers_48 : decode cL_areAnswers 48 = .ok (.iconst 3, 1) := by decide +kernel
theorem dL_areAnswers_49 : decode cL_areAnswers 49 = .ok (.invokevirtual 63, 3) := by decide +kernel
theorem dL_areAnswers_52 : decode cL_areAnswers 52 = .ok (.istore 10, 2) := by decide +kernel
theorem dL_areAnswers_54 : decode cL_areAnswers 54 = .ok (.aload_n 0, 1) := by decide +kernel
theorem dL_areAnswers_55 : decode cL_areAnswers 55 = .ok (.iload 4, 2) := by decide +kernel
theorem dL_areAnswers_57 : decode cL_areAnswers 57 = .ok (.i2c, 1) := by decide +kernel
theorem dL_areAnswers_58 : decode cL_areAnswers 58 = .ok (.iconst 4, 1) := by decide +kernel
theorem dL_areAnswers_59 : decode cL_areAnswers 59 = .ok (.invokevirtual 63, 3) := by decide +kernel
theorem dL_areAnswers_62 : decode cL_areAnswers 62 = .ok (.istore 11, 2) := by decide +kernel
theorem dL_areAnswers_64 : decode cL_areAnswers 64 = .ok (.iload 6, 2) := by decide +kernel
theorem dL_areAnswers_66 : decode cL_areAnswers 66 = .ok (.ifCond .lt 185, 3) := by decide +kernel
theorem dL_areAnswers_69 : decode cL_areAnswers 69 = .ok (.iload 6, 2) := by decide +kernel
theorem dL_areAnswers_71 : decode cL_areAnswers 71 = .ok (.iload 5, 2) := by decide +kernel
theorem dL_areAnswers_73 : decode cL_areAnswers 73 = .ok (.if_icmp .gt 178, 3) := by decide +kernel
theorem dL_areAnswers_76 : decode cL_areAnswers 76 = .ok (.aload_n 0, 1) := by decide +kernel
theorem dL_areAnswers_77 : decode cL_areAnswers 77 = .ok (.iload_n 2, 1) := by decide +kernel
theorem dL_areAnswers_78 : decode cL_areAnswers 78 = .ok (.iload_n 3, 1) := by decide +kernel
theorem dL_areAnswers_79 : decode cL_areAnswers 79 = .ok (.iconst 0, 1) := by decide +kernel
theorem dL_areAnswers_80 : decode cL_areAnswers 80 = .ok (.invokevirtual 59, 3) := by decide +kernel
theorem dL_areAnswers_83 : decode cL_areAnswers 83 = .ok (.iconst 1, 1) := by decide +kernel
theorem dL_areAnswers_84 : decode cL_areAnswers 84 = .ok (.if_icmp .ne 7, 3) := by decide +kernel
theorem dL_areAnswers_87 : decode cL_areAnswers 87 = .ok (.iconst 1, 1) := by decide +kernel
theorem dL_areAnswers_88 : decode cL_areAnswers 88 = .ok (.goto 4, 3) := by decide +kernel
theorem dL_areAnswers_91 : decode cL_areAnswers 91 = .ok (.iconst 0, 1) := by decide +kernel
theorem dL_areAnswers_92 : decode cL_areAnswers 92 = .ok (.iload 6, 2) := by decide +kernel
theorem dL_areAnswers_94 : decode cL_areAnswers 94 = .ok (.iload 5, 2) := by decide +kernel
theorem dL_areAnswers_96 : decode cL_areAnswers 96 = .ok (.if_icmp .ne 7, 3) := by decide +kernel
theorem dL_areAnswers_99 : decode cL_areAnswers 99 = .ok (.iconst 1, 1) := by decide +kernel
theorem dL_areAnswers_100 : decode cL_areAnswers 100 = .ok (.goto 4, 3) := by decide +kernel
theorem dL_areAnswers_103 : decode cL_areAnswers 103 = .ok (.iconst 0, 1) := by decide +kernel
theorem dL_areAnswers_104 : decode cL_areAnswers 104 = .ok (.if_icmp .ne 147, 3) := by decide +kernel
theorem dL_areAnswers_107 : decode cL_areAnswers 107 = .ok (.aload_n 0, 1) := by decide +kernel
theorem dL_areAnswers_108 : decode cL_areAnswers 108 = .ok (.iload_n 2, 1) := by decide +kernel
theorem dL_areAnswers_109 : decode cL_areAnswers 109 = .ok (.iload_n 3, 1) := by decide +kernel
theorem dL_areAnswers_110 : decode cL_areAnswers 110 = .ok (.iconst 1, 1) := by decide +kernel
theorem dL_areAnswers_111 : decode cL_areAnswers 111 = .ok (.invokevirtual 59, 3) := by decide +kernel
theorem dL_areAnswers_114 : decode cL_areAnswers 114 = .ok (.iconst 1, 1) := by decide +kernel
theorem dL_areAnswers_115 : decode cL_areAnswers 115 = .ok (.if_icmp .ne 7, 3) := by decide +kernel
theorem dL_areAnswers_118 : decode cL_areAnswers 118 = .ok (.iconst 1, 1) := by decide +kernel
theorem dL_areAnswers_119 : decode cL_areAnswers 119 = .ok (.goto 4, 3) := by decide +kernel
theorem dL_areAnswers_122 : decode cL_areAnswers 122 = .ok (.iconst 0, 1) := by decide +kernel
theorem dL_areAnswers_123 : decode cL_areAnswers 123 = .ok (.iload 6, 2) := by decide +kernel
theorem dL_areAnswers_125 : decode cL_areAnswers 125 = .ok (.ifCond .le 7, 3) := by decide +kernel
theorem dL_areAnswers_128 : decode cL_areAnswers 128 = .ok (.iconst 1, 1) := by decide +kernel
theorem dL_areAnswers_129 : decode cL_areAnswers 129 = .ok (.goto 4, 3) := by decide +kernel
theorem dL_areAnswers_132 : decode cL_areAnswers 132 = .ok (.iconst 0, 1) := by decide +kernel
theorem dL_areAnswers_133 : decode cL_areAnswers 133 = .ok (.if_icmp .ne 118, 3) := by decide +kernel
theorem dL_areAnswers_136 : decode cL_areAnswers 136 = .ok (.iload 7, 2) := by decide +kernel
theorem dL_areAnswers_138 : decode cL_areAnswers 138 = .ok (.bipush (-5), 2) := by decide +kernel
theorem dL_areAnswers_140 : decode cL_areAnswers 140 = .ok (.if_icmp .ne 7, 3) := by decide +kernel
theorem dL_areAnswers_143 : decode cL_areAnswers 143 = .ok (.iconst 1, 1) := by decide +kernel
theorem dL_areAnswers_144 : decode cL_areAnswers 144 = .ok (.goto 4, 3) := by decide +kernel
theorem dL_areAnswers_147 : decode cL_areAnswers 147 = .ok (.iconst 0, 1) := by decide +kernel
theorem dL_areAnswers_148 : decode cL_areAnswers 148 = .ok (.iload 6, 2) := by decide +kernel
theorem dL_areAnswers_150 : decode cL_areAnswers 150 = .ok (.iload 5, 2) := by decide +kernel
theorem dL_areAnswers_152 : decode cL_areAnswers 152 = .ok (.if_icmp .ne 7, 3) := by decide +kernel
theorem dL_areAnswers_155 : decode cL_areAnswers 155 = .ok (.iconst 1, 1) := by decide +kernel
theorem dL_areAnswers_156 : decode cL_areAnswers 156 = .ok (.goto 4, 3) := by decide +kernel
theorem dL_areAnswers_159 : decode cL_areAnswers 159 = .ok (.iconst 0, 1) := by decide +kernel
theorem dL_areAnswers_160 : decode cL_areAnswers 160 = .ok (.if_icmp .ne 91, 3) := by decide +kernel
theorem dL_areAnswers_163 : decode cL_areAnswers 163 = .ok (.iload 7, 2) := by decide +kernel
theorem dL_areAnswers_165 : decode cL_areAnswers 165 = .ok (.iload 5, 2) := by decide +kernel
theorem dL_areAnswers_167 : decode cL_areAnswers 167 = .ok (.if_icmp .ge 84, 3) := by decide +kernel
theorem dL_areAnswers_170 : decode cL_areAnswers 170 = .ok (.iload 8, 2) := by decide +kernel
theorem dL_areAnswers_172 : decode cL_areAnswers 172 = .ok (.bipush (-5), 2) := by decide +kernel
theorem dL_areAnswers_174 : decode cL_areAnswers 174 = .ok (.if_icmp .ne 7, 3) := by decide +kernel
theorem dL_areAnswers_177 : decode cL_areAnswers 177 = .ok (.iconst 1, 1) := by decide +kernel
theorem dL_areAnswers_178 : decode cL_areAnswers 178 = .ok (.goto 4, 3) := by decide +kernel
theorem dL_areAnswers_181 : decode cL_areAnswers 181 = .ok (.iconst 0, 1) := by decide +kernel
theorem dL_areAnswers_182 : decode cL_areAnswers 182 = .ok (.iload 6, 2) := by decide +kernel
theorem dL_areAnswers_184 : decode cL_areAnswers 184 = .ok (.ifCond .ne 7, 3) := by decide +kernel
theorem dL_areAnswers_187 : decode cL_areAnswers 187 = .ok (.iconst 1, 1) := by decide +kernel
theorem dL_areAnswers_188 : decode cL_areAnswers 188 = .ok (.goto 4, 3) := by decide +kernel
theorem dL_areAnswers_191 : decode cL_areAnswers 191 = .ok (.iconst 0, 1) := by decide +kernel
theorem dL_areAnswers_192 : decode cL_areAnswers 192 = .ok (.if_icmp .ne 59, 3) := by decide +kernel
theorem dL_areAnswers_195 : decode cL_areAnswers 195 = .ok (.iload 8, 2) := by decide +kernel
theorem dL_areAnswers_197 : decode cL_areAnswers 197 = .ok (.bipush 9, 2) := by decide +kernel
theorem dL_areAnswers_199 : decode cL_areAnswers 199 = .ok (.if_icmp .gt 52, 3) := by decide +kernel
theorem dL_areAnswers_202 : decode cL_areAnswers 202 = .ok (.iload_n 2, 1) := by decide +kernel
theorem dL_areAnswers_203 : decode cL_areAnswers 203 = .ok (.iload_n 3, 1) := by decide +kernel
theorem dL_areAnswers_204 : decode cL_areAnswers 204 = .ok (.if_icmp .ne 33, 3) := by decide +kernel
theorem dL_areAnswers_207 : decode cL_areAnswers 207 = .ok (.iload 6, 2) := by decide +kernel
theorem dL_areAnswers_209 : decode cL_areAnswers 209 = .ok (.aload_n 0, 1) := by decide +kernel
theorem dL_areAnswers_210 : decode cL_areAnswers 210 = .ok (.iload_n 2, 1) := by decide +kernel
theorem dL_areAnswers_211 : decode cL_areAnswers 211 = .ok (.iconst 0, 1) := by decide +kernel
theorem dL_areAnswers_212 : decode cL_areAnswers 212 = .ok (.invokevirtual 38, 3) := by decide +kernel
theorem dL_areAnswers_215 : decode cL_areAnswers 215 = .ok (.ifCond .le 8, 3) := by decide +kernel
theorem dL_areAnswers_218 : decode cL_areAnswers 218 = .ok (.iload 5, 2) := by decide +kernel
theorem dL_areAnswers_220 : decode cL_areAnswers 220 = .ok (.goto 4, 3) := by decide +kernel
theorem dL_areAnswers_223 : decode cL_areAnswers 223 = .ok (.iconst 0, 1) := by decide +kernel
theorem dL_areAnswers_224 : decode cL_areAnswers 224 = .ok (.if_icmp .ne 27, 3) := by decide +kernel
theorem dL_areAnswers_227 : decode cL_areAnswers 227 = .ok (.iload 6, 2) := by decide +kernel
theorem dL_areAnswers_229 : decode cL_areAnswers 229 = .ok (.ifCond .eq 8, 3) := by decide +kernel
theorem dL_areAnswers_232 : decode cL_areAnswers 232 = .ok (.iload 8, 2) := by decide +kernel
theorem dL_areAnswers_234 : decode cL_areAnswers 234 = .ok (.ifCond .ne 17, 3) := by decide +kernel
theorem dL_areAnswers_237 : decode cL_areAnswers 237 = .ok (.iload_n 2, 1) := by decide +kernel
theorem dL_areAnswers_238 : decode cL_areAnswers 238 = .ok (.iload_n 3, 1) := by decide +kernel
theorem dL_areAnswers_239 : decode cL_areAnswers 239 = .ok (.if_icmp .eq 8, 3) := by decide +kernel
theorem dL_areAnswers_242 : decode cL_areAnswers 242 = .ok (.iload 8, 2) := by decide +kernel
theorem dL_areAnswers_244 : decode cL_areAnswers 244 = .ok (.ifCond .eq 7, 3) := by decide +kernel
theorem dL_areAnswers_247 : decode cL_areAnswers 247 = .ok (.iconst 1, 1) := by decide +kernel
theorem dL_areAnswers_248 : decode cL_areAnswers 248 = .ok (.goto 4, 3) := by decide +kernel
theorem dL_areAnswers_251 : decode cL_areAnswers 251 = .ok (.iconst 0, 1) := by decide +kernel
theorem dL_areAnswers_252 : decode cL_areAnswers 252 = .ok (.istore 12, 2) := by decide +kernel
theorem dL_areAnswers_254 : decode cL_areAnswers 254 = .ok (.iload 12, 2) := by decide +kernel
theorem dL_areAnswers_256 : decode cL_areAnswers 256 = .ok (.ifCond .eq 146, 3) := by decide +kernel
theorem dL_areAnswers_259 : decode cL_areAnswers 259 = .ok (.iload 9, 2) := by decide +kernel
theorem dL_areAnswers_261 : decode cL_areAnswers 261 = .ok (.ifCond .lt 141, 3) := by decide +kernel
theorem dL_areAnswers_264 : decode cL_areAnswers 264 = .ok (.iload 9, 2) := by decide +kernel
theorem dL_areAnswers_266 : decode cL_areAnswers 266 = .ok (.iload 5, 2) := by decide +kernel
theorem dL_areAnswers_268 : decode cL_areAnswers 268 = .ok (.if_icmp .gt 134, 3) := by decide +kernel
theorem dL_areAnswers_271 : decode cL_areAnswers 271 = .ok (.aload_n 0, 1) := by decide +kernel
theorem dL_areAnswers_272 : decode cL_areAnswers 272 = .ok (.iload 4, 2) := by decide +kernel
theorem dL_areAnswers_274 : decode cL_areAnswers 274 = .ok (.i2c, 1) := by decide +kernel
theorem dL_areAnswers_275 : decode cL_areAnswers 275 = .ok (.iconst 0, 1) := by decide +kernel
theorem dL_areAnswers_276 : decode cL_areAnswers 276 = .ok (.invokevirtual 63, 3) := by decide +kernel
theorem dL_areAnswers_279 : decode cL_areAnswers 279 = .ok (.iconst 1, 1) := by decide +kernel
theorem dL_areAnswers_280 : decode cL_areAnswers 280 = .ok (.if_icmp .ne 7, 3) := by decide +kernel
theorem dL_areAnswers_283 : decode cL_areAnswers 283 = .ok (.iconst 1, 1) := by decide +kernel
theorem dL_areAnswers_284 : decode cL_areAnswers 284 = .ok (.goto 4, 3) := by decide +kernel
theorem dL_areAnswers_287 : decode cL_areAnswers 287 = .ok (.iconst 0, 1) := by decide +kernel
theorem dL_areAnswers_288 : decode cL_areAnswers 288 = .ok (.iload 9, 2) := by decide +kernel
theorem dL_areAnswers_290 : decode cL_areAnswers 290 = .ok (.iload 5, 2) := by decide +kernel
theorem dL_areAnswers_292 : decode cL_areAnswers 292 = .ok (.if_icmp .ne 7, 3) := by decide +kernel
theorem dL_areAnswers_295 : decode cL_areAnswers 295 = .ok (.iconst 1, 1) := by decide +kernel
theorem dL_areAnswers_296 : decode cL_areAnswers 296 = .ok (.goto 4, 3) := by decide +kernel
theorem dL_areAnswers_299 : decode cL_areAnswers 299 = .ok (.iconst 0, 1) := by decide +kernel
theorem dL_areAnswers_300 : decode cL_areAnswers 300 = .ok (.if_icmp .ne 102, 3) := by decide +kernel
theorem dL_areAnswers_303 : decode cL_areAnswers 303 = .ok (.aload_n 0, 1) := by decide +kernel
theorem dL_areAnswers_304 : decode cL_areAnswers 304 = .ok (.iload 4, 2) := by decide +kernel
theorem dL_areAnswers_306 : decode cL_areAnswers 306 = .ok (.i2c, 1) := by decide +kernel
theorem dL_areAnswers_307 : decode cL_areAnswers 307 = .ok (.iconst 1, 1) := by decide +kernel
theorem dL_areAnswers_308 : decode cL_areAnswers 308 = .ok (.invokevirtual 63, 3) := by decide +kernel
theorem dL_areAnswers_311 : decode cL_areAnswers 311 = .ok (.iconst 1, 1) := by decide +kernel
theorem dL_areAnswers_312 : decode cL_areAnswers 312 = .ok (.if_icmp .ne 7, 3) := by decide +kernel
theorem dL_areAnswers_315 : decode cL_areAnswers 315 = .ok (.iconst 1, 1) := by decide +kernel
theorem dL_areAnswers_316 : decode cL_areAnswers 316 = .ok (.goto 4, 3) := by decide +kernel
theorem dL_areAnswers_319 : decode cL_areAnswers 319 = .ok (.iconst 0, 1) := by decide +kernel
theorem dL_areAnswers_320 : decode cL_areAnswers 320 = .ok (.iload 9, 2) := by decide +kernel
theorem dL_areAnswers_322 : decode cL_areAnswers 322 = .ok (.ifCond .le 7, 3) := by decide +kernel
theorem dL_areAnswers_325 : decode cL_areAnswers 325 = .ok (.iconst 1, 1) := by decide +kernel
theorem dL_areAnswers_326 : decode cL_areAnswers 326 = .ok (.goto 4, 3) := by decide +kernel
theorem dL_areAnswers_329 : decode cL_areAnswers 329 = .ok (.iconst 0, 1) := by decide +kernel
theorem dL_areAnswers_330 : decode cL_areAnswers 330 = .ok (.if_icmp .ne 72, 3) := by decide +kernel
theorem dL_areAnswers_333 : decode cL_areAnswers 333 = .ok (.iload 10, 2) := by decide +kernel
theorem dL_areAnswers_335 : decode cL_areAnswers 335 = .ok (.iload 11, 2) := by decide +kernel
theorem dL_areAnswers_337 : decode cL_areAnswers 337 = .ok (.if_icmp .gt 65, 3) := by decide +kernel
theorem dL_areAnswers_340 : decode cL_areAnswers 340 = .ok (.iload 10, 2) := by decide +kernel
theorem dL_areAnswers_342 : decode cL_areAnswers 342 = .ok (.ifCond .le 7, 3) := by decide +kernel
theorem dL_areAnswers_345 : decode cL_areAnswers 345 = .ok (.iconst 1, 1) := by decide +kernel
theorem dL_areAnswers_346 : decode cL_areAnswers 346 = .ok (.goto 4, 3) := by decide +kernel
theorem dL_areAnswers_349 : decode cL_areAnswers 349 = .ok (.iconst 0, 1) := by decide +kernel
theorem dL_areAnswers_350 : decode cL_areAnswers 350 = .ok (.iload 9, 2) := by decide +kernel
theorem dL_areAnswers_352 : decode cL_areAnswers 352 = .ok (.iload 5, 2) := by decide +kernel
theorem dL_areAnswers_354 : decode cL_areAnswers 354 = .ok (.if_icmp .ne 7, 3) := by decide +kernel
theorem dL_areAnswers_357 : decode cL_areAnswers 357 = .ok (.iconst 1, 1) := by decide +kernel
theorem dL_areAnswers_358 : decode cL_areAnswers 358 = .ok (.goto 4, 3) := by decide +kernel
theorem dL_areAnswers_361 : decode cL_areAnswers 361 = .ok (.iconst 0, 1) := by decide +kernel
theorem dL_areAnswers_362 : decode cL_areAnswers 362 = .ok (.if_icmp .ne 40, 3) := by decide +kernel
theorem dL_areAnswers_365 : decode cL_areAnswers 365 = .ok (.iload 11, 2) := by decide +kernel
theorem dL_areAnswers_367 : decode cL_areAnswers 367 = .ok (.ifCond .le 7, 3) := by decide +kernel
theorem dL_areAnswers_370 : decode cL_areAnswers 370 = .ok (.iconst 1, 1) := by decide +kernel
theorem dL_areAnswers_371 : decode cL_areAnswers 371 = .ok (.goto 4, 3) := by decide +kernel
theorem dL_areAnswers_374 : decode cL_areAnswers 374 = .ok (.iconst 0, 1) := by decide +kernel
theorem dL_areAnswers_375 : decode cL_areAnswers 375 = .ok (.iload 9, 2) := by decide +kernel
theorem dL_areAnswers_377 : decode cL_areAnswers 377 = .ok (.ifCond .le 7, 3) := by decide +kernel
theorem dL_areAnswers_380 : decode cL_areAnswers 380 = .ok (.iconst 1, 1) := by decide +kernel
theorem dL_areAnswers_381 : decode cL_areAnswers 381 = .ok (.goto 4, 3) := by decide +kernel
theorem dL_areAnswers_384 : decode cL_areAnswers 384 = .ok (.iconst 0, 1) := by decide +kernel
theorem dL_areAnswers_385 : decode cL_areAnswers 385 = .ok (.if_icmp .ne 17, 3) := by decide +kernel
theorem dL_areAnswers_388 : decode cL_areAnswers 388 = .ok (.iload 11, 2) := by decide +kernel
theorem dL_areAnswers_390 : decode cL_areAnswers 390 = .ok (.aload_n 0, 1) := by decide +kernel
theorem dL_areAnswers_391 : decode cL_areAnswers 391 = .ok (.iconst 1, 1) := by decide +kernel
theorem dL_areAnswers_392 : decode cL_areAnswers 392 = .ok (.invokevirtual 9, 3) := by decide +kernel
theorem dL_areAnswers_395 : decode cL_areAnswers 395 = .ok (.if_icmp .gt 7, 3) := by decide +kernel
theorem dL_areAnswers_398 : decode cL_areAnswers 398 = .ok (.iconst 1, 1) := by decide +kernel
theorem dL_areAnswers_399 : decode cL_areAnswers 399 = .ok (.goto 4, 3) := by decide +kernel
theorem dL_areAnswers_402 : decode cL_areAnswers 402 = .ok (.iconst 0, 1) := by decide +kernel
theorem dL_areAnswers_403 : decode cL_areAnswers 403 = .ok (.istore 12, 2) := by decide +kernel
theorem dL_areAnswers_405 : decode cL_areAnswers 405 = .ok (.aload_n 0, 1) := by decide +kernel
theorem dL_areAnswers_406 : decode cL_areAnswers 406 = .ok (.iload_n 2, 1) := by decide +kernel
theorem dL_areAnswers_407 : decode cL_areAnswers 407 = .ok (.iload_n 3, 1) := by decide +kernel
theorem dL_areAnswers_408 : decode cL_areAnswers 408 = .ok (.iconst 1, 1) := by decide +kernel
theorem dL_areAnswers_409 : decode cL_areAnswers 409 = .ok (.invokevirtual 66, 3) := by decide +kernel
theorem dL_areAnswers_412 : decode cL_areAnswers 412 = .ok (.istore 13, 2) := by decide +kernel
theorem dL_areAnswers_414 : decode cL_areAnswers 414 = .ok (.aload_n 0, 1) := by decide +kernel
theorem dL_areAnswers_415 : decode cL_areAnswers 415 = .ok (.iload_n 2, 1) := by decide +kernel
theorem dL_areAnswers_416 : decode cL_areAnswers 416 = .ok (.iload_n 3, 1) := by decide +kernel
theorem dL_areAnswers_417 : decode cL_areAnswers 417 = .ok (.iconst 0, 1) := by decide +kernel
theorem dL_areAnswers_418 : decode cL_areAnswers 418 = .ok (.invokevirtual 66, 3) := by decide +kernel
theorem dL_areAnswers_421 : decode cL_areAnswers 421 = .ok (.istore 14, 2) := by decide +kernel
theorem dL_areAnswers_423 : decode cL_areAnswers 423 = .ok (.iload 13, 2) := by decide +kernel
theorem dL_areAnswers_425 : decode cL_areAnswers 425 = .ok (.bipush (-5), 2) := by decide +kernel
theorem dL_areAnswers_427 : decode cL_areAnswers 427 = .ok (.if_icmp .ne 21, 3) := by decide +kernel
theorem dL_areAnswers_430 : decode cL_areAnswers 430 = .ok (.iload 12, 2) := by decide +kernel
theorem dL_areAnswers_432 : decode cL_areAnswers 432 = .ok (.ifCond .eq 14, 3) := by decide +kernel
theorem dL_areAnswers_435 : decode cL_areAnswers 435 = .ok (.iload 14, 2) := by decide +kernel
theorem dL_areAnswers_437 : decode cL_areAnswers 437 = .ok (.iload 13, 2) := by decide +kernel
theorem dL_areAnswers_439 : decode cL_areAnswers 439 = .ok (.if_icmp .ne 7, 3) := by decide +kernel
theorem dL_areAnswers_442 : decode cL_areAnswers 442 = .ok (.iconst 1, 1) := by decide +kernel
theorem dL_areAnswers_443 : decode cL_areAnswers 443 = .ok (.goto 4, 3) := by decide +kernel
theorem dL_areAnswers_446 : decode cL_areAnswers 446 = .ok (.iconst 0, 1) := by decide +kernel
theorem dL_areAnswers_447 : decode cL_areAnswers 447 = .ok (.ireturn, 1) := by decide +kernel
theorem dL_areAnswers_448 : decode cL_areAnswers 448 = .ok (.iload 12, 2) := by decide +kernel
theorem dL_areAnswers_450 : decode cL_areAnswers 450 = .ok (.ifCond .eq 74, 3) := by decide +kernel
theorem dL_areAnswers_453 : decode cL_areAnswers 453 = .ok (.iload 6, 2) := by decide +kernel
theorem dL_areAnswers_455 : decode cL_areAnswers 455 = .ok (.iload 5, 2) := by decide +kernel
theorem dL_areAnswers_457 : decode cL_areAnswers 457 = .ok (.if_icmp .ge 67, 3) := by decide +kernel
theorem dL_areAnswers_460 : decode cL_areAnswers 460 = .ok (.iload 14, 2) := by decide +kernel
theorem dL_areAnswers_462 : decode cL_areAnswers 462 = .ok (.aload_n 0, 1) := by decide +kernel
theorem dL_areAnswers_463 : decode cL_areAnswers 463 = .ok (.iload 13, 2) := by decide +kernel
theorem dL_areAnswers_465 : decode cL_areAnswers 465 = .ok (.iconst 0, 1) := by decide +kernel
theorem dL_areAnswers_466 : decode cL_areAnswers 466 = .ok (.invokevirtual 32, 3) := by decide +kernel
theorem dL_areAnswers_469 : decode cL_areAnswers 469 = .ok (.if_icmp .ne 55, 3) := by decide +kernel
theorem dL_areAnswers_472 : decode cL_areAnswers 472 = .ok (.aload_n 0, 1) := by decide +kernel
theorem dL_areAnswers_473 : decode cL_areAnswers 473 = .ok (.iload 13, 2) := by decide +kernel
theorem dL_areAnswers_475 : decode cL_areAnswers 475 = .ok (.iconst 4, 1) := by decide +kernel
theorem dL_areAnswers_476 : decode cL_areAnswers 476 = .ok (.invokevirtual 32, 3) := by decide +kernel
theorem dL_areAnswers_479 : decode cL_areAnswers 479 = .ok (.iconst 1, 1) := by decide +kernel
theorem dL_areAnswers_480 : decode cL_areAnswers 480 = .ok (.if_icmp .ne 44, 3) := by decide +kernel
theorem dL_areAnswers_483 : decode cL_areAnswers 483 = .ok (.aload_n 0, 1) := by decide +kernel
theorem dL_areAnswers_484 : decode cL_areAnswers 484 = .ok (.iload 14, 2) := by decide +kernel
theorem dL_areAnswers_486 : decode cL_areAnswers 486 = .ok (.iconst 0, 1) := by decide +kernel
theorem dL_areAnswers_487 : decode cL_areAnswers 487 = .ok (.invokevirtual 38, 3) := by decide +kernel
theorem dL_areAnswers_490 : decode cL_areAnswers 490 = .ok (.iconst 1, 1) := by decide +kernel
theorem dL_areAnswers_491 : decode cL_areAnswers 491 = .ok (.if_icmp .le 33, 3) := by decide +kernel
theorem dL_areAnswers_494 : decode cL_areAnswers 494 = .ok (.aload_n 0, 1) := by decide +kernel
theorem dL_areAnswers_495 : decode cL_areAnswers 495 = .ok (.iload 13, 2) := by decide +kernel
theorem dL_areAnswers_497 : decode cL_areAnswers 497 = .ok (.invokevirtual 41, 3) := by decide +kernel
theorem dL_areAnswers_500 : decode cL_areAnswers 500 = .ok (.aload_n 1, 1) := by decide +kernel
theorem dL_areAnswers_501 : decode cL_areAnswers 501 = .ok (.iload 13, 2) := by decide +kernel
theorem dL_areAnswers_503 : decode cL_areAnswers 503 = .ok (.invokevirtual 41, 3) := by decide +kernel
theorem dL_areAnswers_506 : decode cL_areAnswers 506 = .ok (.if_icmp .ne 18, 3) := by decide +kernel
theorem dL_areAnswers_509 : decode cL_areAnswers 509 = .ok (.aload_n 0, 1) := by decide +kernel
theorem dL_areAnswers_510 : decode cL_areAnswers 510 = .ok (.iload_n 2, 1) := by decide +kernel
theorem dL_areAnswers_511 : decode cL_areAnswers 511 = .ok (.iload_n 3, 1) := by decide +kernel
theorem dL_areAnswers_512 : decode cL_areAnswers 512 = .ok (.iconst 0, 1) := by decide +kernel
theorem dL_areAnswers_513 : decode cL_areAnswers 513 = .ok (.invokevirtual 59, 3) := by decide +kernel
theorem dL_areAnswers_516 : decode cL_areAnswers 516 = .ok (.iconst 1, 1) := by decide +kernel
theorem dL_areAnswers_517 : decode cL_areAnswers 517 = .ok (.if_icmp .ne 7, 3) := by decide +kernel
theorem dL_areAnswers_520 : decode cL_areAnswers 520 = .ok (.iconst 1, 1) := by decide +kernel
theorem dL_areAnswers_521 : decode cL_areAnswers 521 = .ok (.goto 4, 3) := by decide +kernel
theorem dL_areAnswers_524 : decode cL_areAnswers 524 = .ok (.iconst 0, 1) := by decide +kernel
theorem dL_areAnswers_525 : decode cL_areAnswers 525 = .ok (.istore 12, 2) := by decide +kernel
theorem dL_areAnswers_527 : decode cL_areAnswers 527 = .ok (.iload 12, 2) := by decide +kernel
theorem dL_areAnswers_529 : decode cL_areAnswers 529 = .ok (.ifCond .eq 30, 3) := by decide +kernel
theorem dL_areAnswers_532 : decode cL_areAnswers 532 = .ok (.aload_n 0, 1) := by decide +kernel
theorem dL_areAnswers_533 : decode cL_areAnswers 533 = .ok (.invokevirtual 51, 3) := by decide +kernel
theorem dL_areAnswers_536 : decode cL_areAnswers 536 = .ok (.aload_n 1, 1) := by decide +kernel
theorem dL_areAnswers_537 : decode cL_areAnswers 537 = .ok (.invokevirtual 51, 3) := by decide +kernel
theorem dL_areAnswers_540 : decode cL_areAnswers 540 = .ok (.if_icmp .ne 19, 3) := by decide +kernel
theorem dL_areAnswers_543 : decode cL_areAnswers 543 = .ok (.aload_n 0, 1) := by decide +kernel
theorem dL_areAnswers_544 : decode cL_areAnswers 544 = .ok (.iload_n 2, 1) := by decide +kernel
theorem dL_areAnswers_545 : decode cL_areAnswers 545 = .ok (.iload_n 3, 1) := by decide +kernel
theorem dL_areAnswers_546 : decode cL_areAnswers 546 = .ok (.iconst 2, 1) := by decide +kernel
theorem dL_areAnswers_547 : decode cL_areAnswers 547 = .ok (.invokevirtual 59, 3) := by decide +kernel
theorem dL_areAnswers_550 : decode cL_areAnswers 550 = .ok (.iload 6, 2) := by decide +kernel
theorem dL_areAnswers_552 : decode cL_areAnswers 552 = .ok (.if_icmp .ne 7, 3) := by decide +kernel
theorem dL_areAnswers_555 : decode cL_areAnswers 555 = .ok (.iconst 1, 1) := by decide +kernel
theorem dL_areAnswers_556 : decode cL_areAnswers 556 = .ok (.goto 4, 3) := by decide +kernel
theorem dL_areAnswers_559 : decode cL_areAnswers 559 = .ok (.iconst 0, 1) := by decide +kernel
theorem dL_areAnswers_560 : decode cL_areAnswers 560 = .ok (.ireturn, 1) := by decide +kernel
set_option maxRecDepth 20000 in
theorem ggL_areAlike_X5_sum : GoodIn wsL_areAlike wsX5_sum := goodIn_r _ [5, 6, 7, 8, 4, 9, 10, 11, 12, 13, 14, 15, 16, 17, 18, 19, 20, 21, 22, 23, 24, 25, 26, 27, 28, 29, 30, 31, 32, 33, 34, 35, 36, 37, 38, 39, 40, 41, 42, 43, 44, 45, 46, 47, 48, 49, 50, 51, 52, 53, 54, 55, 56, 57, 58, 59, 60, 61, 62, 63, 64, 65, 66, 67, 68, 69, 70, 71, 72, 73, 74, 75, 76, 77, 78, 79, 80, 81, 82, 83, 84, 85, 86, 87, 88, 89, 90, 91, 92, 93, 94, 95, 96, 97, 98, 99, 100, 101, 102, 103, 104, 105, 106, 107, 301, 302, 303, 304, 305, 306, 307, 308, 309, 310, 311, 312, 313, 314, 315, 316, 317, 318, 319] (by decide +kernel) (by decide +kernel)
set_option maxRecDepth 20000 in
theorem gL_areAlike_X5_sum : GoodIn wsL_areAlike (wsV RL 69 RX5 yX5_sum wsX5_sum) := goodIn_app (goodIn_of _ (by decide +kernel)) ggL_areAlike_X5_sum
set_option maxRecDepth 20000 in
theorem ggL_areAlike_X5_count : GoodIn wsL_areAlike wsX5_count := goodIn_r _ [111, 112, 113, 114, 115, 26, 27, 28, 29, 30, 116, 117, 118, 119, 120, 121, 122, 123, 124, 125, 126, 127, 43, 44, 45, 46, 47, 41, 4, 42, 128, 129, 130, 131, 6, 7, 8, 9, 10, 11, 12, 13, 14, 15, 16, 17, 18, 19, 20, 21, 22, 23, 24, 25, 31, 32, 33, 34, 35, 36, 37, 38, 39, 40, 48, 49, 50, 51, 52, 53, 54, 55, 56, 57, 58, 59, 60, 61, 62, 63, 64, 65, 66, 67, 68, 69, 70, 71, 72, 73, 74, 75, 76, 77, 78, 132, 133, 134, 135, 136, 137, 138, 139, 140, 141, 142, 143, 144, 145, 146, 147, 148, 149, 150, 151, 152, 153, 154, 155, 91, 92, 93, 94, 156, 157, 158, 159, 160, 161, 162, 163, 164, 165, 166, 167, 168, 169, 170, 171, 172, 173, 174, 175, 176, 177, 178, 179, 180, 181, 182, 183, 184, 185, 186, 187, 188, 189, 190, 191, 192, 193, 194, 195, 196, 197, 198, 199, 200, 201, 202, 203, 204, 205, 206, 207, 208, 209, 210, 211, 212, 213, 214, 215, 216, 217, 218, 219, 220, 221, 222, 301, 302, 303, 304, 305, 306, 307, 314, 315, 316, 317, 318, 319, 308, 309, 310, 311, 312, 313, 320, 321, 322, 323, 324] (by decide +kernel) (by decide +kernel)
set_option maxRecDepth 20000 in
theorem gL_areAlike_X5_count : GoodIn wsL_areAlike (wsV RL 9 RX5 yX5_count wsX5_count) := goodIn_app (goodIn_of _ (by decide +kernel)) ggL_areAlike_X5_count
set_option maxRecDepth 20000 in
theorem ggL_areAlike_X5_row : GoodIn wsL_areAlike wsX5_row := goodIn_r _ [226, 112, 227, 228, 229, 28, 230, 30, 231, 44, 45, 46, 47, 41, 4, 42, 232, 157, 158, 159, 160, 233, 37, 38, 39, 40, 234, 69, 70, 71, 72, 235, 32, 33, 34, 35, 36, 43, 48, 49, 50, 51, 208, 209, 210, 6, 7, 8, 9, 10, 11, 12, 13, 14, 15, 16, 17, 18, 19, 20, 21, 22, 23, 24, 25, 26, 27, 29, 31, 52, 53, 54, 55, 56, 57, 58, 59, 60, 61, 62, 63, 64, 65, 66, 67, 68, 73, 74, 75, 76, 77, 78, 236, 141, 142, 143, 301, 302, 303, 304, 305, 306, 307, 314, 315, 316, 317, 318, 319, 308, 309, 310, 311, 312, 313] (by decide +kernel) (by decide +kernel)
set_option maxRecDepth 20000 in
theorem gL_areAlike_X5_row : GoodIn wsL_areAlike (wsV RL 32 RX5 yX5_row wsX5_row) := goodIn_app (goodIn_of _ (by decide +kernel)) ggL_areAlike_X5_row
set_option maxRecDepth 20000 in
theorem ggL_areAlike_L_there : GoodIn wsL_areAlike wsL_there := goodIn_r _ [240] (by decide +kernel) (by decide +kernel)
set_option maxRecDepth 20000 in
theorem gL_areAlike_L_there : GoodIn wsL_areAlike (va_wsS RL 29 yL_there wsL_there) := goodIn_app (goodIn_of _ (by decide +kernel)) ggL_areAlike_L_there
set_option maxRecDepth 20000 in
theorem ggL_areAlike_L_value : GoodIn wsL_areAlike wsL_value := goodIn_r _ [243] (by decide +kernel) (by decide +kernel)
set_option maxRecDepth 20000 in
theorem gL_areAlike_L_value : GoodIn wsL_areAlike (va_wsS RL 25 yL_value wsL_value) := goodIn_app (goodIn_of _ (by decide +kernel)) ggL_areAlike_L_value
set_option maxRecDepth 20000 in
theorem ggL_areAlike_X5_key : GoodIn wsL_areAlike wsX5_key := goodIn_r _ [247, 112, 248, 73, 4, 74, 249, 125, 126, 28, 127, 30, 43, 44, 45, 46, 47, 41, 42, 6, 7, 8, 9, 10, 11, 12, 13, 14, 15, 16, 17, 18, 19, 20, 21, 22, 23, 24, 25, 26, 27, 29, 31, 32, 33, 34, 35, 36, 37, 38, 39, 40, 48, 49, 50, 51, 52, 53, 54, 55, 56, 57, 58, 59, 60, 61, 62, 63, 64, 65, 66, 67, 68, 69, 70, 71, 72, 75, 76, 77, 78, 250, 251, 252, 253, 254, 255, 256, 257, 258, 259, 260, 301, 302, 303, 304, 305, 306, 307, 314, 315, 316, 317, 318, 319, 308, 309, 310, 311, 312, 313] (by decide +kernel) (by decide +kernel)
set_option maxRecDepth 20000 in
theorem gL_areAlike_X5_key : GoodIn wsL_areAlike (wsV RL 38 RX5 yX5_key wsX5_key) := goodIn_app (goodIn_of _ (by decide +kernel)) ggL_areAlike_X5_key
set_option maxRecDepth 20000 in
theorem ggL_areAlike_X5_value : GoodIn wsL_areAlike wsX5_value := goodIn_r _ [264, 265, 266, 4, 267, 6, 7, 8, 9, 10, 11, 12, 13, 14, 15, 16, 17, 18, 19, 20, 21, 22, 23, 24, 25, 26, 27, 28, 29, 30, 31, 32, 33, 34, 35, 36, 37, 38, 39, 40, 41, 42, 43, 44, 45, 46, 47, 48, 49, 50, 51, 52, 53, 54, 55, 56, 57, 58, 59, 60, 61, 62, 63, 64, 65, 66, 67, 68, 69, 70, 71, 72, 73, 74, 75, 76, 77, 78, 268, 149, 150, 151, 152, 153, 154, 155, 91, 92, 93, 94, 156, 157, 158, 159, 160, 208, 209, 210, 269, 166, 167, 168, 132, 133, 134, 135, 270, 271, 272, 273, 301, 302, 303, 304, 305, 306, 307, 308, 309, 310, 311, 312, 313, 314, 315, 316, 317, 318, 319] (by decide +kernel) (by decide +kernel)
set_option maxRecDepth 20000 in
theorem gL_areAlike_X5_value : GoodIn wsL_areAlike (wsV RL 63 RX5 yX5_value wsX5_value) := goodIn_app (goodIn_of _ (by decide +kernel)) ggL_areAlike_X5_value
set_option maxRecDepth 20000 in
theorem ggL_areAlike_X5_way : GoodIn wsL_areAlike wsX5_way := goodIn_r _ [277, 248, 73, 4, 74, 6, 7, 8, 9, 10, 11, 12, 13, 14, 15, 16, 17, 18, 19, 20, 21, 22, 23, 24, 25, 26, 27, 28, 29, 30, 31, 32, 33, 34, 35, 36, 37, 38, 39, 40, 41, 42, 43, 44, 45, 46, 47, 48, 49, 50, 51, 52, 53, 54, 55, 56, 57, 58, 59, 60, 61, 62, 63, 64, 65, 66, 67, 68, 69, 70, 71, 72, 75, 76, 77, 78, 278, 279, 280, 281, 173, 174, 175, 176, 177, 178, 179, 180, 181, 182, 183, 184, 282, 283, 284, 208, 209, 210, 285, 286, 287, 288, 200, 201, 202, 203, 289, 290, 291, 292, 293, 294, 295, 296, 100, 101, 102, 103, 91, 92, 93, 94, 297, 298, 299, 300, 301, 302, 303, 304, 305, 306, 307, 308, 309, 310, 311, 312, 313, 314, 315, 316, 317, 318, 319] (by decide +kernel) (by decide +kernel)
set_option maxRecDepth 20000 in
theorem gL_areAlike_X5_way : GoodIn wsL_areAlike (wsV RL 59 RX5 yX5_way wsX5_way) := goodIn_app (goodIn_of _ (by decide +kernel)) ggL_areAlike_X5_way
theorem dL_areAlike_0 : decode cL_areAlike 0 = .ok (.aload_n 0, 1) := by decide +kernel
theorem dL_areAlike_1 : decode cL_areAlike 1 = .ok (.iconst 0, 1) := by decide +kernel
theorem dL_areAlike_2 : decode cL_areAlike 2 = .ok (.invokevirtual 69, 3) := by decide +kernel
theorem dL_areAlike_5 : decode cL_areAlike 5 = .ok (.aload_n 1, 1) := by decide +kernel
theorem dL_areAlike_6 : decode cL_areAlike 6 = .ok (.iconst 0, 1) := by decide +kernel
theorem dL_areAlike_7 : decode cL_areAlike 7 = .ok (.invokevirtual 69, 3) := by decide +kernel
theorem dL_areAlike_10 : decode cL_areAlike 10 = .ok (.if_icmp .ne 20, 3) := by decide +kernel
theorem dL_areAlike_13 : decode cL_areAlike 13 = .ok (.aload_n 0, 1) := by decide +kernel
theorem dL_areAlike_14 : decode cL_areAlike 14 = .ok (.iconst 1, 1) := by decide +kernel
theorem dL_areAlike_15 : decode cL_areAlike 15 = .ok (.invokevirtual 69, 3) := by decide +kernel
theorem dL_areAlike_18 : decode cL_areAlike 18 = .ok (.aload_n 1, 1) := by decide +kernel
theorem dL_areAlike_19 : decode cL_areAlike 19 = .ok (.iconst 1, 1) := by decide +kernel
theorem dL_areAlike_20 : decode cL_areAlike 20 = .ok (.invokevirtual 69, 3) := by decide +kernel
theorem dL_areAlike_23 : decode cL_areAlike 23 = .ok (.if_icmp .ne 7, 3) := by decide +kernel
theorem dL_areAlike_26 : decode cL_areAlike 26 = .ok (.iconst 1, 1) := by decide +kernel
theorem dL_areAlike_27 : decode cL_areAlike 27 = .ok (.goto 4, 3) := by decide +kernel
theorem dL_areAlike_30 : decode cL_areAlike 30 = .ok (.iconst 0, 1) := by decide +kernel
theorem dL_areAlike_31 : decode cL_areAlike 31 = .ok (.istore_n 2, 1) := by decide +kernel
theorem dL_areAlike_32 : decode cL_areAlike 32 = .ok (.iconst 0, 1) := by decide +kernel
theorem dL_areAlike_33 : decode cL_areAlike 33 = .ok (.istore_n 3, 1) := by decide +kernel
theorem dL_areAlike_34 : decode cL_areAlike 34 = .ok (.iload_n 3, 1) := by decide +kernel
theorem dL_areAlike_35 : decode cL_areAlike 35 = .ok (.bipush 10, 2) := by decide +kernel
theorem dL_areAlike_37 : decode cL_areAlike 37 = .ok (.if_icmp .ge 32, 3) := by decide +kernel
theorem dL_areAlike_40 : decode cL_areAlike 40 = .ok (.iload_n 2, 1) := by decide +kernel
theorem dL_areAlike_41 : decode cL_areAlike 41 = .ok (.ifCond .eq 20, 3) := by decide +kernel
theorem dL_areAlike_44 : decode cL_areAlike 44 = .ok (.aload_n 0, 1) := by decide +kernel
theorem dL_areAlike_45 : decode cL_areAlike 45 = .ok (.iload_n 3, 1) := by decide +kernel
theorem dL_areAlike_46 : decode cL_areAlike 46 = .ok (.invokevirtual 9, 3) := by decide +kernel
theorem dL_areAlike_49 : decode cL_areAlike 49 = .ok (.aload_n 1, 1) := by decide +kernel
theorem dL_areAlike_50 : decode cL_areAlike 50 = .ok (.iload_n 3, 1) := by decide +kernel
theorem dL_areAlike_51 : decode cL_areAlike 51 = .ok (.invokevirtual 9, 3) := by decide +kernel
theorem dL_areAlike_54 : decode cL_areAlike 54 = .ok (.if_icmp .ne 7, 3) := by decide +kernel
theorem dL_areAlike_57 : decode cL_areAlike 57 = .ok (.iconst 1, 1) := by decide +kernel
theorem dL_areAlike_58 : decode cL_areAlike 58 = .ok (.goto 4, 3) := by decide +kernel
theorem dL_areAlike_61 : decode cL_areAlike 61 = .ok (.iconst 0, 1) := by decide +kernel
theorem dL_areAlike_62 : decode cL_areAlike 62 = .ok (.istore_n 2, 1) := by decide +kernel
theorem dL_areAlike_63 : decode cL_areAlike 63 = .ok (.iinc 3 1, 3) := by decide +kernel
theorem dL_areAlike_66 : decode cL_areAlike 66 = .ok (.goto (-32), 3) := by decide +kernel
theorem dL_areAlike_69 : decode cL_areAlike 69 = .ok (.iconst 0, 1) := by decide +kernel
theorem dL_areAlike_70 : decode cL_areAlike 70 = .ok (.istore_n 3, 1) := by decide +kernel
theorem dL_areAlike_71 : decode cL_areAlike 71 = .ok (.iload_n 3, 1) := by decide +kernel
theorem dL_areAlike_72 : decode cL_areAlike 72 = .ok (.aload_n 0, 1) := by decide +kernel
theorem dL_areAlike_73 : decode cL_areAlike 73 = .ok (.iconst 0, 1) := by decide +kernel
theorem dL_areAlike_74 : decode cL_areAlike 74 = .ok (.invokevirtual 9, 3) := by decide +kernel
theorem dL_areAlike_77 : decode cL_areAlike 77 = .ok (.if_icmp .ge 118, 3) := by decide +kernel
theorem dL_areAlike_80 : decode cL_areAlike 80 = .ok (.iload_n 2, 1) := by decide +kernel
theorem dL_areAlike_81 : decode cL_areAlike 81 = .ok (.ifCond .eq 114, 3) := by decide +kernel
theorem dL_areAlike_84 : decode cL_areAlike 84 = .ok (.aload_n 0, 1) := by decide +kernel
theorem dL_areAlike_85 : decode cL_areAlike 85 = .ok (.iload_n 3, 1) := by decide +kernel
theorem dL_areAlike_86 : decode cL_areAlike 86 = .ok (.iconst 0, 1) := by decide +kernel
theorem dL_areAlike_87 : decode cL_areAlike 87 = .ok (.invokevirtual 32, 3) := by decide +kernel
theorem dL_areAlike_90 : decode cL_areAlike 90 = .ok (.invokestatic 29, 3) := by decide +kernel
theorem dL_areAlike_93 : decode cL_areAlike 93 = .ok (.aload_n 1, 1) := by decide +kernel
theorem dL_areAlike_94 : decode cL_areAlike 94 = .ok (.iload_n 3, 1) := by decide +kernel
theorem dL_areAlike_95 : decode cL_areAlike 95 = .ok (.iconst 0, 1) := by decide +kernel
theorem dL_areAlike_96 : decode cL_areAlike 96 = .ok (.invokevirtual 32, 3) := by decide +kernel
theorem dL_areAlike_99 : decode cL_areAlike 99 = .ok (.if_icmp .ne 88, 3) := by decide +kernel
theorem dL_areAlike_102 : decode cL_areAlike 102 = .ok (.aload_n 0, 1) := by decide +kernel
theorem dL_areAlike_103 : decode cL_areAlike 103 = .ok (.iload_n 3, 1) := by decide +kernel
theorem dL_areAlike_104 : decode cL_areAlike 104 = .ok (.iconst 1, 1) := by decide +kernel
theorem dL_areAlike_105 : decode cL_areAlike 105 = .ok (.invokevirtual 32, 3) := by decide +kernel
theorem dL_areAlike_108 : decode cL_areAlike 108 = .ok (.invokestatic 25, 3) := by decide +kernel
theorem dL_areAlike_111 : decode cL_areAlike 111 = .ok (.aload_n 1, 1) := by decide +kernel
theorem dL_areAlike_112 : decode cL_areAlike 112 = .ok (.iload_n 3, 1) := by decide +kernel
theorem dL_areAlike_113 : decode cL_areAlike 113 = .ok (.iconst 1, 1) := by decide +kernel
theorem dL_areAlike_114 : decode cL_areAlike 114 = .ok (.invokevirtual 32, 3) := by decide +kernel
theorem dL_areAlike_117 : decode cL_areAlike 117 = .ok (.if_icmp .ne 70, 3) := by decide +kernel
theorem dL_areAlike_120 : decode cL_areAlike 120 = .ok (.aload_n 0, 1) := by decide +kernel
theorem dL_areAlike_121 : decode cL_areAlike 121 = .ok (.iload_n 3, 1) := by decide +kernel
theorem dL_areAlike_122 : decode cL_areAlike 122 = .ok (.iconst 2, 1) := by decide +kernel
theorem dL_areAlike_123 : decode cL_areAlike 123 = .ok (.invokevirtual 32, 3) := by decide +kernel
theorem dL_areAlike_126 : decode cL_areAlike 126 = .ok (.aload_n 1, 1) := by decide +kernel
theorem dL_areAlike_127 : decode cL_areAlike 127 = .ok (.iload_n 3, 1) := by decide +kernel
theorem dL_areAlike_128 : decode cL_areAlike 128 = .ok (.iconst 2, 1) := by decide +kernel
theorem dL_areAlike_129 : decode cL_areAlike 129 = .ok (.invokevirtual 32, 3) := by decide +kernel
theorem dL_areAlike_132 : decode cL_areAlike 132 = .ok (.if_icmp .ne 55, 3) := by decide +kernel
theorem dL_areAlike_135 : decode cL_areAlike 135 = .ok (.aload_n 0, 1) := by decide +kernel
theorem dL_areAlike_136 : decode cL_areAlike 136 = .ok (.iload_n 3, 1) := by decide +kernel
theorem dL_areAlike_137 : decode cL_areAlike 137 = .ok (.iconst 3, 1) := by decide +kernel
theorem dL_areAlike_138 : decode cL_areAlike 138 = .ok (.invokevirtual 32, 3) := by decide +kernel
theorem dL_areAlike_141 : decode cL_areAlike 141 = .ok (.invokestatic 29, 3) := by decide +kernel
theorem dL_areAlike_144 : decode cL_areAlike 144 = .ok (.aload_n 1, 1) := by decide +kernel
theorem dL_areAlike_145 : decode cL_areAlike 145 = .ok (.iload_n 3, 1) := by decide +kernel
theorem dL_areAlike_146 : decode cL_areAlike 146 = .ok (.iconst 3, 1) := by decide +kernel
theorem dL_areAlike_147 : decode cL_areAlike 147 = .ok (.invokevirtual 32, 3) := by decide +kernel
theorem dL_areAlike_150 : decode cL_areAlike 150 = .ok (.if_icmp .ne 37, 3) := by decide +kernel
theorem dL_areAlike_153 : decode cL_areAlike 153 = .ok (.aload_n 0, 1) := by decide +kernel
theorem dL_areAlike_154 : decode cL_areAlike 154 = .ok (.iload_n 3, 1) := by decide +kernel
theorem dL_areAlike_155 : decode cL_areAlike 155 = .ok (.iconst 4, 1) := by decide +kernel
theorem dL_areAlike_156 : decode cL_areAlike 156 = .ok (.invokevirtual 32, 3) := by decide +kernel
theorem dL_areAlike_159 : decode cL_areAlike 159 = .ok (.aload_n 1, 1) := by decide +kernel
theorem dL_areAlike_160 : decode cL_areAlike 160 = .ok (.iload_n 3, 1) := by decide +kernel
theorem dL_areAlike_161 : decode cL_areAlike 161 = .ok (.iconst 4, 1) := by decide +kernel
theorem dL_areAlike_162 : decode cL_areAlike 162 = .ok (.invokevirtual 32, 3) := by decide +kernel
theorem dL_areAlike_165 : decode cL_areAlike 165 = .ok (.if_icmp .ne 22, 3) := by decide +kernel
theorem dL_areAlike_168 : decode cL_areAlike 168 = .ok (.aload_n 0, 1) := by decide +kernel
theorem dL_areAlike_169 : decode cL_areAlike 169 = .ok (.iload_n 3, 1) := by decide +kernel
theorem dL_areAlike_170 : decode cL_areAlike 170 = .ok (.iconst 5, 1) := by decide +kernel
theorem dL_areAlike_171 : decode cL_areAlike 171 = .ok (.invokevirtual 32, 3) := by decide +kernel
theorem dL_areAlike_174 : decode cL_areAlike 174 = .ok (.aload_n 1, 1) := by decide +kernel
theorem dL_areAlike_175 : decode cL_areAlike 175 = .ok (.iload_n 3, 1) := by decide +kernel
theorem dL_areAlike_176 : decode cL_areAlike 176 = .ok (.iconst 5, 1) := by decide +kernel
theorem dL_areAlike_177 : decode cL_areAlike 177 = .ok (.invokevirtual 32, 3) := by decide +kernel
theorem dL_areAlike_180 : decode cL_areAlike 180 = .ok (.if_icmp .ne 7, 3) := by decide +kernel
theorem dL_areAlike_183 : decode cL_areAlike 183 = .ok (.iconst 1, 1) := by decide +kernel
theorem dL_areAlike_184 : decode cL_areAlike 184 = .ok (.goto 4, 3) := by decide +kernel
theorem dL_areAlike_187 : decode cL_areAlike 187 = .ok (.iconst 0, 1) := by decide +kernel
theorem dL_areAlike_188 : decode cL_areAlike 188 = .ok (.istore_n 2, 1) := by decide +kernel
theorem dL_areAlike_189 : decode cL_areAlike 189 = .ok (.iinc 3 1, 3) := by decide +kernel
theorem dL_areAlike_192 : decode cL_areAlike 192 = .ok (.goto (-121), 3) := by decide +kernel
theorem dL_areAlike_195 : decode cL_areAlike 195 = .ok (.iconst 0, 1) := by decide +kernel
theorem dL_areAlike_196 : decode cL_areAlike 196 = .ok (.istore_n 3, 1) := by decide +kernel
theorem dL_areAlike_197 : decode cL_areAlike 197 = .ok (.iload_n 3, 1) := by decide +kernel
theorem dL_areAlike_198 : decode cL_areAlike 198 = .ok (.bipush 10, 2) := by decide +kernel
theorem dL_areAlike_200 : decode cL_areAlike 200 = .ok (.if_icmp .ge 159, 3) := by decide +kernel
theorem dL_areAlike_203 : decode cL_areAlike 203 = .ok (.iload_n 2, 1) := by decide +kernel
theorem dL_areAlike_204 : decode cL_areAlike 204 = .ok (.ifCond .eq 155, 3) := by decide +kernel
theorem dL_areAlike_207 : decode cL_areAlike 207 = .ok (.iconst 0, 1) := by decide +kernel
theorem dL_areAlike_208 : decode cL_areAlike 208 = .ok (.istore 4, 2) := by decide +kernel
theorem dL_areAlike_210 : decode cL_areAlike 210 = .ok (.iload 4, 2) := by decide +kernel
theorem dL_areAlike_212 : decode cL_areAlike 212 = .ok (.iconst 5, 1) := by decide +kernel
theorem dL_areAlike_213 : decode cL_areAlike 213 = .ok (.if_icmp .ge 72, 3) := by decide +kernel
theorem dL_areAlike_216 : decode cL_areAlike 216 = .ok (.iload_n 2, 1) := by decide +kernel
theorem dL_areAlike_217 : decode cL_areAlike 217 = .ok (.ifCond .eq 60, 3) := by decide +kernel
theorem dL_areAlike_220 : decode cL_areAlike 220 = .ok (.aload_n 0, 1) := by decide +kernel
theorem dL_areAlike_221 : decode cL_areAlike 221 = .ok (.iload_n 3, 1) := by decide +kernel
theorem dL_areAlike_222 : decode cL_areAlike 222 = .ok (.iload 4, 2) := by decide +kernel
theorem dL_areAlike_224 : decode cL_areAlike 224 = .ok (.invokevirtual 38, 3) := by decide +kernel
theorem dL_areAlike_227 : decode cL_areAlike 227 = .ok (.aload_n 1, 1) := by decide +kernel
theorem dL_areAlike_228 : decode cL_areAlike 228 = .ok (.bipush 9, 2) := by decide +kernel
theorem dL_areAlike_230 : decode cL_areAlike 230 = .ok (.iload_n 3, 1) := by decide +kernel
theorem dL_areAlike_231 : decode cL_areAlike 231 = .ok (.isub, 1) := by decide +kernel
theorem dL_areAlike_232 : decode cL_areAlike 232 = .ok (.iload 4, 2) := by decide +kernel
theorem dL_areAlike_234 : decode cL_areAlike 234 = .ok (.invokevirtual 38, 3) := by decide +kernel
theorem dL_areAlike_237 : decode cL_areAlike 237 = .ok (.if_icmp .ne 40, 3) := by decide +kernel
theorem dL_areAlike_240 : decode cL_areAlike 240 = .ok (.iload_n 3, 1) := by decide +kernel
theorem dL_areAlike_241 : decode cL_areAlike 241 = .ok (.bipush 7, 2) := by decide +kernel
theorem dL_areAlike_243 : decode cL_areAlike 243 = .ok (.if_icmp .gt 30, 3) := by decide +kernel
theorem dL_areAlike_246 : decode cL_areAlike 246 = .ok (.aload_n 0, 1) := by decide +kernel
theorem dL_areAlike_247 : decode cL_areAlike 247 = .ok (.bipush 97, 2) := by decide +kernel
theorem dL_areAlike_249 : decode cL_areAlike 249 = .ok (.iload_n 3, 1) := by decide +kernel
theorem dL_areAlike_250 : decode cL_areAlike 250 = .ok (.iadd, 1) := by decide +kernel
theorem dL_areAlike_251 : decode cL_areAlike 251 = .ok (.i2c, 1) := by decide +kernel
theorem dL_areAlike_252 : decode cL_areAlike 252 = .ok (.iload 4, 2) := by decide +kernel
theorem dL_areAlike_254 : decode cL_areAlike 254 = .ok (.invokevirtual 63, 3) := by decide +kernel
theorem dL_areAlike_257 : decode cL_areAlike 257 = .ok (.aload_n 1, 1) := by decide +kernel
theorem dL_areAlike_258 : decode cL_areAlike 258 = .ok (.bipush 97, 2) := by decide +kernel
theorem dL_areAlike_260 : decode cL_areAlike 260 = .ok (.iload_n 3, 1) := by decide +kernel
theorem dL_areAlike_261 : decode cL_areAlike 261 = .ok (.iadd, 1) := by decide +kernel
theorem dL_areAlike_262 : decode cL_areAlike 262 = .ok (.invokestatic 25, 3) := by decide +kernel
theorem dL_areAlike_265 : decode cL_areAlike 265 = .ok (.iload 4, 2) := by decide +kernel
theorem dL_areAlike_267 : decode cL_areAlike 267 = .ok (.invokevirtual 63, 3) := by decide +kernel
theorem dL_areAlike_270 : decode cL_areAlike 270 = .ok (.if_icmp .ne 7, 3) := by decide +kernel
theorem dL_areAlike_273 : decode cL_areAlike 273 = .ok (.iconst 1, 1) := by decide +kernel
theorem dL_areAlike_274 : decode cL_areAlike 274 = .ok (.goto 4, 3) := by decide +kernel
theorem dL_areAlike_277 : decode cL_areAlike 277 = .ok (.iconst 0, 1) := by decide +kernel
theorem dL_areAlike_278 : decode cL_areAlike 278 = .ok (.istore_n 2, 1) := by decide +kernel
theorem dL_areAlike_279 : decode cL_areAlike 279 = .ok (.iinc 4 1, 3) := by decide +kernel
theorem dL_areAlike_282 : decode cL_areAlike 282 = .ok (.goto (-72), 3) := by decide +kernel
theorem dL_areAlike_285 : decode cL_areAlike 285 = .ok (.iconst 3, 1) := by decide +kernel
theorem dL_areAlike_286 : decode cL_areAlike 286 = .ok (.iload_n 3, 1) := by decide +kernel
theorem dL_areAlike_287 : decode cL_areAlike 287 = .ok (.imul, 1) := by decide +kernel
theorem dL_areAlike_288 : decode cL_areAlike 288 = .ok (.iconst 1, 1) := by decide +kernel
theorem dL_areAlike_289 : decode cL_areAlike 289 = .ok (.iadd, 1) := by decide +kernel
theorem dL_areAlike_290 : decode cL_areAlike 290 = .ok (.bipush 10, 2) := by decide +kernel
theorem dL_areAlike_292 : decode cL_areAlike 292 = .ok (.irem, 1) := by decide +kernel
theorem dL_areAlike_293 : decode cL_areAlike 293 = .ok (.istore 4, 2) := by decide +kernel
theorem dL_areAlike_295 : decode cL_areAlike 295 = .ok (.iconst 0, 1) := by decide +kernel
theorem dL_areAlike_296 : decode cL_areAlike 296 = .ok (.istore 5, 2) := by decide +kernel
theorem dL_areAlike_298 : decode cL_areAlike 298 = .ok (.iload 5, 2) := by decide +kernel
theorem dL_areAlike_300 : decode cL_areAlike 300 = .ok (.iconst 5, 1) := by decide +kernel
theorem dL_areAlike_301 : decode cL_areAlike 301 = .ok (.if_icmp .ge 52, 3) := by decide +kernel
theorem dL_areAlike_304 : decode cL_areAlike 304 = .ok (.iload_n 2, 1) := by decide +kernel
theorem dL_areAlike_305 : decode cL_areAlike 305 = .ok (.ifCond .eq 40, 3) := by decide +kernel
theorem dL_areAlike_308 : decode cL_areAlike 308 = .ok (.iload 5, 2) := by decide +kernel
theorem dL_areAlike_310 : decode cL_areAlike 310 = .ok (.iconst 3, 1) := by decide +kernel
theorem dL_areAlike_311 : decode cL_areAlike 311 = .ok (.if_icmp .eq 30, 3) := by decide +kernel
theorem dL_areAlike_314 : decode cL_areAlike 314 = .ok (.aload_n 0, 1) := by decide +kernel
theorem dL_areAlike_315 : decode cL_areAlike 315 = .ok (.iload_n 3, 1) := by decide +kernel
theorem dL_areAlike_316 : decode cL_areAlike 316 = .ok (.iload 4, 2) := by decide +kernel
theorem dL_areAlike_318 : decode cL_areAlike 318 = .ok (.iload 5, 2) := by decide +kernel
theorem dL_areAlike_320 : decode cL_areAlike 320 = .ok (.invokevirtual 59, 3) := by decide +kernel
theorem dL_areAlike_323 : decode cL_areAlike 323 = .ok (.aload_n 1, 1) := by decide +kernel
theorem dL_areAlike_324 : decode cL_areAlike 324 = .ok (.bipush 9, 2) := by decide +kernel
theorem dL_areAlike_326 : decode cL_areAlike 326 = .ok (.iload_n 3, 1) := by decide +kernel
theorem dL_areAlike_327 : decode cL_areAlike 327 = .ok (.isub, 1) := by decide +kernel
theorem dL_areAlike_328 : decode cL_areAlike 328 = .ok (.bipush 9, 2) := by decide +kernel
theorem dL_areAlike_330 : decode cL_areAlike 330 = .ok (.iload 4, 2) := by decide +kernel
theorem dL_areAlike_332 : decode cL_areAlike 332 = .ok (.isub, 1) := by decide +kernel
theorem dL_areAlike_333 : decode cL_areAlike 333 = .ok (.iload 5, 2) := by decide +kernel
theorem dL_areAlike_335 : decode cL_areAlike 335 = .ok (.invokevirtual 59, 3) := by decide +kernel
theorem dL_areAlike_338 : decode cL_areAlike 338 = .ok (.if_icmp .ne 7, 3) := by decide +kernel
theorem dL_areAlike_341 : decode cL_areAlike 341 = .ok (.iconst 1, 1) := by decide +kernel
theorem dL_areAlike_342 : decode cL_areAlike 342 = .ok (.goto 4, 3) := by decide +kernel
theorem dL_areAlike_345 : decode cL_areAlike 345 = .ok (.iconst 0, 1) := by decide +kernel
theorem dL_areAlike_346 : decode cL_areAlike 346 = .ok (.istore_n 2, 1) := by decide +kernel
theorem dL_areAlike_347 : decode cL_areAlike 347 = .ok (.iinc 5 1, 3) := by decide +kernel
theorem dL_areAlike_350 : decode cL_areAlike 350 = .ok (.goto (-52), 3) := by decide +kernel
theorem dL_areAlike_353 : decode cL_areAlike 353 = .ok (.iinc 3 1, 3) := by decide +kernel
theorem dL_areAlike_356 : decode cL_areAlike 356 = .ok (.goto (-159), 3) := by decide +kernel
theorem dL_areAlike_359 : decode cL_areAlike 359 = .ok (.iload_n 2, 1) := by decide +kernel
theorem dL_areAlike_360 : decode cL_areAlike 360 = .ok (.ireturn, 1) := by decide +kernel
set_option maxRecDepth 20000 in
theorem ggL_isWell_X5_count : GoodIn wsL_isWell wsX5_count := goodIn_r _ [6, 7, 8, 9, 10, 11, 12, 13, 14, 15, 16, 17, 18, 19, 20, 21, 22, 23, 24, 25, 26, 27, 28, 29, 30, 31, 32, 33, 5, 34, 35, 36, 37, 38, 39, 40, 41, 42, 43, 44, 45, 46, 47, 48, 49, 50, 51, 52, 53, 54, 55, 56, 57, 58, 59, 60, 61, 62, 63, 64, 65, 66, 67, 68, 69, 70, 71, 72, 73, 74, 75, 76, 77, 78, 79, 80, 81, 82, 83, 84, 85, 86, 87, 88, 89, 90, 91, 92, 93, 94, 95, 96, 97, 98, 99, 100, 101, 102, 103, 104, 105, 106, 107, 108, 109, 110, 111, 112, 113, 114, 115, 116, 117, 118, 119, 120, 121, 122, 123, 124, 125, 126, 127, 128, 129, 130, 131, 132, 133, 134, 135, 136, 137, 138, 139, 140, 141, 142, 143, 144, 145, 146, 147, 148, 149, 150, 151, 152, 153, 154, 155, 156, 157, 158, 159, 160, 161, 162, 163, 164, 165, 166, 167, 168, 169, 170, 171, 172, 173, 174, 175, 176, 177, 178, 179, 180, 181, 182, 183, 184, 185, 186, 187, 188, 189, 190, 191, 192, 193, 194, 260, 261, 262, 263, 264, 265, 266, 267, 268, 269, 270, 271, 272, 273, 274, 275, 276, 277, 278, 279, 280, 281, 282, 283] (by decide +kernel) (by decide +kernel)
set_option maxRecDepth 20000 in
theorem gL_isWell_X5_count : GoodIn wsL_isWell (wsV RL 9 RX5 yX5_count wsX5_count) := goodIn_app (goodIn_of _ (by decide +kernel)) ggL_isWell_X5_count
set_option maxRecDepth 20000 in
theorem ggL_isWell_X5_sum : GoodIn wsL_isWell wsX5_sum := goodIn_r _ [198, 39, 40, 41, 5, 42, 43, 44, 45, 46, 47, 48, 49, 50, 51, 52, 53, 54, 55, 56, 57, 58, 11, 12, 13, 14, 15, 59, 60, 61, 62, 63, 64, 65, 66, 67, 68, 33, 34, 28, 29, 30, 31, 32, 69, 70, 71, 72, 73, 74, 75, 76, 77, 78, 79, 80, 81, 82, 83, 84, 85, 86, 87, 88, 89, 90, 91, 92, 93, 94, 95, 96, 97, 98, 99, 199, 200, 201, 202, 203, 204, 205, 206, 207, 208, 209, 210, 124, 125, 126, 127, 211, 212, 213, 214, 215, 216, 217, 218, 219, 220, 221, 222, 223, 260, 261, 262, 263, 264, 265, 266, 273, 274, 275, 276, 277, 278, 267, 268, 269, 270, 271, 272] (by decide +kernel) (by decide +kernel)
set_option maxRecDepth 20000 in
theorem gL_isWell_X5_sum : GoodIn wsL_isWell (wsV RL 69 RX5 yX5_sum wsX5_sum) := goodIn_app (goodIn_of _ (by decide +kernel)) ggL_isWell_X5_sum
set_option maxRecDepth 20000 in
theorem ggL_isWell_X5_kept : GoodIn wsL_isWell wsX5_kept := goodIn_r _ [227, 228, 94, 5, 95, 39, 40, 41, 42, 43, 44, 45, 46, 47, 48, 49, 50, 51, 52, 53, 54, 55, 56, 57, 58, 11, 12, 13, 14, 15, 59, 60, 61, 62, 63, 64, 65, 66, 67, 68, 33, 34, 28, 29, 30, 31, 32, 69, 70, 71, 72, 73, 74, 75, 76, 77, 78, 79, 80, 81, 82, 83, 84, 85, 86, 87, 88, 89, 90, 91, 92, 93, 96, 97, 98, 99, 100, 101, 102, 103, 229, 217, 218, 219, 124, 125, 126, 127, 260, 261, 262, 263, 264, 265, 266, 273, 274, 275, 276, 277, 278, 267, 268, 269, 270, 271, 272] (by decide +kernel) (by decide +kernel)
set_option maxRecDepth 20000 in
theorem gL_isWell_X5_kept : GoodIn wsL_isWell (wsV RL 72 RX5 yX5_kept wsX5_kept) := goodIn_app (goodIn_of _ (by decide +kernel)) ggL_isWell_X5_kept
set_option maxRecDepth 20000 in
theorem ggL_isWell_X5_key : GoodIn wsL_isWell wsX5_key := goodIn_r _ [233, 7, 228, 94, 5, 95, 234, 25, 26, 13, 27, 15, 28, 29, 30, 31, 32, 33, 34, 39, 40, 41, 42, 43, 44, 45, 46, 47, 48, 49, 50, 51, 52, 53, 54, 55, 56, 57, 58, 11, 12, 14, 59, 60, 61, 62, 63, 64, 65, 66, 67, 68, 69, 70, 71, 72, 73, 74, 75, 76, 77, 78, 79, 80, 81, 82, 83, 84, 85, 86, 87, 88, 89, 90, 91, 92, 93, 96, 97, 98, 99, 235, 236, 237, 238, 239, 240, 241, 242, 243, 244, 245, 260, 261, 262, 263, 264, 265, 266, 267, 268, 269, 270, 271, 272, 273, 274, 275, 276, 277, 278] (by decide +kernel) (by decide +kernel)
set_option maxRecDepth 20000 in
theorem gL_isWell_X5_key : GoodIn wsL_isWell (wsV RL 38 RX5 yX5_key wsX5_key) := goodIn_app (goodIn_of _ (by decide +kernel)) ggL_isWell_X5_key
set_option maxRecDepth 20000 in
theorem ggL_isWell_X5_row : GoodIn wsL_isWell wsX5_row := goodIn_r _ [249, 7, 250, 251, 252, 13, 253, 15, 254, 29, 30, 31, 32, 33, 5, 34, 255, 129, 130, 131, 132, 256, 65, 66, 67, 68, 257, 90, 91, 92, 93, 258, 60, 61, 62, 63, 64, 28, 69, 70, 71, 72, 180, 181, 182, 39, 40, 41, 42, 43, 44, 45, 46, 47, 48, 49, 50, 51, 52, 53, 54, 55, 56, 57, 58, 11, 12, 14, 59, 73, 74, 75, 76, 77, 78, 79, 80, 81, 82, 83, 84, 85, 86, 87, 88, 89, 94, 95, 96, 97, 98, 99, 259, 109, 110, 111, 260, 261, 262, 263, 264, 265, 266, 267, 268, 269, 270, 271, 272, 273, 274, 275, 276, 277, 278] (by decide +kernel) (by decide +kernel)
set_option maxRecDepth 20000 in
theorem gL_isWell_X5_row : GoodIn wsL_isWell (wsV RL 32 RX5 yX5_row wsX5_row) := goodIn_app (goodIn_of _ (by decide +kernel)) ggL_isWell_X5_row
theorem dL_isWell_0 : decode cL_isWell 0 = .ok (.aload_n 0, 1) := by decide +kernel
theorem dL_isWell_1 : decode cL_isWell 1 = .ok (.iconst 3, 1) := by decide +kernel
theorem dL_isWell_2 : decode cL_isWell 2 = .ok (.invokevirtual 9, 3) := by decide +kernel
theorem dL_isWell_5 : decode cL_isWell 5 = .ok (.istore_n 1, 1) := by decide +kernel
theorem dL_isWell_6 : decode cL_isWell 6 = .ok (.iload_n 1, 1) := by decide +kernel
theorem dL_isWell_7 : decode cL_isWell 7 = .ok (.sipush 200, 3) := by decide +kernel
theorem dL_isWell_10 : decode cL_isWell 10 = .ok (.if_icmp .le 5, 3) := by decide +kernel
theorem dL_isWell_13 : decode cL_isWell 13 = .ok (.iconst 1, 1) := by decide +kernel
theorem dL_isWell_14 : decode cL_isWell 14 = .ok (.ireturn, 1) := by decide +kernel
theorem dL_isWell_15 : decode cL_isWell 15 = .ok (.aload_n 0, 1) := by decide +kernel
theorem dL_isWell_16 : decode cL_isWell 16 = .ok (.iconst 0, 1) := by decide +kernel
theorem dL_isWell_17 : decode cL_isWell 17 = .ok (.invokevirtual 9, 3) := by decide +kernel
theorem dL_isWell_20 : decode cL_isWell 20 = .ok (.istore_n 2, 1) := by decide +kernel
theorem dL_isWell_21 : decode cL_isWell 21 = .ok (.bipush 20, 2) := by decide +kernel
theorem dL_isWell_23 : decode cL_isWell 23 = .ok (.newarray .int, 2) := by decide +kernel
theorem dL_isWell_25 : decode cL_isWell 25 = .ok (.astore_n 3, 1) := by decide +kernel
theorem dL_isWell_26 : decode cL_isWell 26 = .ok (.iconst 1, 1) := by decide +kernel
theorem dL_isWell_27 : decode cL_isWell 27 = .ok (.istore 4, 2) := by decide +kernel
theorem dL_isWell_29 : decode cL_isWell 29 = .ok (.iconst 0, 1) := by decide +kernel
theorem dL_isWell_30 : decode cL_isWell 30 = .ok (.istore 5, 2) := by decide +kernel
theorem dL_isWell_32 : decode cL_isWell 32 = .ok (.iconst 0, 1) := by decide +kernel
theorem dL_isWell_33 : decode cL_isWell 33 = .ok (.istore 6, 2) := by decide +kernel
theorem dL_isWell_35 : decode cL_isWell 35 = .ok (.iconst 0, 1) := by decide +kernel
theorem dL_isWell_36 : decode cL_isWell 36 = .ok (.istore 7, 2) := by decide +kernel
theorem dL_isWell_38 : decode cL_isWell 38 = .ok (.aload_n 0, 1) := by decide +kernel
theorem dL_isWell_39 : decode cL_isWell 39 = .ok (.iconst 0, 1) := by decide +kernel
theorem dL_isWell_40 : decode cL_isWell 40 = .ok (.invokevirtual 69, 3) := by decide +kernel
theorem dL_isWell_43 : decode cL_isWell 43 = .ok (.istore 8, 2) := by decide +kernel
theorem dL_isWell_45 : decode cL_isWell 45 = .ok (.aload_n 0, 1) := by decide +kernel
theorem dL_isWell_46 : decode cL_isWell 46 = .ok (.iconst 1, 1) := by decide +kernel
theorem dL_isWell_47 : decode cL_isWell 47 = .ok (.invokevirtual 69, 3) := by decide +kernel
theorem dL_isWell_50 : decode cL_isWell 50 = .ok (.istore 9, 2) := by decide +kernel
theorem dL_isWell_52 : decode cL_isWell 52 = .ok (.aload_n 0, 1) := by decide +kernel
theorem dL_isWell_53 : decode cL_isWell 53 = .ok (.iconst 2, 1) := by decide +kernel
theorem dL_isWell_54 : decode cL_isWell 54 = .ok (.invokevirtual 69, 3) := by decide +kernel
theorem dL_isWell_57 : decode cL_isWell 57 = .ok (.istore 10, 2) := by decide +kernel
theorem dL_isWell_59 : decode cL_isWell 59 = .ok (.aload_n 0, 1) := by decide +kernel
theorem dL_isWell_60 : decode cL_isWell 60 = .ok (.iconst 3, 1) := by decide +kernel
theorem dL_isWell_61 : decode cL_isWell 61 = .ok (.invokevirtual 69, 3) := by decide +kernel
theorem dL_isWell_64 : decode cL_isWell 64 = .ok (.istore 11, 2) := by decide +kernel
theorem dL_isWell_66 : decode cL_isWell 66 = .ok (.iconst 1, 1) := by decide +kernel
theorem dL_isWell_67 : decode cL_isWell 67 = .ok (.istore 12, 2) := by decide +kernel
theorem dL_isWell_69 : decode cL_isWell 69 = .ok (.iconst 0, 1) := by decide +kernel
theorem dL_isWell_70 : decode cL_isWell 70 = .ok (.istore 13, 2) := by decide +kernel
theorem dL_isWell_72 : decode cL_isWell 72 = .ok (.iload 13, 2) := by decide +kernel
theorem dL_isWell_74 : decode cL_isWell 74 = .ok (.iload_n 1, 1) := by decide +kernel
theorem dL_isWell_75 : decode cL_isWell 75 = .ok (.if_icmp .ge 254, 3) := by decide +kernel
theorem dL_isWell_78 : decode cL_isWell 78 = .ok (.iload 12, 2) := by decide +kernel
theorem dL_isWell_80 : decode cL_isWell 80 = .ok (.ifCond .eq 249, 3) := by decide +kernel
theorem dL_isWell_83 : decode cL_isWell 83 = .ok (.iconst 0, 1) := by decide +kernel
theorem dL_isWell_84 : decode cL_isWell 84 = .ok (.istore 14, 2) := by decide +kernel
theorem dL_isWell_86 : decode cL_isWell 86 = .ok (.iconst 0, 1) := by decide +kernel
theorem dL_isWell_87 : decode cL_isWell 87 = .ok (.istore 15, 2) := by decide +kernel
theorem dL_isWell_89 : decode cL_isWell 89 = .ok (.iload 15, 2) := by decide +kernel
theorem dL_isWell_91 : decode cL_isWell 91 = .ok (.bipush 10, 2) := by decide +kernel
theorem dL_isWell_93 : decode cL_isWell 93 = .ok (.if_icmp .ge 136, 3) := by decide +kernel
theorem dL_isWell_96 : decode cL_isWell 96 = .ok (.iload 12, 2) := by decide +kernel
theorem dL_isWell_98 : decode cL_isWell 98 = .ok (.ifCond .eq 131, 3) := by decide +kernel
theorem dL_isWell_101 : decode cL_isWell 101 = .ok (.aload_n 0, 1) := by decide +kernel
theorem dL_isWell_102 : decode cL_isWell 102 = .ok (.iload 13, 2) := by decide +kernel
theorem dL_isWell_104 : decode cL_isWell 104 = .ok (.iload 15, 2) := by decide +kernel
theorem dL_isWell_106 : decode cL_isWell 106 = .ok (.invokevirtual 72, 3) := by decide +kernel
theorem dL_isWell_109 : decode cL_isWell 109 = .ok (.istore 16, 2) := by decide +kernel
theorem dL_isWell_111 : decode cL_isWell 111 = .ok (.iload 16, 2) := by decide +kernel
theorem dL_isWell_113 : decode cL_isWell 113 = .ok (.bipush (-5), 2) := by decide +kernel
theorem dL_isWell_115 : decode cL_isWell 115 = .ok (.if_icmp .ne 7, 3) := by decide +kernel
theorem dL_isWell_118 : decode cL_isWell 118 = .ok (.iconst 1, 1) := by decide +kernel
theorem dL_isWell_119 : decode cL_isWell 119 = .ok (.goto 4, 3) := by decide +kernel
theorem dL_isWell_122 : decode cL_isWell 122 = .ok (.iconst 0, 1) := by decide +kernel
theorem dL_isWell_123 : decode cL_isWell 123 = .ok (.aload_n 0, 1) := by decide +kernel
theorem dL_isWell_124 : decode cL_isWell 124 = .ok (.iload 15, 2) := by decide +kernel
theorem dL_isWell_126 : decode cL_isWell 126 = .ok (.iconst 0, 1) := by decide +kernel
theorem dL_isWell_127 : decode cL_isWell 127 = .ok (.invokevirtual 38, 3) := by decide +kernel
theorem dL_isWell_130 : decode cL_isWell 130 = .ok (.ifCond .ne 7, 3) := by decide +kernel
theorem dL_isWell_133 : decode cL_isWell 133 = .ok (.iconst 1, 1) := by decide +kernel
theorem dL_isWell_134 : decode cL_isWell 134 = .ok (.goto 4, 3) := by decide +kernel
theorem dL_isWell_137 : decode cL_isWell 137 = .ok (.iconst 0, 1) := by decide +kernel
theorem dL_isWell_138 : decode cL_isWell 138 = .ok (.if_icmp .ne 35, 3) := by decide +kernel
theorem dL_isWell_141 : decode cL_isWell 141 = .ok (.iload 16, 2) := by decide +kernel
theorem dL_isWell_143 : decode cL_isWell 143 = .ok (.ifCond .lt 26, 3) := by decide +kernel
theorem dL_isWell_146 : decode cL_isWell 146 = .ok (.aload_n 0, 1) := by decide +kernel
theorem dL_isWell_147 : decode cL_isWell 147 = .ok (.iload 16, 2) := by decide +kernel
theorem dL_isWell_149 : decode cL_isWell 149 = .ok (.iconst 0, 1) := by decide +kernel
theorem dL_isWell_150 : decode cL_isWell 150 = .ok (.invokevirtual 32, 3) := by decide +kernel
theorem dL_isWell_153 : decode cL_isWell 153 = .ok (.iload 15, 2) := by decide +kernel
theorem dL_isWell_155 : decode cL_isWell 155 = .ok (.if_icmp .ne 18, 3) := by decide +kernel
theorem dL_isWell_158 : decode cL_isWell 158 = .ok (.aload_n 0, 1) := by decide +kernel
theorem dL_isWell_159 : decode cL_isWell 159 = .ok (.iload 16, 2) := by decide +kernel
theorem dL_isWell_161 : decode cL_isWell 161 = .ok (.iconst 4, 1) := by decide +kernel
theorem dL_isWell_162 : decode cL_isWell 162 = .ok (.invokevirtual 32, 3) := by decide +kernel
theorem dL_isWell_165 : decode cL_isWell 165 = .ok (.iconst 1, 1) := by decide +kernel
theorem dL_isWell_166 : decode cL_isWell 166 = .ok (.if_icmp .ne 7, 3) := by decide +kernel
theorem dL_isWell_169 : decode cL_isWell 169 = .ok (.iconst 1, 1) := by decide +kernel
theorem dL_isWell_170 : decode cL_isWell 170 = .ok (.goto 4, 3) := by decide +kernel
theorem dL_isWell_173 : decode cL_isWell 173 = .ok (.iconst 0, 1) := by decide +kernel
theorem dL_isWell_174 : decode cL_isWell 174 = .ok (.istore 12, 2) := by decide +kernel
theorem dL_isWell_176 : decode cL_isWell 176 = .ok (.aload_n 3, 1) := by decide +kernel
theorem dL_isWell_177 : decode cL_isWell 177 = .ok (.iload 16, 2) := by decide +kernel
theorem dL_isWell_179 : decode cL_isWell 179 = .ok (.ifCond .ge 7, 3) := by decide +kernel
theorem dL_isWell_182 : decode cL_isWell 182 = .ok (.iconst 0, 1) := by decide +kernel
theorem dL_isWell_183 : decode cL_isWell 183 = .ok (.goto 5, 3) := by decide +kernel
theorem dL_isWell_186 : decode cL_isWell 186 = .ok (.iload 16, 2) := by decide +kernel
theorem dL_isWell_188 : decode cL_isWell 188 = .ok (.dup2, 1) := by decide +kernel
theorem dL_isWell_189 : decode cL_isWell 189 = .ok (.iaload, 1) := by decide +kernel
theorem dL_isWell_190 : decode cL_isWell 190 = .ok (.iload 16, 2) := by decide +kernel
theorem dL_isWell_192 : decode cL_isWell 192 = .ok (.ifCond .ge 7, 3) := by decide +kernel
theorem dL_isWell_195 : decode cL_isWell 195 = .ok (.iconst 0, 1) := by decide +kernel
theorem dL_isWell_196 : decode cL_isWell 196 = .ok (.goto 4, 3) := by decide +kernel
theorem dL_isWell_199 : decode cL_isWell 199 = .ok (.iconst 1, 1) := by decide +kernel
theorem dL_isWell_200 : decode cL_isWell 200 = .ok (.iadd, 1) := by decide +kernel
theorem dL_isWell_201 : decode cL_isWell 201 = .ok (.iastore, 1) := by decide +kernel
theorem dL_isWell_202 : decode cL_isWell 202 = .ok (.iload 14, 2) := by decide +kernel
theorem dL_isWell_204 : decode cL_isWell 204 = .ok (.iload 16, 2) := by decide +kernel
theorem dL_isWell_206 : decode cL_isWell 206 = .ok (.ifCond .ge 7, 3) := by decide +kernel
theorem dL_isWell_209 : decode cL_isWell 209 = .ok (.iconst 0, 1) := by decide +kernel
theorem dL_isWell_210 : decode cL_isWell 210 = .ok (.goto 10, 3) := by decide +kernel
theorem dL_isWell_213 : decode cL_isWell 213 = .ok (.aload_n 0, 1) := by decide +kernel
theorem dL_isWell_214 : decode cL_isWell 214 = .ok (.iload 16, 2) := by decide +kernel
theorem dL_isWell_216 : decode cL_isWell 216 = .ok (.iconst 2, 1) := by decide +kernel
theorem dL_isWell_217 : decode cL_isWell 217 = .ok (.invokevirtual 32, 3) := by decide +kernel
theorem dL_isWell_220 : decode cL_isWell 220 = .ok (.iadd, 1) := by decide +kernel
theorem dL_isWell_221 : decode cL_isWell 221 = .ok (.istore 14, 2) := by decide +kernel
theorem dL_isWell_223 : decode cL_isWell 223 = .ok (.iinc 15 1, 3) := by decide +kernel
theorem dL_isWell_226 : decode cL_isWell 226 = .ok (.goto (-137), 3) := by decide +kernel
theorem dL_isWell_229 : decode cL_isWell 229 = .ok (.iload 12, 2) := by decide +kernel
theorem dL_isWell_231 : decode cL_isWell 231 = .ok (.ifCond .eq 89, 3) := by decide +kernel
theorem dL_isWell_234 : decode cL_isWell 234 = .ok (.iload 14, 2) := by decide +kernel
theorem dL_isWell_236 : decode cL_isWell 236 = .ok (.iload 8, 2) := by decide +kernel
theorem dL_isWell_238 : decode cL_isWell 238 = .ok (.if_icmp .lt 82, 3) := by decide +kernel
theorem dL_isWell_241 : decode cL_isWell 241 = .ok (.iload 14, 2) := by decide +kernel
theorem dL_isWell_243 : decode cL_isWell 243 = .ok (.iload 9, 2) := by decide +kernel
theorem dL_isWell_245 : decode cL_isWell 245 = .ok (.if_icmp .gt 75, 3) := by decide +kernel
theorem dL_isWell_248 : decode cL_isWell 248 = .ok (.iload 13, 2) := by decide +kernel
theorem dL_isWell_250 : decode cL_isWell 250 = .ok (.iload 10, 2) := by decide +kernel
theorem dL_isWell_252 : decode cL_isWell 252 = .ok (.if_icmp .gt 30, 3) := by decide +kernel
theorem dL_isWell_255 : decode cL_isWell 255 = .ok (.iload 14, 2) := by decide +kernel
theorem dL_isWell_257 : decode cL_isWell 257 = .ok (.iload 8, 2) := by decide +kernel
theorem dL_isWell_259 : decode cL_isWell 259 = .ok (.if_icmp .ne 7, 3) := by decide +kernel
theorem dL_isWell_262 : decode cL_isWell 262 = .ok (.iconst 1, 1) := by decide +kernel
theorem dL_isWell_263 : decode cL_isWell 263 = .ok (.goto 4, 3) := by decide +kernel
theorem dL_isWell_266 : decode cL_isWell 266 = .ok (.iconst 0, 1) := by decide +kernel
theorem dL_isWell_267 : decode cL_isWell 267 = .ok (.iload 13, 2) := by decide +kernel
theorem dL_isWell_269 : decode cL_isWell 269 = .ok (.iload 10, 2) := by decide +kernel
theorem dL_isWell_271 : decode cL_isWell 271 = .ok (.if_icmp .ne 7, 3) := by decide +kernel
theorem dL_isWell_274 : decode cL_isWell 274 = .ok (.iconst 1, 1) := by decide +kernel
theorem dL_isWell_275 : decode cL_isWell 275 = .ok (.goto 4, 3) := by decide +kernel
theorem dL_isWell_278 : decode cL_isWell 278 = .ok (.iconst 0, 1) := by decide +kernel
theorem dL_isWell_279 : decode cL_isWell 279 = .ok (.if_icmp .ne 41, 3) := by decide +kernel
theorem dL_isWell_282 : decode cL_isWell 282 = .ok (.iload 13, 2) := by decide +kernel
theorem dL_isWell_284 : decode cL_isWell 284 = .ok (.iload 11, 2) := by decide +kernel
theorem dL_isWell_286 : decode cL_isWell 286 = .ok (.if_icmp .gt 30, 3) := by decide +kernel
theorem dL_isWell_289 : decode cL_isWell 289 = .ok (.iload 14, 2) := by decide +kernel
theorem dL_isWell_291 : decode cL_isWell 291 = .ok (.iload 9, 2) := by decide +kernel
theorem dL_isWell_293 : decode cL_isWell 293 = .ok (.if_icmp .ne 7, 3) := by decide +kernel
theorem dL_isWell_296 : decode cL_isWell 296 = .ok (.iconst 1, 1) := by decide +kernel
theorem dL_isWell_297 : decode cL_isWell 297 = .ok (.goto 4, 3) := by decide +kernel
theorem dL_isWell_300 : decode cL_isWell 300 = .ok (.iconst 0, 1) := by decide +kernel
theorem dL_isWell_301 : decode cL_isWell 301 = .ok (.iload 13, 2) := by decide +kernel
theorem dL_isWell_303 : decode cL_isWell 303 = .ok (.iload 11, 2) := by decide +kernel
theorem dL_isWell_305 : decode cL_isWell 305 = .ok (.if_icmp .ne 7, 3) := by decide +kernel
theorem dL_isWell_308 : decode cL_isWell 308 = .ok (.iconst 1, 1) := by decide +kernel
theorem dL_isWell_309 : decode cL_isWell 309 = .ok (.goto 4, 3) := by decide +kernel
theorem dL_isWell_312 : decode cL_isWell 312 = .ok (.iconst 0, 1) := by decide +kernel
theorem dL_isWell_313 : decode cL_isWell 313 = .ok (.if_icmp .ne 7, 3) := by decide +kernel
theorem dL_isWell_316 : decode cL_isWell 316 = .ok (.iconst 1, 1) := by decide +kernel
theorem dL_isWell_317 : decode cL_isWell 317 = .ok (.goto 4, 3) := by decide +kernel
theorem dL_isWell_320 : decode cL_isWell 320 = .ok (.iconst 0, 1) := by decide +kernel
theorem dL_isWell_321 : decode cL_isWell 321 = .ok (.istore 12, 2) := by decide +kernel
theorem dL_isWell_323 : decode cL_isWell 323 = .ok (.iinc 13 1, 3) := by decide +kernel
theorem dL_isWell_326 : decode cL_isWell 326 = .ok (.goto (-254), 3) := by decide +kernel
theorem dL_isWell_329 : decode cL_isWell 329 = .ok (.iconst 0, 1) := by decide +kernel
theorem dL_isWell_330 : decode cL_isWell 330 = .ok (.istore 13, 2) := by decide +kernel
theorem dL_isWell_332 : decode cL_isWell 332 = .ok (.iload 13, 2) := by decide +kernel
theorem dL_isWell_334 : decode cL_isWell 334 = .ok (.iload_n 2, 1) := by decide +kernel
theorem dL_isWell_335 : decode cL_isWell 335 = .ok (.if_icmp .ge 101, 3) := by decide +kernel
theorem dL_isWell_338 : decode cL_isWell 338 = .ok (.iload 12, 2) := by decide +kernel
theorem dL_isWell_340 : decode cL_isWell 340 = .ok (.ifCond .eq 96, 3) := by decide +kernel
theorem dL_isWell_343 : decode cL_isWell 343 = .ok (.aload_n 3, 1) := by decide +kernel
theorem dL_isWell_344 : decode cL_isWell 344 = .ok (.iload 13, 2) := by decide +kernel
theorem dL_isWell_346 : decode cL_isWell 346 = .ok (.iaload, 1) := by decide +kernel
theorem dL_isWell_347 : decode cL_isWell 347 = .ok (.aload_n 0, 1) := by decide +kernel
theorem dL_isWell_348 : decode cL_isWell 348 = .ok (.iload 13, 2) := by decide +kernel
theorem dL_isWell_350 : decode cL_isWell 350 = .ok (.iconst 4, 1) := by decide +kernel
theorem dL_isWell_351 : decode cL_isWell 351 = .ok (.invokevirtual 32, 3) := by decide +kernel
theorem dL_isWell_354 : decode cL_isWell 354 = .ok (.iconst 1, 1) := by decide +kernel
theorem dL_isWell_355 : decode cL_isWell 355 = .ok (.if_icmp .ne 20, 3) := by decide +kernel
theorem dL_isWell_358 : decode cL_isWell 358 = .ok (.iload_n 1, 1) := by decide +kernel
theorem dL_isWell_359 : decode cL_isWell 359 = .ok (.aload_n 0, 1) := by decide +kernel
theorem dL_isWell_360 : decode cL_isWell 360 = .ok (.aload_n 0, 1) := by decide +kernel
theorem dL_isWell_361 : decode cL_isWell 361 = .ok (.iload 13, 2) := by decide +kernel
theorem dL_isWell_363 : decode cL_isWell 363 = .ok (.iconst 0, 1) := by decide +kernel
theorem dL_isWell_364 : decode cL_isWell 364 = .ok (.invokevirtual 32, 3) := by decide +kernel
theorem dL_isWell_367 : decode cL_isWell 367 = .ok (.iconst 1, 1) := by decide +kernel
theorem dL_isWell_368 : decode cL_isWell 368 = .ok (.invokevirtual 38, 3) := by decide +kernel
theorem dL_isWell_371 : decode cL_isWell 371 = .ok (.idiv, 1) := by decide +kernel
theorem dL_isWell_372 : decode cL_isWell 372 = .ok (.goto 4, 3) := by decide +kernel
theorem dL_isWell_375 : decode cL_isWell 375 = .ok (.iconst 0, 1) := by decide +kernel
theorem dL_isWell_376 : decode cL_isWell 376 = .ok (.if_icmp .ne 39, 3) := by decide +kernel
theorem dL_isWell_379 : decode cL_isWell 379 = .ok (.aload_n 0, 1) := by decide +kernel
theorem dL_isWell_380 : decode cL_isWell 380 = .ok (.iload 13, 2) := by decide +kernel
theorem dL_isWell_382 : decode cL_isWell 382 = .ok (.iconst 5, 1) := by decide +kernel
theorem dL_isWell_383 : decode cL_isWell 383 = .ok (.invokevirtual 32, 3) := by decide +kernel
theorem dL_isWell_386 : decode cL_isWell 386 = .ok (.iconst 1, 1) := by decide +kernel
theorem dL_isWell_387 : decode cL_isWell 387 = .ok (.if_icmp .ne 7, 3) := by decide +kernel
theorem dL_isWell_390 : decode cL_isWell 390 = .ok (.iconst 1, 1) := by decide +kernel
theorem dL_isWell_391 : decode cL_isWell 391 = .ok (.goto 4, 3) := by decide +kernel
theorem dL_isWell_394 : decode cL_isWell 394 = .ok (.iconst 0, 1) := by decide +kernel
theorem dL_isWell_395 : decode cL_isWell 395 = .ok (.aload_n 3, 1) := by decide +kernel
theorem dL_isWell_396 : decode cL_isWell 396 = .ok (.iload 13, 2) := by decide +kernel
theorem dL_isWell_398 : decode cL_isWell 398 = .ok (.iaload, 1) := by decide +kernel
theorem dL_isWell_399 : decode cL_isWell 399 = .ok (.iload_n 1, 1) := by decide +kernel
theorem dL_isWell_400 : decode cL_isWell 400 = .ok (.if_icmp .ne 7, 3) := by decide +kernel
theorem dL_isWell_403 : decode cL_isWell 403 = .ok (.iconst 1, 1) := by decide +kernel
theorem dL_isWell_404 : decode cL_isWell 404 = .ok (.goto 4, 3) := by decide +kernel
theorem dL_isWell_407 : decode cL_isWell 407 = .ok (.iconst 0, 1) := by decide +kernel
theorem dL_isWell_408 : decode cL_isWell 408 = .ok (.if_icmp .ne 7, 3) := by decide +kernel
theorem dL_isWell_411 : decode cL_isWell 411 = .ok (.iconst 1, 1) := by decide +kernel
theorem dL_isWell_412 : decode cL_isWell 412 = .ok (.goto 4, 3) := by decide +kernel
theorem dL_isWell_415 : decode cL_isWell 415 = .ok (.iconst 0, 1) := by decide +kernel
theorem dL_isWell_416 : decode cL_isWell 416 = .ok (.istore 12, 2) := by decide +kernel
theorem dL_isWell_418 : decode cL_isWell 418 = .ok (.iload 7, 2) := by decide +kernel
theorem dL_isWell_420 : decode cL_isWell 420 = .ok (.aload_n 0, 1) := by decide +kernel
theorem dL_isWell_421 : decode cL_isWell 421 = .ok (.iload 13, 2) := by decide +kernel
theorem dL_isWell_423 : decode cL_isWell 423 = .ok (.iconst 5, 1) := by decide +kernel
theorem dL_isWell_424 : decode cL_isWell 424 = .ok (.invokevirtual 32, 3) := by decide +kernel
theorem dL_isWell_427 : decode cL_isWell 427 = .ok (.iadd, 1) := by decide +kernel
theorem dL_isWell_428 : decode cL_isWell 428 = .ok (.istore 7, 2) := by decide +kernel
theorem dL_isWell_430 : decode cL_isWell 430 = .ok (.iinc 13 1, 3) := by decide +kernel
theorem dL_isWell_433 : decode cL_isWell 433 = .ok (.goto (-101), 3) := by decide +kernel
theorem dL_isWell_436 : decode cL_isWell 436 = .ok (.iconst 0, 1) := by decide +kernel
theorem dL_isWell_437 : decode cL_isWell 437 = .ok (.istore 13, 2) := by decide +kernel
theorem dL_isWell_439 : decode cL_isWell 439 = .ok (.iload 13, 2) := by decide +kernel
theorem dL_isWell_441 : decode cL_isWell 441 = .ok (.bipush 10, 2) := by decide +kernel
theorem dL_isWell_443 : decode cL_isWell 443 = .ok (.if_icmp .ge 148, 3) := by decide +kernel
theorem dL_isWell_446 : decode cL_isWell 446 = .ok (.aload_n 0, 1) := by decide +kernel
theorem dL_isWell_447 : decode cL_isWell 447 = .ok (.iload 13, 2) := by decide +kernel
theorem dL_isWell_449 : decode cL_isWell 449 = .ok (.iconst 1, 1) := by decide +kernel
theorem dL_isWell_450 : decode cL_isWell 450 = .ok (.invokevirtual 38, 3) := by decide +kernel
theorem dL_isWell_453 : decode cL_isWell 453 = .ok (.istore 14, 2) := by decide +kernel
theorem dL_isWell_455 : decode cL_isWell 455 = .ok (.iload 4, 2) := by decide +kernel
theorem dL_isWell_457 : decode cL_isWell 457 = .ok (.iload 14, 2) := by decide +kernel
theorem dL_isWell_459 : decode cL_isWell 459 = .ok (.ifCond .le 8, 3) := by decide +kernel
theorem dL_isWell_462 : decode cL_isWell 462 = .ok (.iload 14, 2) := by decide +kernel
theorem dL_isWell_464 : decode cL_isWell 464 = .ok (.goto 4, 3) := by decide +kernel
theorem dL_isWell_467 : decode cL_isWell 467 = .ok (.iconst 1, 1) := by decide +kernel
theorem dL_isWell_468 : decode cL_isWell 468 = .ok (.imul, 1) := by decide +kernel
theorem dL_isWell_469 : decode cL_isWell 469 = .ok (.istore 4, 2) := by decide +kernel
theorem dL_isWell_471 : decode cL_isWell 471 = .ok (.iload 5, 2) := by decide +kernel
theorem dL_isWell_473 : decode cL_isWell 473 = .ok (.aload_n 0, 1) := by decide +kernel
theorem dL_isWell_474 : decode cL_isWell 474 = .ok (.iload 13, 2) := by decide +kernel
theorem dL_isWell_476 : decode cL_isWell 476 = .ok (.iconst 0, 1) := by decide +kernel
theorem dL_isWell_477 : decode cL_isWell 477 = .ok (.invokevirtual 38, 3) := by decide +kernel
theorem dL_isWell_480 : decode cL_isWell 480 = .ok (.ifCond .le 7, 3) := by decide +kernel
theorem dL_isWell_483 : decode cL_isWell 483 = .ok (.iconst 1, 1) := by decide +kernel
theorem dL_isWell_484 : decode cL_isWell 484 = .ok (.goto 4, 3) := by decide +kernel
theorem dL_isWell_487 : decode cL_isWell 487 = .ok (.iconst 0, 1) := by decide +kernel
theorem dL_isWell_488 : decode cL_isWell 488 = .ok (.iadd, 1) := by decide +kernel
theorem dL_isWell_489 : decode cL_isWell 489 = .ok (.istore 5, 2) := by decide +kernel
theorem dL_isWell_491 : decode cL_isWell 491 = .ok (.iload 6, 2) := by decide +kernel
theorem dL_isWell_493 : decode cL_isWell 493 = .ok (.aload_n 0, 1) := by decide +kernel
theorem dL_isWell_494 : decode cL_isWell 494 = .ok (.iload 13, 2) := by decide +kernel
theorem dL_isWell_496 : decode cL_isWell 496 = .ok (.iconst 0, 1) := by decide +kernel
theorem dL_isWell_497 : decode cL_isWell 497 = .ok (.invokevirtual 38, 3) := by decide +kernel
theorem dL_isWell_500 : decode cL_isWell 500 = .ok (.iconst 1, 1) := by decide +kernel
theorem dL_isWell_501 : decode cL_isWell 501 = .ok (.if_icmp .le 7, 3) := by decide +kernel
theorem dL_isWell_504 : decode cL_isWell 504 = .ok (.iconst 1, 1) := by decide +kernel
theorem dL_isWell_505 : decode cL_isWell 505 = .ok (.goto 4, 3) := by decide +kernel
theorem dL_isWell_508 : decode cL_isWell 508 = .ok (.iconst 0, 1) := by decide +kernel
theorem dL_isWell_509 : decode cL_isWell 509 = .ok (.iadd, 1) := by decide +kernel
theorem dL_isWell_510 : decode cL_isWell 510 = .ok (.istore 6, 2) := by decide +kernel
theorem dL_isWell_512 : decode cL_isWell 512 = .ok (.iload 12, 2) := by decide +kernel
theorem dL_isWell_514 : decode cL_isWell 514 = .ok (.ifCond .eq 68, 3) := by decide +kernel
theorem dL_isWell_517 : decode cL_isWell 517 = .ok (.iload 14, 2) := by decide +kernel
theorem dL_isWell_519 : decode cL_isWell 519 = .ok (.aload_n 0, 1) := by decide +kernel
theorem dL_isWell_520 : decode cL_isWell 520 = .ok (.iload 13, 2) := by decide +kernel
theorem dL_isWell_522 : decode cL_isWell 522 = .ok (.iconst 0, 1) := by decide +kernel
theorem dL_isWell_523 : decode cL_isWell 523 = .ok (.invokevirtual 38, 3) := by decide +kernel
theorem dL_isWell_526 : decode cL_isWell 526 = .ok (.if_icmp .gt 56, 3) := by decide +kernel
theorem dL_isWell_529 : decode cL_isWell 529 = .ok (.iload 14, 2) := by decide +kernel
theorem dL_isWell_531 : decode cL_isWell 531 = .ok (.ifCond .le 7, 3) := by decide +kernel
theorem dL_isWell_534 : decode cL_isWell 534 = .ok (.iconst 1, 1) := by decide +kernel
theorem dL_isWell_535 : decode cL_isWell 535 = .ok (.goto 4, 3) := by decide +kernel
theorem dL_isWell_538 : decode cL_isWell 538 = .ok (.iconst 0, 1) := by decide +kernel
theorem dL_isWell_539 : decode cL_isWell 539 = .ok (.aload_n 0, 1) := by decide +kernel
theorem dL_isWell_540 : decode cL_isWell 540 = .ok (.iload 13, 2) := by decide +kernel
theorem dL_isWell_542 : decode cL_isWell 542 = .ok (.iconst 0, 1) := by decide +kernel
theorem dL_isWell_543 : decode cL_isWell 543 = .ok (.invokevirtual 38, 3) := by decide +kernel
theorem dL_isWell_546 : decode cL_isWell 546 = .ok (.ifCond .le 7, 3) := by decide +kernel
theorem dL_isWell_549 : decode cL_isWell 549 = .ok (.iconst 1, 1) := by decide +kernel
theorem dL_isWell_550 : decode cL_isWell 550 = .ok (.goto 4, 3) := by decide +kernel
theorem dL_isWell_553 : decode cL_isWell 553 = .ok (.iconst 0, 1) := by decide +kernel
theorem dL_isWell_554 : decode cL_isWell 554 = .ok (.if_icmp .ne 28, 3) := by decide +kernel
theorem dL_isWell_557 : decode cL_isWell 557 = .ok (.iload 14, 2) := by decide +kernel
theorem dL_isWell_559 : decode cL_isWell 559 = .ok (.ifCond .eq 19, 3) := by decide +kernel
theorem dL_isWell_562 : decode cL_isWell 562 = .ok (.aload_n 0, 1) := by decide +kernel
theorem dL_isWell_563 : decode cL_isWell 563 = .ok (.aload_n 0, 1) := by decide +kernel
theorem dL_isWell_564 : decode cL_isWell 564 = .ok (.iload 13, 2) := by decide +kernel
theorem dL_isWell_566 : decode cL_isWell 566 = .ok (.iconst 3, 1) := by decide +kernel
theorem dL_isWell_567 : decode cL_isWell 567 = .ok (.invokevirtual 38, 3) := by decide +kernel
theorem dL_isWell_570 : decode cL_isWell 570 = .ok (.iconst 4, 1) := by decide +kernel
theorem dL_isWell_571 : decode cL_isWell 571 = .ok (.invokevirtual 32, 3) := by decide +kernel
theorem dL_isWell_574 : decode cL_isWell 574 = .ok (.iconst 1, 1) := by decide +kernel
theorem dL_isWell_575 : decode cL_isWell 575 = .ok (.if_icmp .ne 7, 3) := by decide +kernel
theorem dL_isWell_578 : decode cL_isWell 578 = .ok (.iconst 1, 1) := by decide +kernel
theorem dL_isWell_579 : decode cL_isWell 579 = .ok (.goto 4, 3) := by decide +kernel
theorem dL_isWell_582 : decode cL_isWell 582 = .ok (.iconst 0, 1) := by decide +kernel
theorem dL_isWell_583 : decode cL_isWell 583 = .ok (.istore 12, 2) := by decide +kernel
theorem dL_isWell_585 : decode cL_isWell 585 = .ok (.iinc 13 1, 3) := by decide +kernel
theorem dL_isWell_588 : decode cL_isWell 588 = .ok (.goto (-149), 3) := by decide +kernel
theorem dL_isWell_591 : decode cL_isWell 591 = .ok (.iload 12, 2) := by decide +kernel
theorem dL_isWell_593 : decode cL_isWell 593 = .ok (.ifCond .eq 83, 3) := by decide +kernel
theorem dL_isWell_596 : decode cL_isWell 596 = .ok (.iload 4, 2) := by decide +kernel
theorem dL_isWell_598 : decode cL_isWell 598 = .ok (.iload_n 1, 1) := by decide +kernel
theorem dL_isWell_599 : decode cL_isWell 599 = .ok (.if_icmp .ne 77, 3) := by decide +kernel
theorem dL_isWell_602 : decode cL_isWell 602 = .ok (.iload 5, 2) := by decide +kernel
theorem dL_isWell_604 : decode cL_isWell 604 = .ok (.aload_n 0, 1) := by decide +kernel
theorem dL_isWell_605 : decode cL_isWell 605 = .ok (.iconst 1, 1) := by decide +kernel
theorem dL_isWell_606 : decode cL_isWell 606 = .ok (.invokevirtual 9, 3) := by decide +kernel
theorem dL_isWell_609 : decode cL_isWell 609 = .ok (.if_icmp .ne 67, 3) := by decide +kernel
theorem dL_isWell_612 : decode cL_isWell 612 = .ok (.iload 6, 2) := by decide +kernel
theorem dL_isWell_614 : decode cL_isWell 614 = .ok (.aload_n 0, 1) := by decide +kernel
theorem dL_isWell_615 : decode cL_isWell 615 = .ok (.iconst 2, 1) := by decide +kernel
theorem dL_isWell_616 : decode cL_isWell 616 = .ok (.invokevirtual 9, 3) := by decide +kernel
theorem dL_isWell_619 : decode cL_isWell 619 = .ok (.if_icmp .ne 57, 3) := by decide +kernel
theorem dL_isWell_622 : decode cL_isWell 622 = .ok (.iload 7, 2) := by decide +kernel
theorem dL_isWell_624 : decode cL_isWell 624 = .ok (.aload_n 0, 1) := by decide +kernel
theorem dL_isWell_625 : decode cL_isWell 625 = .ok (.iconst 4, 1) := by decide +kernel
theorem dL_isWell_626 : decode cL_isWell 626 = .ok (.invokevirtual 9, 3) := by decide +kernel
theorem dL_isWell_629 : decode cL_isWell 629 = .ok (.if_icmp .ne 47, 3) := by decide +kernel
theorem dL_isWell_632 : decode cL_isWell 632 = .ok (.aload_n 0, 1) := by decide +kernel
theorem dL_isWell_633 : decode cL_isWell 633 = .ok (.iload_n 1, 1) := by decide +kernel
theorem dL_isWell_634 : decode cL_isWell 634 = .ok (.iconst 0, 1) := by decide +kernel
theorem dL_isWell_635 : decode cL_isWell 635 = .ok (.invokevirtual 72, 3) := by decide +kernel
theorem dL_isWell_638 : decode cL_isWell 638 = .ok (.bipush (-2), 2) := by decide +kernel
theorem dL_isWell_640 : decode cL_isWell 640 = .ok (.if_icmp .ne 36, 3) := by decide +kernel
theorem dL_isWell_643 : decode cL_isWell 643 = .ok (.aload_n 0, 1) := by decide +kernel
theorem dL_isWell_644 : decode cL_isWell 644 = .ok (.iconst 5, 1) := by decide +kernel
theorem dL_isWell_645 : decode cL_isWell 645 = .ok (.invokevirtual 9, 3) := by decide +kernel
theorem dL_isWell_648 : decode cL_isWell 648 = .ok (.aload_n 0, 1) := by decide +kernel
theorem dL_isWell_649 : decode cL_isWell 649 = .ok (.bipush 6, 2) := by decide +kernel
theorem dL_isWell_651 : decode cL_isWell 651 = .ok (.invokevirtual 9, 3) := by decide +kernel
theorem dL_isWell_654 : decode cL_isWell 654 = .ok (.if_icmp .gt 22, 3) := by decide +kernel
theorem dL_isWell_657 : decode cL_isWell 657 = .ok (.aload_n 0, 1) := by decide +kernel
theorem dL_isWell_658 : decode cL_isWell 658 = .ok (.bipush 7, 2) := by decide +kernel
theorem dL_isWell_660 : decode cL_isWell 660 = .ok (.invokevirtual 9, 3) := by decide +kernel
theorem dL_isWell_663 : decode cL_isWell 663 = .ok (.aload_n 0, 1) := by decide +kernel
theorem dL_isWell_664 : decode cL_isWell 664 = .ok (.bipush 8, 2) := by decide +kernel
theorem dL_isWell_666 : decode cL_isWell 666 = .ok (.invokevirtual 9, 3) := by decide +kernel
theorem dL_isWell_669 : decode cL_isWell 669 = .ok (.if_icmp .gt 7, 3) := by decide +kernel
theorem dL_isWell_672 : decode cL_isWell 672 = .ok (.iconst 1, 1) := by decide +kernel
theorem dL_isWell_673 : decode cL_isWell 673 = .ok (.goto 4, 3) := by decide +kernel
theorem dL_isWell_676 : decode cL_isWell 676 = .ok (.iconst 0, 1) := by decide +kernel
theorem dL_isWell_677 : decode cL_isWell 677 = .ok (.ireturn, 1) := by decide +kernel
