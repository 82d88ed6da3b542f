set_option maxHeartbeats 1000000 in
set_option maxRecDepth 20000 in
theorem ggL_isStep_X5_mend_r3 : GoodIn wsL_isStep wsX5_mend_r3 := goodIn_r _ [232, 233, 234, 235, 295, 296, 297, 298, 269, 270, 271, 272, 273, 82, 83, 274, 128, 129, 130, 63, 64, 65, 66, 275] (by decide +kernel) (by decide +kernel)
set_option maxHeartbeats 1000000 in
set_option maxRecDepth 20000 in
theorem ggL_isStep_X5_mend_r4 : GoodIn wsL_isStep wsX5_mend_r4 := goodIn_r _ [89, 90, 91] (by decide +kernel) (by decide +kernel)
set_option maxHeartbeats 1000000 in
set_option maxRecDepth 20000 in
theorem ggL_isStep_X5_mend_X5 : GoodIn wsL_isStep wsX50 := goodIn_r _ [388, 389, 390, 391, 392, 393, 394] (by decide +kernel) (by decide +kernel)
set_option maxHeartbeats 1000000 in
set_option maxRecDepth 20000 in
theorem ggL_isStep_X5_mend_X3 : GoodIn wsL_isStep wsX30 := goodIn_r _ [395, 396, 397, 398, 399, 400] (by decide +kernel) (by decide +kernel)
set_option maxHeartbeats 1000000 in
set_option maxRecDepth 20000 in
theorem ggL_isStep_X5_mend_X1 : GoodIn wsL_isStep wsX10 := goodIn_r _ [407, 408, 409] (by decide +kernel) (by decide +kernel)
set_option maxRecDepth 20000 in
theorem ggL_isStep_X5_mend : GoodIn wsL_isStep wsX5_mend := goodIn_app ggL_isStep_X5_mend_h (goodIn_app (goodIn_app (goodIn_app (goodIn_app ggL_isStep_X5_mend_r1 (goodIn_app ggL_isStep_X5_mend_r2 (goodIn_app ggL_isStep_X5_mend_r3 (ggL_isStep_X5_mend_r4)))) ggL_isStep_X5_mend_X5) ggL_isStep_X5_mend_X3) ggL_isStep_X5_mend_X1)
set_option maxRecDepth 20000 in
theorem gL_isStep_X5_mend : GoodIn wsL_isStep (wsV RL 41 RX5 yX5_mend wsX5_mend) := goodIn_app (goodIn_of _ (by decide +kernel)) ggL_isStep_X5_mend
set_option maxHeartbeats 1000000 in
set_option maxRecDepth 20000 in
theorem ggL_isStep_X5_prefer_h : GoodIn wsL_isStep [.code yX5_prefer cX5_prefer 2 (some .int)] := goodIn_r _ [302] (by decide +kernel) (by decide +kernel)
set_option maxHeartbeats 1000000 in
set_option maxRecDepth 20000 in
theorem ggL_isStep_X5_prefer_r1 : GoodIn wsL_isStep wsX5_prefer_r1 := goodIn_r _ [6, 7, 175, 176, 177, 12, 178, 62, 211, 212, 213, 185, 214, 215, 187, 216, 217, 218, 219, 220, 221, 222, 223, 224] (by decide +kernel) (by decide +kernel)
set_option maxHeartbeats 1000000 in
set_option maxRecDepth 20000 in
theorem ggL_isStep_X5_prefer_r2 : GoodIn wsL_isStep wsX5_prefer_r2 := goodIn_r _ [225, 226, 227, 228, 31, 131, 67, 92, 14, 229, 4, 230, 231, 232, 233, 234, 235, 303, 304, 305, 306, 38, 39, 40] (by decide +kernel) (by decide +kernel)
set_option maxHeartbeats 1000000 in
set_option maxRecDepth 20000 in
theorem ggL_isStep_X5_prefer_r3 : GoodIn wsL_isStep wsX5_prefer_r3 := goodIn_r _ [41, 42, 43, 44, 45, 46, 47, 48, 49, 50, 51, 52, 53, 54, 55, 56, 57, 10, 11, 13, 58, 59, 60, 61] (by decide +kernel) (by decide +kernel)
set_option maxHeartbeats 1000000 in
set_option maxRecDepth 20000 in
theorem ggL_isStep_X5_prefer_r4 : GoodIn wsL_isStep wsX5_prefer_r4 := goodIn_r _ [63, 64, 65, 66, 32, 33, 27, 28, 29, 30, 68, 69, 70, 71, 72, 73, 74, 75, 76, 77, 78, 79, 80, 81] (by decide +kernel) (by decide +kernel)
set_option maxHeartbeats 1000000 in
set_option maxRecDepth 20000 in
theorem ggL_isStep_X5_prefer_r5 : GoodIn wsL_isStep wsX5_prefer_r5 := goodIn_r _ [82, 83, 84, 85, 86, 87, 88, 89, 90, 91, 93, 94, 95, 96, 97, 98, 99, 100, 101, 102] (by decide +kernel) (by decide +kernel)
set_option maxHeartbeats 1000000 in
set_option maxRecDepth 20000 in
theorem ggL_isStep_X5_prefer_X5 : GoodIn wsL_isStep wsX50 := goodIn_r _ [388, 389, 390, 391, 392, 393, 394] (by decide +kernel) (by decide +kernel)
set_option maxHeartbeats 1000000 in
set_option maxRecDepth 20000 in
theorem ggL_isStep_X5_prefer_X3 : GoodIn wsL_isStep wsX30 := goodIn_r _ [395, 396, 397, 398, 399, 400] (by decide +kernel) (by decide +kernel)
set_option maxHeartbeats 1000000 in
set_option maxRecDepth 20000 in
theorem ggL_isStep_X5_prefer_X1 : GoodIn wsL_isStep wsX10 := goodIn_r _ [407, 408, 409] (by decide +kernel) (by decide +kernel)
set_option maxHeartbeats 1000000 in
set_option maxRecDepth 20000 in
theorem ggL_isStep_X5_prefer_X0 : GoodIn wsL_isStep wsX00 := goodIn_r _ [401, 402, 403, 404, 405, 406] (by decide +kernel) (by decide +kernel)
set_option maxRecDepth 20000 in
theorem ggL_isStep_X5_prefer : GoodIn wsL_isStep wsX5_prefer := goodIn_app ggL_isStep_X5_prefer_h (goodIn_app (goodIn_app (goodIn_app (goodIn_app (goodIn_app ggL_isStep_X5_prefer_r1 (goodIn_app ggL_isStep_X5_prefer_r2 (goodIn_app ggL_isStep_X5_prefer_r3 (goodIn_app ggL_isStep_X5_prefer_r4 (ggL_isStep_X5_prefer_r5))))) ggL_isStep_X5_prefer_X5) ggL_isStep_X5_prefer_X3) ggL_isStep_X5_prefer_X1) ggL_isStep_X5_prefer_X0)
set_option maxRecDepth 20000 in
theorem gL_isStep_X5_prefer : GoodIn wsL_isStep (wsV RL 44 RX5 yX5_prefer wsX5_prefer) := goodIn_app (goodIn_of _ (by decide +kernel)) ggL_isStep_X5_prefer
set_option maxHeartbeats 1000000 in
set_option maxRecDepth 20000 in
theorem ggL_isStep_X5_mendAll_h : GoodIn wsL_isStep [.code yX5_mendAll cX5_mendAll 4 (some .int)] := goodIn_r _ [310] (by decide +kernel) (by decide +kernel)
set_option maxHeartbeats 1000000 in
set_option maxRecDepth 20000 in
theorem ggL_isStep_X5_mendAll_r1 : GoodIn wsL_isStep wsX5_mendAll_r1 := goodIn_r _ [6, 7, 34, 35, 36, 12, 37, 19, 20, 21, 22, 23, 24, 25, 26, 14, 27, 28, 29, 30, 31, 32, 4, 33] (by decide +kernel) (by decide +kernel)
set_option maxHeartbeats 1000000 in
set_option maxRecDepth 20000 in
theorem ggL_isStep_X5_mendAll_r2 : GoodIn wsL_isStep wsX5_mendAll_r2 := goodIn_r _ [211, 212, 213, 185, 214, 215, 187, 216, 217, 218, 219, 220, 221, 222, 223, 224, 225, 226, 227, 228, 131, 67, 92, 62] (by decide +kernel) (by decide +kernel)
set_option maxHeartbeats 1000000 in
set_option maxRecDepth 20000 in
theorem ggL_isStep_X5_mendAll_r3 : GoodIn wsL_isStep wsX5_mendAll_r3 := goodIn_r _ [229, 230, 231, 232, 233, 234, 235, 9, 10, 11, 13, 311, 312, 313, 314, 315, 316, 317, 318, 319, 320, 321, 322, 286] (by decide +kernel) (by decide +kernel)
set_option maxHeartbeats 1000000 in
set_option maxRecDepth 20000 in
theorem ggL_isStep_X5_mendAll_r4 : GoodIn wsL_isStep wsX5_mendAll_r4 := goodIn_r _ [69, 70, 71, 63, 64, 65, 66, 295, 296, 297, 298, 269, 252, 253, 254, 270, 271, 272, 273, 82, 83, 274, 128, 129] (by decide +kernel) (by decide +kernel)
set_option maxHeartbeats 1000000 in
set_option maxRecDepth 20000 in
theorem ggL_isStep_X5_mendAll_r5 : GoodIn wsL_isStep wsX5_mendAll_r5 := goodIn_r _ [130, 275, 89, 90, 91] (by decide +kernel) (by decide +kernel)
set_option maxHeartbeats 1000000 in
set_option maxRecDepth 20000 in
theorem ggL_isStep_X5_mendAll_X5 : GoodIn wsL_isStep wsX50 := goodIn_r _ [388, 389, 390, 391, 392, 393, 394] (by decide +kernel) (by decide +kernel)
set_option maxHeartbeats 1000000 in
set_option maxRecDepth 20000 in
theorem ggL_isStep_X5_mendAll_X3 : GoodIn wsL_isStep wsX30 := goodIn_r _ [395, 396, 397, 398, 399, 400] (by decide +kernel) (by decide +kernel)
set_option maxHeartbeats 1000000 in
set_option maxRecDepth 20000 in
theorem ggL_isStep_X5_mendAll_X1 : GoodIn wsL_isStep wsX10 := goodIn_r _ [407, 408, 409] (by decide +kernel) (by decide +kernel)
set_option maxRecDepth 20000 in
theorem ggL_isStep_X5_mendAll : GoodIn wsL_isStep wsX5_mendAll := goodIn_app ggL_isStep_X5_mendAll_h (goodIn_app (goodIn_app (goodIn_app (goodIn_app ggL_isStep_X5_mendAll_r1 (goodIn_app ggL_isStep_X5_mendAll_r2 (goodIn_app ggL_isStep_X5_mendAll_r3 (goodIn_app ggL_isStep_X5_mendAll_r4 (ggL_isStep_X5_mendAll_r5))))) ggL_isStep_X5_mendAll_X5) ggL_isStep_X5_mendAll_X3) ggL_isStep_X5_mendAll_X1)
set_option maxRecDepth 20000 in
theorem gL_isStep_X5_mendAll : GoodIn wsL_isStep (wsV RL 48 RX5 yX5_mendAll wsX5_mendAll) := goodIn_app (goodIn_of _ (by decide +kernel)) ggL_isStep_X5_mendAll
set_option maxHeartbeats 1000000 in
set_option maxRecDepth 20000 in
theorem ggL_isStep_X5_undo_h : GoodIn wsL_isStep [.code yX5_undo cX5_undo 1 (some .int)] := goodIn_r _ [326] (by decide +kernel) (by decide +kernel)
set_option maxHeartbeats 1000000 in
set_option maxRecDepth 20000 in
theorem ggL_isStep_X5_undo_r1 : GoodIn wsL_isStep wsX5_undo_r1 := goodIn_r _ [7, 6, 327, 328, 329, 185, 330, 215, 187, 220, 221, 222, 223, 224, 225, 226, 227, 12, 228, 31, 131, 67, 92, 14] (by decide +kernel) (by decide +kernel)
set_option maxHeartbeats 1000000 in
set_option maxRecDepth 20000 in
theorem ggL_isStep_X5_undo_r2 : GoodIn wsL_isStep wsX5_undo_r2 := goodIn_r _ [62, 229, 4, 230, 231, 217, 218, 219, 232, 233, 234, 235, 182, 183, 184, 186] (by decide +kernel) (by decide +kernel)
set_option maxHeartbeats 1000000 in
set_option maxRecDepth 20000 in
theorem ggL_isStep_X5_undo_X5 : GoodIn wsL_isStep wsX50 := goodIn_r _ [388, 389, 390, 391, 392, 393, 394] (by decide +kernel) (by decide +kernel)
set_option maxHeartbeats 1000000 in
set_option maxRecDepth 20000 in
theorem ggL_isStep_X5_undo_X1 : GoodIn wsL_isStep wsX10 := goodIn_r _ [407, 408, 409] (by decide +kernel) (by decide +kernel)
set_option maxHeartbeats 1000000 in
set_option maxRecDepth 20000 in
theorem ggL_isStep_X5_undo_X3 : GoodIn wsL_isStep wsX30 := goodIn_r _ [395, 396, 397, 398, 399, 400] (by decide +kernel) (by decide +kernel)
set_option maxRecDepth 20000 in
theorem ggL_isStep_X5_undo : GoodIn wsL_isStep wsX5_undo := goodIn_app ggL_isStep_X5_undo_h (goodIn_app (goodIn_app (goodIn_app (goodIn_app ggL_isStep_X5_undo_r1 (ggL_isStep_X5_undo_r2)) ggL_isStep_X5_undo_X5) ggL_isStep_X5_undo_X1) ggL_isStep_X5_undo_X3)
set_option maxRecDepth 20000 in
theorem gL_isStep_X5_undo : GoodIn wsL_isStep (wsV RL 51 RX5 yX5_undo wsX5_undo) := goodIn_app (goodIn_of _ (by decide +kernel)) ggL_isStep_X5_undo
set_option maxHeartbeats 1000000 in
set_option maxRecDepth 20000 in
theorem ggL_isStep_L_areAnswers_h : GoodIn wsL_isStep [.code yL_areAnswers cL_areAnswers 15 (some .boolean)] := goodIn_r _ [333] (by decide +kernel) (by decide +kernel)
set_option maxHeartbeats 1000000 in
set_option maxRecDepth 20000 in
theorem ggL_isStep_L_areAnswers_r1 : GoodIn wsL_isStep wsL_areAnswers_r1 := goodIn_r _ [1, 2, 3, 4, 5, 6, 7, 8, 9, 10, 11, 12, 13, 14, 15, 16, 17, 18, 19, 20, 21, 22, 23, 24] (by decide +kernel) (by decide +kernel)
set_option maxHeartbeats 1000000 in
set_option maxRecDepth 20000 in
theorem ggL_isStep_L_areAnswers_r2 : GoodIn wsL_isStep wsL_areAnswers_r2 := goodIn_r _ [25, 26, 27, 28, 29, 30, 31, 32, 33, 34, 35, 36, 37, 38, 39, 40, 41, 42, 43, 44, 45, 46, 47, 48] (by decide +kernel) (by decide +kernel)
set_option maxHeartbeats 1000000 in
set_option maxRecDepth 20000 in
theorem ggL_isStep_L_areAnswers_r3 : GoodIn wsL_isStep wsL_areAnswers_r3 := goodIn_r _ [49, 50, 51, 52, 53, 54, 55, 56, 57, 58, 59, 60, 61, 62, 63, 64, 65, 66, 67, 68, 69, 70, 71, 72] (by decide +kernel) (by decide +kernel)
set_option maxHeartbeats 1000000 in
set_option maxRecDepth 20000 in
theorem ggL_isStep_L_areAnswers_r4 : GoodIn wsL_isStep wsL_areAnswers_r4 := goodIn_r _ [73, 74, 75, 76, 77, 78, 79, 80, 81, 82, 83, 84, 85, 86, 87, 88, 89, 90, 91, 92, 93, 94, 95, 96] (by decide +kernel) (by decide +kernel)
set_option maxHeartbeats 1000000 in
set_option maxRecDepth 20000 in
theorem ggL_isStep_L_areAnswers_r5 : GoodIn wsL_isStep wsL_areAnswers_r5 := goodIn_r _ [97, 98, 99, 100, 101, 102, 103, 104, 105, 106, 107, 108, 109, 110, 111, 112, 113, 114, 115, 116, 117, 118, 119, 120] (by decide +kernel) (by decide +kernel)
set_option maxHeartbeats 1000000 in
set_option maxRecDepth 20000 in
theorem ggL_isStep_L_areAnswers_r6 : GoodIn wsL_isStep wsL_areAnswers_r6 := goodIn_r _ [121, 122, 123, 124, 125, 126, 127, 128, 129, 130, 131, 132, 133, 134, 135, 136, 137, 138, 139, 140, 141, 142, 143, 144] (by decide +kernel) (by decide +kernel)
set_option maxHeartbeats 1000000 in
set_option maxRecDepth 20000 in
theorem ggL_isStep_L_areAnswers_r7 : GoodIn wsL_isStep wsL_areAnswers_r7 := goodIn_r _ [145, 146, 147, 148, 149, 150, 151, 152, 153, 154, 155, 156, 157, 158, 159, 160, 161, 162, 163, 164, 165, 166, 167, 168] (by decide +kernel) (by decide +kernel)
set_option maxHeartbeats 1000000 in
set_option maxRecDepth 20000 in
theorem ggL_isStep_L_areAnswers_r8 : GoodIn wsL_isStep wsL_areAnswers_r8 := goodIn_r _ [169, 170, 171, 172, 173, 174, 175, 176, 177, 178, 179, 180, 181, 182, 183, 184, 185, 186, 187, 188, 189, 190, 191, 192] (by decide +kernel) (by decide +kernel)
set_option maxHeartbeats 1000000 in
set_option maxRecDepth 20000 in
theorem ggL_isStep_L_areAnswers_r9 : GoodIn wsL_isStep wsL_areAnswers_r9 := goodIn_r _ [193, 334, 335, 336, 337, 203, 338, 339, 340, 341, 342, 343, 344, 345, 346, 347, 348, 349, 350, 351, 352, 353, 354, 355] (by decide +kernel) (by decide +kernel)
set_option maxHeartbeats 1000000 in
set_option maxRecDepth 20000 in
theorem ggL_isStep_L_areAnswers_r10 : GoodIn wsL_isStep wsL_areAnswers_r10 := goodIn_r _ [356, 357, 358, 359, 360, 361, 362, 363, 364, 365, 366, 367, 368, 204, 205, 206, 369, 370, 371, 372, 373, 374, 276, 277] (by decide +kernel) (by decide +kernel)
set_option maxHeartbeats 1000000 in
set_option maxRecDepth 20000 in
theorem ggL_isStep_L_areAnswers_r11 : GoodIn wsL_isStep wsL_areAnswers_r11 := goodIn_r _ [278, 279, 280, 281, 282, 283, 284, 285, 286, 287, 288, 289, 290, 275, 375, 376, 377, 378, 379, 380, 381, 382, 383, 384] (by decide +kernel) (by decide +kernel)
set_option maxHeartbeats 1000000 in
set_option maxRecDepth 20000 in
theorem ggL_isStep_L_areAnswers_r12 : GoodIn wsL_isStep wsL_areAnswers_r12 := goodIn_r _ [385, 386, 387, 255, 247, 248, 249, 250, 251, 252, 253, 254, 256, 257, 258, 259, 260, 291, 292, 293, 294, 211, 212, 213] (by decide +kernel) (by decide +kernel)
set_option maxHeartbeats 1000000 in
set_option maxRecDepth 20000 in
theorem ggL_isStep_L_areAnswers_r13 : GoodIn wsL_isStep wsL_areAnswers_r13 := goodIn_r _ [214, 215, 216, 217, 218, 219, 220, 221, 222, 223, 224, 225, 226, 227, 228, 229, 230, 231, 232, 233, 234, 235, 295, 296] (by decide +kernel) (by decide +kernel)
set_option maxHeartbeats 1000000 in
set_option maxRecDepth 20000 in
theorem ggL_isStep_L_areAnswers_r14 : GoodIn wsL_isStep wsL_areAnswers_r14 := goodIn_r _ [297, 298, 269, 270, 271, 272, 273, 274, 323, 324, 325, 326, 327, 328, 329, 330] (by decide +kernel) (by decide +kernel)
set_option maxHeartbeats 1000000 in
set_option maxRecDepth 20000 in
theorem ggL_isStep_L_areAnswers_X5 : GoodIn wsL_isStep wsX50 := goodIn_r _ [388, 389, 390, 391, 392, 393, 394] (by decide +kernel) (by decide +kernel)
set_option maxHeartbeats 1000000 in
set_option maxRecDepth 20000 in
theorem ggL_isStep_L_areAnswers_X3 : GoodIn wsL_isStep wsX30 := goodIn_r _ [395, 396, 397, 398, 399, 400] (by decide +kernel) (by decide +kernel)
set_option maxHeartbeats 1000000 in
set_option maxRecDepth 20000 in
theorem ggL_isStep_L_areAnswers_X0 : GoodIn wsL_isStep wsX00 := goodIn_r _ [401, 402, 403, 404, 405, 406] (by decide +kernel) (by decide +kernel)
set_option maxHeartbeats 1000000 in
set_option maxRecDepth 20000 in
theorem ggL_isStep_L_areAnswers_X1 : GoodIn wsL_isStep wsX10 := goodIn_r _ [407, 408, 409] (by decide +kernel) (by decide +kernel)
set_option maxHeartbeats 1000000 in
set_option maxRecDepth 20000 in
theorem ggL_isStep_L_areAnswers_X4 : GoodIn wsL_isStep wsX40 := goodIn_r _ [410, 411] (by decide +kernel) (by decide +kernel)
set_option maxRecDepth 20000 in
theorem ggL_isStep_L_areAnswers : GoodIn wsL_isStep wsL_areAnswers := goodIn_app ggL_isStep_L_areAnswers_h (goodIn_app (goodIn_app (goodIn_app (goodIn_app (goodIn_app (goodIn_app ggL_isStep_L_areAnswers_r1 (goodIn_app ggL_isStep_L_areAnswers_r2 (goodIn_app ggL_isStep_L_areAnswers_r3 (goodIn_app ggL_isStep_L_areAnswers_r4 (goodIn_app ggL_isStep_L_areAnswers_r5 (goodIn_app ggL_isStep_L_areAnswers_r6 (goodIn_app ggL_isStep_L_areAnswers_r7 (goodIn_app ggL_isStep_L_areAnswers_r8 (goodIn_app ggL_isStep_L_areAnswers_r9 (goodIn_app ggL_isStep_L_areAnswers_r10 (goodIn_app ggL_isStep_L_areAnswers_r11 (goodIn_app ggL_isStep_L_areAnswers_r12 (goodIn_app ggL_isStep_L_areAnswers_r13 (ggL_isStep_L_areAnswers_r14)))))))))))))) ggL_isStep_L_areAnswers_X5) ggL_isStep_L_areAnswers_X3) ggL_isStep_L_areAnswers_X0) ggL_isStep_L_areAnswers_X1) ggL_isStep_L_areAnswers_X4)
set_option maxRecDepth 20000 in
theorem gL_isStep_L_areAnswers : GoodIn wsL_isStep (va_wsS RL 55 yL_areAnswers wsL_areAnswers) := goodIn_app (goodIn_of _ (by decide +kernel)) ggL_isStep_L_areAnswers
theorem dL_isStep_0 : decode cL_isStep 0 = .ok (.iload_n 2, 1) := by decide +kernel
theorem dL_isStep_1 : decode cL_isStep 1 = .ok (.iconst 4, 1) := by decide +kernel
theorem dL_isStep_2 : decode cL_isStep 2 = .ok (.ishr, 1) := by decide +kernel
theorem dL_isStep_3 : decode cL_isStep 3 = .ok (.istore_n 3, 1) := by decide +kernel
theorem dL_isStep_4 : decode cL_isStep 4 = .ok (.aload_n 0, 1) := by decide +kernel
theorem dL_isStep_5 : decode cL_isStep 5 = .ok (.iconst 0, 1) := by decide +kernel
theorem dL_isStep_6 : decode cL_isStep 6 = .ok (.invokevirtual 9, 3) := by decide +kernel
theorem dL_isStep_9 : decode cL_isStep 9 = .ok (.istore 4, 2) := by decide +kernel
theorem dL_isStep_11 : decode cL_isStep 11 = .ok (.iload_n 3, 1) := by decide +kernel
theorem dL_isStep_12 : decode cL_isStep 12 = .ok (.iload 4, 2) := by decide +kernel
theorem dL_isStep_14 : decode cL_isStep 14 = .ok (.iconst 1, 1) := by decide +kernel
theorem dL_isStep_15 : decode cL_isStep 15 = .ok (.iadd, 1) := by decide +kernel
theorem dL_isStep_16 : decode cL_isStep 16 = .ok (.invokestatic 15, 3) := by decide +kernel
theorem dL_isStep_19 : decode cL_isStep 19 = .ok (.istore 5, 2) := by decide +kernel
theorem dL_isStep_21 : decode cL_isStep 21 = .ok (.iload_n 2, 1) := by decide +kernel
theorem dL_isStep_22 : decode cL_isStep 22 = .ok (.bipush 13, 2) := by decide +kernel
theorem dL_isStep_24 : decode cL_isStep 24 = .ok (.invokestatic 15, 3) := by decide +kernel
theorem dL_isStep_27 : decode cL_isStep 27 = .ok (.tableswitch 636 0 11 #[61, 61, 61, 61, 61, 61, 61, 267, 312, 410, 509, 610], 61) := by decide +kernel
theorem dL_isStep_88 : decode cL_isStep 88 = .ok (.iload_n 3, 1) := by decide +kernel
theorem dL_isStep_89 : decode cL_isStep 89 = .ok (.iload_n 3, 1) := by decide +kernel
theorem dL_isStep_90 : decode cL_isStep 90 = .ok (.bipush 9, 2) := by decide +kernel
theorem dL_isStep_92 : decode cL_isStep 92 = .ok (.ishr, 1) := by decide +kernel
theorem dL_isStep_93 : decode cL_isStep 93 = .ok (.iconst 3, 1) := by decide +kernel
theorem dL_isStep_94 : decode cL_isStep 94 = .ok (.invokestatic 15, 3) := by decide +kernel
theorem dL_isStep_97 : decode cL_isStep 97 = .ok (.ifCond .ne 8, 3) := by decide +kernel
theorem dL_isStep_100 : decode cL_isStep 100 = .ok (.bipush 10, 2) := by decide +kernel
theorem dL_isStep_102 : decode cL_isStep 102 = .ok (.goto 4, 3) := by decide +kernel
theorem dL_isStep_105 : decode cL_isStep 105 = .ok (.iconst 5, 1) := by decide +kernel
theorem dL_isStep_106 : decode cL_isStep 106 = .ok (.invokestatic 15, 3) := by decide +kernel
theorem dL_isStep_109 : decode cL_isStep 109 = .ok (.istore 6, 2) := by decide +kernel
theorem dL_isStep_111 : decode cL_isStep 111 = .ok (.bipush 97, 2) := by decide +kernel
theorem dL_isStep_113 : decode cL_isStep 113 = .ok (.iload_n 3, 1) := by decide +kernel
theorem dL_isStep_114 : decode cL_isStep 114 = .ok (.iconst 3, 1) := by decide +kernel
theorem dL_isStep_115 : decode cL_isStep 115 = .ok (.ishr, 1) := by decide +kernel
theorem dL_isStep_116 : decode cL_isStep 116 = .ok (.iconst 4, 1) := by decide +kernel
theorem dL_isStep_117 : decode cL_isStep 117 = .ok (.invokestatic 15, 3) := by decide +kernel
theorem dL_isStep_120 : decode cL_isStep 120 = .ok (.iadd, 1) := by decide +kernel
theorem dL_isStep_121 : decode cL_isStep 121 = .ok (.istore 7, 2) := by decide +kernel
theorem dL_isStep_123 : decode cL_isStep 123 = .ok (.iload_n 3, 1) := by decide +kernel
theorem dL_isStep_124 : decode cL_isStep 124 = .ok (.iconst 5, 1) := by decide +kernel
theorem dL_isStep_125 : decode cL_isStep 125 = .ok (.ishr, 1) := by decide +kernel
theorem dL_isStep_126 : decode cL_isStep 126 = .ok (.iload_n 3, 1) := by decide +kernel
theorem dL_isStep_127 : decode cL_isStep 127 = .ok (.bipush 6, 2) := by decide +kernel
theorem dL_isStep_129 : decode cL_isStep 129 = .ok (.ishr, 1) := by decide +kernel
theorem dL_isStep_130 : decode cL_isStep 130 = .ok (.iconst 2, 1) := by decide +kernel
theorem dL_isStep_131 : decode cL_isStep 131 = .ok (.invokestatic 15, 3) := by decide +kernel
theorem dL_isStep_134 : decode cL_isStep 134 = .ok (.ifCond .ne 8, 3) := by decide +kernel
theorem dL_isStep_137 : decode cL_isStep 137 = .ok (.bipush 100, 2) := by decide +kernel
theorem dL_isStep_139 : decode cL_isStep 139 = .ok (.goto 4, 3) := by decide +kernel
theorem dL_isStep_142 : decode cL_isStep 142 = .ok (.iconst 3, 1) := by decide +kernel
theorem dL_isStep_143 : decode cL_isStep 143 = .ok (.invokestatic 15, 3) := by decide +kernel
theorem dL_isStep_146 : decode cL_isStep 146 = .ok (.istore 8, 2) := by decide +kernel
theorem dL_isStep_148 : decode cL_isStep 148 = .ok (.iload_n 3, 1) := by decide +kernel
theorem dL_isStep_149 : decode cL_isStep 149 = .ok (.bipush 8, 2) := by decide +kernel
theorem dL_isStep_151 : decode cL_isStep 151 = .ok (.ishr, 1) := by decide +kernel
theorem dL_isStep_152 : decode cL_isStep 152 = .ok (.bipush 7, 2) := by decide +kernel
theorem dL_isStep_154 : decode cL_isStep 154 = .ok (.invokestatic 15, 3) := by decide +kernel
theorem dL_isStep_157 : decode cL_isStep 157 = .ok (.istore 9, 2) := by decide +kernel
theorem dL_isStep_159 : decode cL_isStep 159 = .ok (.iload 9, 2) := by decide +kernel
theorem dL_isStep_161 : decode cL_isStep 161 = .ok (.bipush 6, 2) := by decide +kernel
theorem dL_isStep_163 : decode cL_isStep 163 = .ok (.if_icmp .ne 8, 3) := by decide +kernel
theorem dL_isStep_166 : decode cL_isStep 166 = .ok (.bipush (-5), 2) := by decide +kernel
theorem dL_isStep_168 : decode cL_isStep 168 = .ok (.goto 5, 3) := by decide +kernel
