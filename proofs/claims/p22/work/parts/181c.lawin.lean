set_option maxHeartbeats 1000000 in
set_option maxRecDepth 20000 in
theorem ggL_law_L_isStep_r17 : GoodIn wsL_law wsL_isStep_r17 := goodIn_r _ [438, 439, 440] (by decide +kernel) (by decide +kernel)
set_option maxHeartbeats 1000000 in
set_option maxRecDepth 20000 in
theorem ggL_law_L_isStep_X5 : GoodIn wsL_law wsX50 := goodIn_r _ [477, 478, 479, 480, 481, 482, 483] (by decide +kernel) (by decide +kernel)
set_option maxHeartbeats 1000000 in
set_option maxRecDepth 20000 in
theorem ggL_law_L_isStep_X3 : GoodIn wsL_law wsX30 := goodIn_r _ [484, 485, 486, 487, 488, 489] (by decide +kernel) (by decide +kernel)
set_option maxHeartbeats 1000000 in
set_option maxRecDepth 20000 in
theorem ggL_law_L_isStep_X0 : GoodIn wsL_law wsX00 := goodIn_r _ [490, 491, 492, 493, 494, 495] (by decide +kernel) (by decide +kernel)
set_option maxHeartbeats 1000000 in
set_option maxRecDepth 20000 in
theorem ggL_law_L_isStep_X1 : GoodIn wsL_law wsX10 := goodIn_r _ [496, 497, 498] (by decide +kernel) (by decide +kernel)
set_option maxHeartbeats 1000000 in
set_option maxRecDepth 20000 in
theorem ggL_law_L_isStep_X4 : GoodIn wsL_law wsX40 := goodIn_r _ [499, 500] (by decide +kernel) (by decide +kernel)
set_option maxRecDepth 20000 in
theorem ggL_law_L_isStep : GoodIn wsL_law wsL_isStep := goodIn_app ggL_law_L_isStep_h (goodIn_app (goodIn_app (goodIn_app (goodIn_app (goodIn_app (goodIn_app ggL_law_L_isStep_r1 (goodIn_app ggL_law_L_isStep_r2 (goodIn_app ggL_law_L_isStep_r3 (goodIn_app ggL_law_L_isStep_r4 (goodIn_app ggL_law_L_isStep_r5 (goodIn_app ggL_law_L_isStep_r6 (goodIn_app ggL_law_L_isStep_r7 (goodIn_app ggL_law_L_isStep_r8 (goodIn_app ggL_law_L_isStep_r9 (goodIn_app ggL_law_L_isStep_r10 (goodIn_app ggL_law_L_isStep_r11 (goodIn_app ggL_law_L_isStep_r12 (goodIn_app ggL_law_L_isStep_r13 (goodIn_app ggL_law_L_isStep_r14 (goodIn_app ggL_law_L_isStep_r15 (goodIn_app ggL_law_L_isStep_r16 (ggL_law_L_isStep_r17))))))))))))))))) ggL_law_L_isStep_X5) ggL_law_L_isStep_X3) ggL_law_L_isStep_X0) ggL_law_L_isStep_X1) ggL_law_L_isStep_X4)
set_option maxRecDepth 100000 in
theorem ggL_law_L_isWell_h : GoodIn wsL_law [.code yL_isWell cL_isWell 17 (some .boolean)] := goodIn_1 443 rfl rfl
set_option maxHeartbeats 1000000 in
set_option maxRecDepth 20000 in
theorem ggL_law_L_isWell_r1 : GoodIn wsL_law wsL_isWell_r1 := goodIn_r _ [34, 74, 75, 76, 2, 77, 12, 20, 26, 78, 79, 80, 11, 81, 82, 83, 84, 85, 86, 87, 88, 89, 90, 91] (by decide +kernel) (by decide +kernel)
set_option maxHeartbeats 1000000 in
set_option maxRecDepth 20000 in
theorem ggL_law_L_isWell_r2 : GoodIn wsL_law wsL_isWell_r2 := goodIn_r _ [92, 93, 94, 95, 96, 97, 98, 35, 99, 100, 101, 102, 103, 104, 105, 106, 107, 108, 16, 109, 110, 111, 15, 112] (by decide +kernel) (by decide +kernel)
set_option maxHeartbeats 1000000 in
set_option maxRecDepth 20000 in
theorem ggL_law_L_isWell_r3 : GoodIn wsL_law wsL_isWell_r3 := goodIn_r _ [43, 46, 47, 113, 45, 114, 115, 116, 117, 118, 119, 120, 121, 122, 123, 124, 125, 126, 127, 37, 128, 129, 130, 131] (by decide +kernel) (by decide +kernel)
set_option maxHeartbeats 1000000 in
set_option maxRecDepth 20000 in
theorem ggL_law_L_isWell_r4 : GoodIn wsL_law wsL_isWell_r4 := goodIn_r _ [132, 133, 134, 135, 136, 44, 137, 138, 139, 140, 141, 142, 143, 144, 145, 146, 147, 148, 149, 150, 38, 151, 152, 153] (by decide +kernel) (by decide +kernel)
set_option maxHeartbeats 1000000 in
set_option maxRecDepth 20000 in
theorem ggL_law_L_isWell_r5 : GoodIn wsL_law wsL_isWell_r5 := goodIn_r _ [154, 155, 156, 157, 158, 159, 160, 161, 162, 163, 164, 165, 166, 167, 168, 169, 170, 171, 172, 173, 174, 175, 176, 177] (by decide +kernel) (by decide +kernel)
set_option maxHeartbeats 1000000 in
set_option maxRecDepth 20000 in
theorem ggL_law_L_isWell_r6 : GoodIn wsL_law wsL_isWell_r6 := goodIn_r _ [178, 179, 180, 181, 182, 183, 184, 185, 186, 187, 188, 36, 189, 190, 191, 192, 193, 194, 195, 196, 197, 198, 199, 200] (by decide +kernel) (by decide +kernel)
set_option maxHeartbeats 1000000 in
set_option maxRecDepth 20000 in
theorem ggL_law_L_isWell_r7 : GoodIn wsL_law wsL_isWell_r7 := goodIn_r _ [201, 202, 203, 204, 205, 206, 207, 208, 209, 210, 211, 212, 213, 214, 215, 216, 217, 218, 219, 220, 221, 222, 223, 224] (by decide +kernel) (by decide +kernel)
set_option maxHeartbeats 1000000 in
set_option maxRecDepth 20000 in
theorem ggL_law_L_isWell_r8 : GoodIn wsL_law wsL_isWell_r8 := goodIn_r _ [225, 226, 227, 228, 229, 230, 231, 232, 233, 234, 235, 236, 237, 238, 239, 240, 241, 19, 242, 243, 244, 245, 246, 25] (by decide +kernel) (by decide +kernel)
