set_option maxHeartbeats 1000000 in
set_option maxRecDepth 20000 in
theorem ggL_law_L_isWell_r9 : GoodIn wsL_law wsL_isWell_r9 := goodIn_r _ [247, 248, 444, 445, 446, 447, 448, 449, 450, 451, 452, 453, 454, 455, 456, 457, 458, 459, 460, 461, 462, 463, 464, 410] (by decide +kernel) (by decide +kernel)
set_option maxHeartbeats 1000000 in
set_option maxRecDepth 20000 in
theorem ggL_law_L_isWell_r10 : GoodIn wsL_law wsL_isWell_r10 := goodIn_r _ [411, 412, 413, 465, 466, 467, 468, 469, 470, 471, 472, 257, 473, 329, 330, 331, 332, 333, 334, 335, 336, 337, 338, 339] (by decide +kernel) (by decide +kernel)
set_option maxHeartbeats 1000000 in
set_option maxRecDepth 20000 in
theorem ggL_law_L_isWell_r11 : GoodIn wsL_law wsL_isWell_r11 := goodIn_r _ [340, 341, 342, 343, 328, 300, 301, 302, 303, 304, 305, 306, 307, 308, 309, 310, 311, 312, 313] (by decide +kernel) (by decide +kernel)
set_option maxHeartbeats 1000000 in
set_option maxRecDepth 20000 in
theorem ggL_law_L_isWell_X5 : GoodIn wsL_law wsX50 := goodIn_r _ [477, 478, 479, 480, 481, 482, 483] (by decide +kernel) (by decide +kernel)
set_option maxHeartbeats 1000000 in
set_option maxRecDepth 20000 in
theorem ggL_law_L_isWell_X3 : GoodIn wsL_law wsX30 := goodIn_r _ [484, 485, 486, 487, 488, 489] (by decide +kernel) (by decide +kernel)
set_option maxHeartbeats 1000000 in
set_option maxRecDepth 20000 in
theorem ggL_law_L_isWell_X0 : GoodIn wsL_law wsX00 := goodIn_r _ [490, 491, 492, 493, 494, 495] (by decide +kernel) (by decide +kernel)
set_option maxHeartbeats 1000000 in
set_option maxRecDepth 20000 in
theorem ggL_law_L_isWell_X1 : GoodIn wsL_law wsX10 := goodIn_r _ [496, 497, 498] (by decide +kernel) (by decide +kernel)
set_option maxHeartbeats 1000000 in
set_option maxRecDepth 20000 in
theorem ggL_law_L_isWell_X4 : GoodIn wsL_law wsX40 := goodIn_r _ [499, 500] (by decide +kernel) (by decide +kernel)
set_option maxRecDepth 20000 in
theorem ggL_law_L_isWell : GoodIn wsL_law wsL_isWell := goodIn_app ggL_law_L_isWell_h (goodIn_app (goodIn_app (goodIn_app (goodIn_app (goodIn_app (goodIn_app ggL_law_L_isWell_r1 (goodIn_app ggL_law_L_isWell_r2 (goodIn_app ggL_law_L_isWell_r3 (goodIn_app ggL_law_L_isWell_r4 (goodIn_app ggL_law_L_isWell_r5 (goodIn_app ggL_law_L_isWell_r6 (goodIn_app ggL_law_L_isWell_r7 (goodIn_app ggL_law_L_isWell_r8 (goodIn_app ggL_law_L_isWell_r9 (goodIn_app ggL_law_L_isWell_r10 (ggL_law_L_isWell_r11))))))))))) ggL_law_L_isWell_X5) ggL_law_L_isWell_X3) ggL_law_L_isWell_X0) ggL_law_L_isWell_X1) ggL_law_L_isWell_X4)
set_option maxRecDepth 100000 in
theorem ggL_law_L_areAlike_h : GoodIn wsL_law [.code yL_areAlike cL_areAlike 6 (some .boolean)] := goodIn_1 476 rfl rfl
set_option maxHeartbeats 1000000 in
set_option maxRecDepth 20000 in
theorem ggL_law_L_areAlike_r1 : GoodIn wsL_law wsL_areAlike_r1 := goodIn_r _ [444, 445, 446, 2, 447, 105, 106, 107, 108, 16, 109, 110, 111, 15, 112, 43, 46, 47, 113, 45, 114, 115, 116, 117] (by decide +kernel) (by decide +kernel)
set_option maxHeartbeats 1000000 in
set_option maxRecDepth 20000 in
theorem ggL_law_L_areAlike_r2 : GoodIn wsL_law wsL_areAlike_r2 := goodIn_r _ [118, 79, 80, 11, 81, 82, 119, 120, 121, 122, 123, 124, 125, 126, 127, 37, 99, 100, 95, 96, 97, 98, 35, 128] (by decide +kernel) (by decide +kernel)
set_option maxHeartbeats 1000000 in
set_option maxRecDepth 20000 in
theorem ggL_law_L_areAlike_r3 : GoodIn wsL_law wsL_areAlike_r3 := goodIn_r _ [129, 130, 131, 132, 133, 134, 135, 136, 44, 137, 138, 139, 140, 141, 142, 143, 144, 145, 146, 147, 148, 149, 150, 38] (by decide +kernel) (by decide +kernel)
set_option maxHeartbeats 1000000 in
set_option maxRecDepth 20000 in
theorem ggL_law_L_areAlike_r4 : GoodIn wsL_law wsL_areAlike_r4 := goodIn_r _ [151, 152, 153, 154, 155, 156, 448, 449, 450, 451, 452, 453, 454, 455, 456, 457, 458, 459, 181, 182, 183, 184, 460, 461] (by decide +kernel) (by decide +kernel)
set_option maxHeartbeats 1000000 in
set_option maxRecDepth 20000 in
theorem ggL_law_L_areAlike_r5 : GoodIn wsL_law wsL_areAlike_r5 := goodIn_r _ [462, 463, 464, 410, 411, 412, 413, 465, 466, 467, 468, 74, 75, 76, 77, 12, 20, 26, 78, 83, 84, 85, 86, 87] (by decide +kernel) (by decide +kernel)
set_option maxHeartbeats 1000000 in
set_option maxRecDepth 20000 in
theorem ggL_law_L_areAlike_r6 : GoodIn wsL_law wsL_areAlike_r6 := goodIn_r _ [88, 89, 90, 91, 92, 93, 94, 101, 102, 103, 104, 157, 158, 159, 160, 161, 162, 163, 164, 165, 166, 167, 168, 169] (by decide +kernel) (by decide +kernel)
