set_option maxHeartbeats 1000000 in
set_option maxRecDepth 20000 in
theorem ggL_law_X5_init_h : GoodIn wsL_law [.code yX5_init cX5_init 1 none] := goodIn_r _ [5] (by decide +kernel) (by decide +kernel)
set_option maxHeartbeats 1000000 in
set_option maxRecDepth 20000 in
theorem ggL_law_X5_init_r1 : GoodIn wsL_law wsX5_init_r1 := goodIn_r _ [6, 7, 8, 9, 10, 11, 12, 13, 14, 15, 16, 17, 18, 19, 20, 21, 22, 23, 24, 25, 26, 27, 28, 29] (by decide +kernel) (by decide +kernel)
set_option maxHeartbeats 1000000 in
set_option maxRecDepth 20000 in
theorem ggL_law_X5_init_r2 : GoodIn wsL_law wsX5_init_r2 := goodIn_r _ [30, 31, 32, 33, 34, 35, 36, 37, 38, 39, 40, 41, 42, 43, 44, 45, 46, 47, 48, 49, 50, 51, 52, 53] (by decide +kernel) (by decide +kernel)
set_option maxHeartbeats 1000000 in
set_option maxRecDepth 20000 in
theorem ggL_law_X5_init_r3 : GoodIn wsL_law wsX5_init_r3 := goodIn_r _ [54, 55, 56, 57, 58, 59, 60, 61, 62, 63, 64, 65] (by decide +kernel) (by decide +kernel)
set_option maxHeartbeats 1000000 in
set_option maxRecDepth 20000 in
theorem ggL_law_X5_init_X3 : GoodIn wsL_law wsX30 := goodIn_r _ [484, 485, 486, 487, 488, 489] (by decide +kernel) (by decide +kernel)
set_option maxHeartbeats 1000000 in
set_option maxRecDepth 20000 in
theorem ggL_law_X5_init_X5 : GoodIn wsL_law wsX50 := goodIn_r _ [477, 478, 479, 480, 481, 482, 483] (by decide +kernel) (by decide +kernel)
set_option maxHeartbeats 1000000 in
set_option maxRecDepth 20000 in
theorem ggL_law_X5_init_X0 : GoodIn wsL_law wsX00 := goodIn_r _ [490, 491, 492, 493, 494, 495] (by decide +kernel) (by decide +kernel)
set_option maxHeartbeats 1000000 in
set_option maxRecDepth 20000 in
theorem ggL_law_X5_init_X1 : GoodIn wsL_law wsX10 := goodIn_r _ [496, 497, 498] (by decide +kernel) (by decide +kernel)
set_option maxHeartbeats 1000000 in
set_option maxRecDepth 20000 in
theorem ggL_law_X5_init_X4 : GoodIn wsL_law wsX40 := goodIn_r _ [499, 500] (by decide +kernel) (by decide +kernel)
set_option maxHeartbeats 1000000 in
set_option maxRecDepth 20000 in
theorem ggL_law_X5_init_X2 : GoodIn wsL_law wsX20 := goodIn_r _ [501, 502, 503] (by decide +kernel) (by decide +kernel)
set_option maxRecDepth 20000 in
theorem ggL_law_X5_init : GoodIn wsL_law wsX5_init := goodIn_app ggL_law_X5_init_h (goodIn_app (goodIn_app (goodIn_app (goodIn_app (goodIn_app (goodIn_app (goodIn_app ggL_law_X5_init_r1 (goodIn_app ggL_law_X5_init_r2 (ggL_law_X5_init_r3))) ggL_law_X5_init_X3) ggL_law_X5_init_X5) ggL_law_X5_init_X0) ggL_law_X5_init_X1) ggL_law_X5_init_X4) ggL_law_X5_init_X2)
set_option maxRecDepth 20000 in
theorem ggL_law_L_cell : GoodIn wsL_law wsL_cell := goodIn_r _ [69, 70] (by decide +kernel) (by decide +kernel)
set_option maxRecDepth 100000 in
theorem ggL_law_L_isStep_h : GoodIn wsL_law [.code yL_isStep cL_isStep 12 (some .boolean)] := goodIn_1 73 rfl rfl
set_option maxHeartbeats 1000000 in
set_option maxRecDepth 20000 in
theorem ggL_law_L_isStep_r1 : GoodIn wsL_law wsL_isStep_r1 := goodIn_r _ [74, 75, 76, 2, 77, 12, 20, 26, 78, 79, 80, 11, 81, 82, 83, 84, 85, 86, 87, 88, 89, 90, 91, 92] (by decide +kernel) (by decide +kernel)
set_option maxHeartbeats 1000000 in
set_option maxRecDepth 20000 in
theorem ggL_law_L_isStep_r2 : GoodIn wsL_law wsL_isStep_r2 := goodIn_r _ [93, 94, 95, 96, 97, 98, 35, 99, 100, 101, 102, 103, 104, 105, 106, 107, 108, 16, 109, 110, 111, 15, 112, 43] (by decide +kernel) (by decide +kernel)
set_option maxHeartbeats 1000000 in
set_option maxRecDepth 20000 in
theorem ggL_law_L_isStep_r3 : GoodIn wsL_law wsL_isStep_r3 := goodIn_r _ [46, 47, 113, 45, 114, 115, 116, 117, 118, 119, 120, 121, 122, 123, 124, 125, 126, 127, 37, 128, 129, 130, 131, 132] (by decide +kernel) (by decide +kernel)
