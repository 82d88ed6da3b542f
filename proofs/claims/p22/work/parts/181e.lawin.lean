set_option maxHeartbeats 1000000 in
set_option maxRecDepth 20000 in
theorem ggL_law_L_areAlike_r7 : GoodIn wsL_law wsL_areAlike_r7 := goodIn_r _ [170, 171, 172, 173, 174, 175, 176, 177, 178, 179, 180, 185, 186, 187, 188, 36, 189, 190, 191, 192, 193, 194, 195, 196] (by decide +kernel) (by decide +kernel)
set_option maxHeartbeats 1000000 in
set_option maxRecDepth 20000 in
theorem ggL_law_L_areAlike_r8 : GoodIn wsL_law wsL_areAlike_r8 := goodIn_r _ [197, 198, 199, 200, 201, 202, 203, 204, 205, 206, 207, 208, 209, 210, 211, 212, 213, 214, 215, 216, 217, 218, 219, 220] (by decide +kernel) (by decide +kernel)
set_option maxHeartbeats 1000000 in
set_option maxRecDepth 20000 in
theorem ggL_law_L_areAlike_r9 : GoodIn wsL_law wsL_areAlike_r9 := goodIn_r _ [221, 222, 223, 224, 225, 226, 227, 228, 229, 230, 231, 232, 233, 234, 235, 236, 237, 238, 239, 240, 241, 19, 242, 243] (by decide +kernel) (by decide +kernel)
set_option maxHeartbeats 1000000 in
set_option maxRecDepth 20000 in
theorem ggL_law_L_areAlike_r10 : GoodIn wsL_law wsL_areAlike_r10 := goodIn_r _ [244, 245, 246, 25, 247, 248, 300, 301, 302, 303, 304, 305, 306, 307, 308, 309, 310, 311, 312, 313, 297, 298, 68, 299] (by decide +kernel) (by decide +kernel)
set_option maxHeartbeats 1000000 in
set_option maxRecDepth 20000 in
theorem ggL_law_L_areAlike_r11 : GoodIn wsL_law wsL_areAlike_r11 := goodIn_r _ [294, 295, 296, 329, 330, 331, 332, 257, 333, 334, 335, 336, 337, 338, 339, 340, 341, 342, 343, 328, 418, 419, 420, 421] (by decide +kernel) (by decide +kernel)
set_option maxHeartbeats 1000000 in
set_option maxRecDepth 20000 in
theorem ggL_law_L_areAlike_r12 : GoodIn wsL_law wsL_areAlike_r12 := goodIn_r _ [258, 259, 260, 422, 423, 424, 425, 426, 427, 387, 388, 389, 390, 391, 392, 393, 394, 395, 396, 397, 398, 399, 400, 401] (by decide +kernel) (by decide +kernel)
set_option maxHeartbeats 1000000 in
set_option maxRecDepth 20000 in
theorem ggL_law_L_areAlike_r13 : GoodIn wsL_law wsL_areAlike_r13 := goodIn_r _ [402, 403, 404, 405, 406, 407, 408, 409, 414, 415, 416, 417] (by decide +kernel) (by decide +kernel)
set_option maxHeartbeats 1000000 in
set_option maxRecDepth 20000 in
theorem ggL_law_L_areAlike_X5 : GoodIn wsL_law wsX50 := goodIn_r _ [477, 478, 479, 480, 481, 482, 483] (by decide +kernel) (by decide +kernel)
set_option maxHeartbeats 1000000 in
set_option maxRecDepth 20000 in
theorem ggL_law_L_areAlike_X0 : GoodIn wsL_law wsX00 := goodIn_r _ [490, 491, 492, 493, 494, 495] (by decide +kernel) (by decide +kernel)
set_option maxHeartbeats 1000000 in
set_option maxRecDepth 20000 in
theorem ggL_law_L_areAlike_X3 : GoodIn wsL_law wsX30 := goodIn_r _ [484, 485, 486, 487, 488, 489] (by decide +kernel) (by decide +kernel)
set_option maxHeartbeats 1000000 in
set_option maxRecDepth 20000 in
theorem ggL_law_L_areAlike_X1 : GoodIn wsL_law wsX10 := goodIn_r _ [496, 497, 498] (by decide +kernel) (by decide +kernel)
set_option maxHeartbeats 1000000 in
set_option maxRecDepth 20000 in
theorem ggL_law_L_areAlike_X4 : GoodIn wsL_law wsX40 := goodIn_r _ [499, 500] (by decide +kernel) (by decide +kernel)
set_option maxRecDepth 20000 in
theorem ggL_law_L_areAlike : GoodIn wsL_law wsL_areAlike := goodIn_app ggL_law_L_areAlike_h (goodIn_app (goodIn_app (goodIn_app (goodIn_app (goodIn_app (goodIn_app ggL_law_L_areAlike_r1 (goodIn_app ggL_law_L_areAlike_r2 (goodIn_app ggL_law_L_areAlike_r3 (goodIn_app ggL_law_L_areAlike_r4 (goodIn_app ggL_law_L_areAlike_r5 (goodIn_app ggL_law_L_areAlike_r6 (goodIn_app ggL_law_L_areAlike_r7 (goodIn_app ggL_law_L_areAlike_r8 (goodIn_app ggL_law_L_areAlike_r9 (goodIn_app ggL_law_L_areAlike_r10 (goodIn_app ggL_law_L_areAlike_r11 (goodIn_app ggL_law_L_areAlike_r12 (ggL_law_L_areAlike_r13))))))))))))) ggL_law_L_areAlike_X5) ggL_law_L_areAlike_X0) ggL_law_L_areAlike_X3) ggL_law_L_areAlike_X1) ggL_law_L_areAlike_X4)
