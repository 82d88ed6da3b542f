set_option maxHeartbeats 1000000 in
set_option maxRecDepth 20000 in
theorem ggL_law_X5_init_h : GoodIn wsL_law [.code yX5_init cX5_init 1 none] := goodIn_r _ [5] (by decide +kernel) (by decide +kernel)
set_option maxHeartbeats 1000000 in
set_option maxRecDepth 20000 in
theorem ggL_law_X5_init_r1 : GoodIn wsL_law wsX5_init_r1 := goodIn_r _ [6, 7, 8, 9, 10, 11, 12, 13, 14, 15, 16, 17, 18, 19, 20, 21, 22, 23, 24, 25, 26, 27, 28, 29] (by decide +kernel) (by decide +kernel)
set_option maxHeartbeats 1000000 in
set_option maxRecDepth 20000 in
theorem ggL_law_X5_init_r2 : GoodIn wsL_law wsX5_init_r2 := goodIn_r _ [30, 31, 32, 33, 34, 35, 36, 37, 38, 39, 40, 41, 42, 43, 44, 45, 46, 47, 48, 49, 50, 51, 52, 53] (by decide +kernel) (by decide +kernel)
set_option maxHeartbeats 1000000 in
set_option maxRecDepth 20000 in
theorem ggL_law_X5_init_r3 : GoodIn wsL_law wsX5_init_r3 := goodIn_r _ [54, 55, 56, 57, 58, 59, 60, 61, 62, 63, 64, 65] (by decide +kernel) (by decide +kernel)
set_option maxHeartbeats 1000000 in
set_option maxRecDepth 20000 in
theorem ggL_law_X5_init_X3 : GoodIn wsL_law wsX30 := goodIn_r _ [484, 485, 486, 487, 488, 489] (by decide +kernel) (by decide +kernel)
set_option maxHeartbeats 1000000 in
set_option maxRecDepth 20000 in
theorem ggL_law_X5_init_X5 : GoodIn wsL_law wsX50 := goodIn_r _ [477, 478, 479, 480, 481, 482, 483] (by decide +kernel) (by decide +kernel)
set_option maxHeartbeats 1000000 in
set_option maxRecDepth 20000 in
theorem ggL_law_X5_init_X0 : GoodIn wsL_law wsX00 := goodIn_r _ [490, 491, 492, 493, 494, 495] (by decide +kernel) (by decide +kernel)
set_option maxHeartbeats 1000000 in
set_option maxRecDepth 20000 in
theorem ggL_law_X5_init_X1 : GoodIn wsL_law wsX10 := goodIn_r _ [496, 497, 498] (by decide +kernel) (by decide +kernel)
set_option maxHeartbeats 1000000 in
set_option maxRecDepth 20000 in
theorem ggL_law_X5_init_X4 : GoodIn wsL_law wsX40 := goodIn_r _ [499, 500] (by decide +kernel) (by decide +kernel)
set_option maxHeartbeats 1000000 in
set_option maxRecDepth 20000 in
theorem ggL_law_X5_init_X2 : GoodIn wsL_law wsX20 := goodIn_r _ [501, 502, 503] (by decide +kernel) (by decide +kernel)
set_option maxRecDepth 20000 in
theorem ggL_law_L_cell : GoodIn wsL_law wsL_cell := goodIn_r _ [69, 70] (by decide +kernel) (by decide +kernel)
set_option maxHeartbeats 1000000 in
set_option maxRecDepth 20000 in
theorem ggL_law_L_isStep_h : GoodIn wsL_law [.code yL_isStep cL_isStep 12 (some .boolean)] := goodIn_r _ [73] (by decide +kernel) (by decide +kernel)
set_option maxHeartbeats 1000000 in
set_option maxRecDepth 20000 in
theorem ggL_law_L_isStep_r1 : GoodIn wsL_law wsL_isStep_r1 := goodIn_r _ [74, 75, 76, 2, 77, 12, 20, 26, 78, 79, 80, 11, 81, 82, 83, 84, 85, 86, 87, 88, 89, 90, 91, 92] (by decide +kernel) (by decide +kernel)
set_option maxHeartbeats 1000000 in
set_option maxRecDepth 20000 in
theorem ggL_law_L_isStep_r2 : GoodIn wsL_law wsL_isStep_r2 := goodIn_r _ [93, 94, 95, 96, 97, 98, 35, 99, 100, 101, 102, 103, 104, 105, 106, 107, 108, 16, 109, 110, 111, 15, 112, 43] (by decide +kernel) (by decide +kernel)
set_option maxHeartbeats 1000000 in
set_option maxRecDepth 20000 in
theorem ggL_law_L_isStep_r3 : GoodIn wsL_law wsL_isStep_r3 := goodIn_r _ [46, 47, 113, 45, 114, 115, 116, 117, 118, 119, 120, 121, 122, 123, 124, 125, 126, 127, 37, 128, 129, 130, 131, 132] (by decide +kernel) (by decide +kernel)
set_option maxHeartbeats 1000000 in
set_option maxRecDepth 20000 in
theorem ggL_law_L_isStep_r4 : GoodIn wsL_law wsL_isStep_r4 := goodIn_r _ [133, 134, 135, 136, 44, 137, 138, 139, 140, 141, 142, 143, 144, 145, 146, 147, 148, 149, 150, 38, 151, 152, 153, 154] (by decide +kernel) (by decide +kernel)
set_option maxHeartbeats 1000000 in
set_option maxRecDepth 20000 in
theorem ggL_law_L_isStep_r5 : GoodIn wsL_law wsL_isStep_r5 := goodIn_r _ [155, 156, 157, 158, 159, 160, 161, 162, 163, 164, 165, 166, 167, 168, 169, 170, 171, 172, 173, 174, 175, 176, 177, 178] (by decide +kernel) (by decide +kernel)
set_option maxHeartbeats 1000000 in
set_option maxRecDepth 20000 in
theorem ggL_law_L_isStep_r6 : GoodIn wsL_law wsL_isStep_r6 := goodIn_r _ [179, 180, 181, 182, 183, 184, 185, 186, 187, 188, 36, 189, 190, 191, 192, 193, 194, 195, 196, 197, 198, 199, 200, 201] (by decide +kernel) (by decide +kernel)
set_option maxHeartbeats 1000000 in
set_option maxRecDepth 20000 in
theorem ggL_law_L_isStep_r7 : GoodIn wsL_law wsL_isStep_r7 := goodIn_r _ [202, 203, 204, 205, 206, 207, 208, 209, 210, 211, 212, 213, 214, 215, 216, 217, 218, 219, 220, 221, 222, 223, 224, 225] (by decide +kernel) (by decide +kernel)
set_option maxHeartbeats 1000000 in
set_option maxRecDepth 20000 in
theorem ggL_law_L_isStep_r8 : GoodIn wsL_law wsL_isStep_r8 := goodIn_r _ [226, 227, 228, 229, 230, 231, 232, 233, 234, 235, 236, 237, 238, 239, 240, 241, 19, 242, 243, 244, 245, 246, 25, 247] (by decide +kernel) (by decide +kernel)
set_option maxHeartbeats 1000000 in
set_option maxRecDepth 20000 in
theorem ggL_law_L_isStep_r9 : GoodIn wsL_law wsL_isStep_r9 := goodIn_r _ [248, 249, 250, 68, 251, 252, 253, 254, 255, 256, 257, 258, 259, 260, 261, 262, 263, 264, 265, 266, 267, 268, 269, 270] (by decide +kernel) (by decide +kernel)
set_option maxHeartbeats 1000000 in
set_option maxRecDepth 20000 in
theorem ggL_law_L_isStep_r10 : GoodIn wsL_law wsL_isStep_r10 := goodIn_r _ [271, 272, 273, 274, 275, 276, 277, 53, 278, 279, 280, 281, 282, 283, 284, 285, 286, 287, 288, 289, 290, 291, 292, 293] (by decide +kernel) (by decide +kernel)
set_option maxHeartbeats 1000000 in
set_option maxRecDepth 20000 in
theorem ggL_law_L_isStep_r11 : GoodIn wsL_law wsL_isStep_r11 := goodIn_r _ [294, 295, 296, 297, 298, 299, 300, 301, 302, 303, 304, 305, 306, 307, 308, 309, 310, 311, 312, 313, 314, 315, 316, 317] (by decide +kernel) (by decide +kernel)
set_option maxHeartbeats 1000000 in
set_option maxRecDepth 20000 in
theorem ggL_law_L_isStep_r12 : GoodIn wsL_law wsL_isStep_r12 := goodIn_r _ [318, 319, 320, 321, 322, 323, 324, 325, 326, 327, 328, 329, 330, 331, 332, 333, 334, 335, 336, 337, 338, 339, 340, 341] (by decide +kernel) (by decide +kernel)
set_option maxHeartbeats 1000000 in
set_option maxRecDepth 20000 in
theorem ggL_law_L_isStep_r13 : GoodIn wsL_law wsL_isStep_r13 := goodIn_r _ [342, 343, 344, 345, 346, 347, 348, 349, 350, 351, 352, 353, 354, 355, 356, 357, 358, 359, 360, 361, 362, 363, 364, 365] (by decide +kernel) (by decide +kernel)
set_option maxHeartbeats 1000000 in
set_option maxRecDepth 20000 in
theorem ggL_law_L_isStep_r14 : GoodIn wsL_law wsL_isStep_r14 := goodIn_r _ [366, 367, 368, 369, 370, 371, 372, 373, 374, 375, 376, 377, 378, 379, 380, 381, 382, 383, 384, 385, 386, 387, 388, 389] (by decide +kernel) (by decide +kernel)
set_option maxHeartbeats 1000000 in
set_option maxRecDepth 20000 in
theorem ggL_law_L_isStep_r15 : GoodIn wsL_law wsL_isStep_r15 := goodIn_r _ [390, 391, 392, 393, 394, 395, 396, 397, 398, 399, 400, 401, 402, 403, 404, 405, 406, 407, 408, 409, 410, 411, 412, 413] (by decide +kernel) (by decide +kernel)
set_option maxHeartbeats 1000000 in
set_option maxRecDepth 20000 in
theorem ggL_law_L_isStep_r16 : GoodIn wsL_law wsL_isStep_r16 := goodIn_r _ [414, 415, 416, 417, 418, 419, 420, 421, 422, 423, 424, 425, 426, 427, 428, 429, 430, 431, 432, 433, 434, 435, 436, 437] (by decide +kernel) (by decide +kernel)
set_option maxHeartbeats 1000000 in
set_option maxRecDepth 20000 in
theorem ggL_law_L_isStep_r17 : GoodIn wsL_law wsL_isStep_r17 := goodIn_r _ [438, 439, 440] (by decide +kernel) (by decide +kernel)
set_option maxHeartbeats 1000000 in
set_option maxRecDepth 20000 in
theorem ggL_law_L_isStep_X5 : GoodIn wsL_law wsX50 := goodIn_r _ [477, 478, 479, 480, 481, 482, 483] (by decide +kernel) (by decide +kernel)
set_option maxHeartbeats 1000000 in
set_option maxRecDepth 20000 in
theorem ggL_law_L_isStep_X3 : GoodIn wsL_law wsX30 := goodIn_r _ [484, 485, 486, 487, 488, 489] (by decide +kernel) (by decide +kernel)
set_option maxHeartbeats 1000000 in
set_option maxRecDepth 20000 in
theorem ggL_law_L_isStep_X0 : GoodIn wsL_law wsX00 := goodIn_r _ [490, 491, 492, 493, 494, 495] (by decide +kernel) (by decide +kernel)
set_option maxHeartbeats 1000000 in
set_option maxRecDepth 20000 in
theorem ggL_law_L_isStep_X1 : GoodIn wsL_law wsX10 := goodIn_r _ [496, 497, 498] (by decide +kernel) (by decide +kernel)
set_option maxHeartbeats 1000000 in
set_option maxRecDepth 20000 in
theorem ggL_law_L_isStep_X4 : GoodIn wsL_law wsX40 := goodIn_r _ [499, 500] (by decide +kernel) (by decide +kernel)
set_option maxHeartbeats 1000000 in
set_option maxRecDepth 20000 in
theorem ggL_law_L_isWell_h : GoodIn wsL_law [.code yL_isWell cL_isWell 17 (some .boolean)] := goodIn_r _ [443] (by decide +kernel) (by decide +kernel)
