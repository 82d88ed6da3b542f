set_option maxHeartbeats 1000000 in
set_option maxRecDepth 20000 in
theorem ggL_law_L_isStep_r4 : GoodIn wsL_law wsL_isStep_r4 := goodIn_r _ [133, 134, 135, 136, 44, 137, 138, 139, 140, 141, 142, 143, 144, 145, 146, 147, 148, 149, 150, 38, 151, 152, 153, 154] (by decide +kernel) (by decide +kernel)
set_option maxHeartbeats 1000000 in
set_option maxRecDepth 20000 in
theorem ggL_law_L_isStep_r5 : GoodIn wsL_law wsL_isStep_r5 := goodIn_r _ [155, 156, 157, 158, 159, 160, 161, 162, 163, 164, 165, 166, 167, 168, 169, 170, 171, 172, 173, 174, 175, 176, 177, 178] (by decide +kernel) (by decide +kernel)
set_option maxHeartbeats 1000000 in
set_option maxRecDepth 20000 in
theorem ggL_law_L_isStep_r6 : GoodIn wsL_law wsL_isStep_r6 := goodIn_r _ [179, 180, 181, 182, 183, 184, 185, 186, 187, 188, 36, 189, 190, 191, 192, 193, 194, 195, 196, 197, 198, 199, 200, 201] (by decide +kernel) (by decide +kernel)
set_option maxHeartbeats 1000000 in
set_option maxRecDepth 20000 in
theorem ggL_law_L_isStep_r7 : GoodIn wsL_law wsL_isStep_r7 := goodIn_r _ [202, 203, 204, 205, 206, 207, 208, 209, 210, 211, 212, 213, 214, 215, 216, 217, 218, 219, 220, 221, 222, 223, 224, 225] (by decide +kernel) (by decide +kernel)
set_option maxHeartbeats 1000000 in
set_option maxRecDepth 20000 in
theorem ggL_law_L_isStep_r8 : GoodIn wsL_law wsL_isStep_r8 := goodIn_r _ [226, 227, 228, 229, 230, 231, 232, 233, 234, 235, 236, 237, 238, 239, 240, 241, 19, 242, 243, 244, 245, 246, 25, 247] (by decide +kernel) (by decide +kernel)
set_option maxHeartbeats 1000000 in
set_option maxRecDepth 20000 in
theorem ggL_law_L_isStep_r9 : GoodIn wsL_law wsL_isStep_r9 := goodIn_r _ [248, 249, 250, 68, 251, 252, 253, 254, 255, 256, 257, 258, 259, 260, 261, 262, 263, 264, 265, 266, 267, 268, 269, 270] (by decide +kernel) (by decide +kernel)
set_option maxHeartbeats 1000000 in
set_option maxRecDepth 20000 in
theorem ggL_law_L_isStep_r10 : GoodIn wsL_law wsL_isStep_r10 := goodIn_r _ [271, 272, 273, 274, 275, 276, 277, 53, 278, 279, 280, 281, 282, 283, 284, 285, 286, 287, 288, 289, 290, 291, 292, 293] (by decide +kernel) (by decide +kernel)
set_option maxHeartbeats 1000000 in
set_option maxRecDepth 20000 in
theorem ggL_law_L_isStep_r11 : GoodIn wsL_law wsL_isStep_r11 := goodIn_r _ [294, 295, 296, 297, 298, 299, 300, 301, 302, 303, 304, 305, 306, 307, 308, 309, 310, 311, 312, 313, 314, 315, 316, 317] (by decide +kernel) (by decide +kernel)
set_option maxHeartbeats 1000000 in
set_option maxRecDepth 20000 in
theorem ggL_law_L_isStep_r12 : GoodIn wsL_law wsL_isStep_r12 := goodIn_r _ [318, 319, 320, 321, 322, 323, 324, 325, 326, 327, 328, 329, 330, 331, 332, 333, 334, 335, 336, 337, 338, 339, 340, 341] (by decide +kernel) (by decide +kernel)
set_option maxHeartbeats 1000000 in
set_option maxRecDepth 20000 in
theorem ggL_law_L_isStep_r13 : GoodIn wsL_law wsL_isStep_r13 := goodIn_r _ [342, 343, 344, 345, 346, 347, 348, 349, 350, 351, 352, 353, 354, 355, 356, 357, 358, 359, 360, 361, 362, 363, 364, 365] (by decide +kernel) (by decide +kernel)
set_option maxHeartbeats 1000000 in
set_option maxRecDepth 20000 in
theorem ggL_law_L_isStep_r14_0 : GoodIn wsL_law [Cond.selects RX5 yX5_chosenBy yX5_chosenBy, Cond.code yX5_chosenBy cX5_chosenBy 3 (some .int), Cond.methodLink RX5 234 yX3_firstWith, Cond.instanceMethod yX3_firstWith, Cond.selects RX3 yX3_firstWith yX3_firstWith, Cond.code yX3_firstWith cX3_firstWith 3 (some .int), Cond.methodLink RX5 237 yX3_lastWith, Cond.instanceMethod yX3_lastWith, Cond.selects RX3 yX3_lastWith yX3_lastWith, Cond.code yX3_lastWith cX3_lastWith 3 (some .int), Cond.methodLink RL 51 yX5_undo, Cond.instanceMethod yX5_undo, Cond.selects RX5 yX5_undo yX5_undo, Cond.code yX5_undo cX5_undo 1 (some .int), Cond.methodLink RX5 137 yX1_takeBack, Cond.instanceMethod yX1_takeBack, Cond.selects RX1 yX1_takeBack yX1_takeBack, Cond.code yX1_takeBack cX1_takeBack 4 (some .boolean), Cond.methodLink RL 55 yL_areAnswers, Cond.static yL_areAnswers] := goodIn_r _ [366, 367, 368, 369, 370, 371, 372, 373, 374, 375, 376, 377, 378, 379, 380, 381, 382, 383, 384, 385] (by decide +kernel) (by decide +kernel)
set_option maxRecDepth 100000 in
theorem ggL_law_L_isStep_r14_1 : GoodIn wsL_law [Cond.code yL_areAnswers cL_areAnswers 15 (some .boolean)] := goodIn_1 386 rfl rfl
set_option maxHeartbeats 1000000 in
set_option maxRecDepth 20000 in
theorem ggL_law_L_isStep_r14_2 : GoodIn wsL_law [Cond.methodLink RL 59 yX5_way, Cond.instanceMethod yX5_way, Cond.selects RX5 yX5_way yX5_way] := goodIn_r _ [387, 388, 389] (by decide +kernel) (by decide +kernel)
set_option maxRecDepth 100000 in
theorem ggL_law_L_isStep_r14 : GoodIn wsL_law wsL_isStep_r14 := goodIn_app ggL_law_L_isStep_r14_0 (goodIn_app ggL_law_L_isStep_r14_1 (ggL_law_L_isStep_r14_2))
set_option maxHeartbeats 1000000 in
set_option maxRecDepth 20000 in
theorem ggL_law_L_isStep_r15 : GoodIn wsL_law wsL_isStep_r15 := goodIn_r _ [390, 391, 392, 393, 394, 395, 396, 397, 398, 399, 400, 401, 402, 403, 404, 405, 406, 407, 408, 409, 410, 411, 412, 413] (by decide +kernel) (by decide +kernel)
set_option maxHeartbeats 1000000 in
set_option maxRecDepth 20000 in
theorem ggL_law_L_isStep_r16 : GoodIn wsL_law wsL_isStep_r16 := goodIn_r _ [414, 415, 416, 417, 418, 419, 420, 421, 422, 423, 424, 425, 426, 427, 428, 429, 430, 431, 432, 433, 434, 435, 436, 437] (by decide +kernel) (by decide +kernel)
