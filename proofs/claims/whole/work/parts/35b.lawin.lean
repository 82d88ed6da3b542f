set_option maxRecDepth 20000 in
theorem wl_11 : GoodIn lw_tbl wsL_law_r11 := goodIn_p wsL_law_r11 [826, 830, 834, 838, 842] (by decide +kernel) (by decide +kernel)
set_option maxRecDepth 20000 in
theorem wl_12 : GoodIn lw_tbl wsL_law_r12 := goodIn_p wsL_law_r12 [322, 326, 330, 335, 753, 757] (by decide +kernel) (by decide +kernel)
set_option maxRecDepth 20000 in
theorem wl_13 : GoodIn lw_tbl wsL_law_r13 := goodIn_p wsL_law_r13 [761, 339, 344, 348, 765] (by decide +kernel) (by decide +kernel)
set_option maxRecDepth 20000 in
theorem wl_14 : GoodIn lw_tbl wsL_law_r14 := goodIn_p wsL_law_r14 [769, 773, 352, 356, 360, 365] (by decide +kernel) (by decide +kernel)
set_option maxRecDepth 20000 in
theorem wl_15 : GoodIn lw_tbl wsL_law_r15 := goodIn_p wsL_law_r15 [369, 373, 377, 777, 782, 786] (by decide +kernel) (by decide +kernel)
set_option maxRecDepth 20000 in
theorem wl_16 : GoodIn lw_tbl wsL_law_r16 := goodIn_p wsL_law_r16 [790, 794, 381, 385, 389, 393] (by decide +kernel) (by decide +kernel)
set_option maxRecDepth 20000 in
theorem wl_17 : GoodIn lw_tbl wsL_law_r17 := goodIn_p wsL_law_r17 [397, 400, 405, 411, 415] (by decide +kernel) (by decide +kernel)
set_option maxRecDepth 20000 in
theorem wl_18 : GoodIn lw_tbl wsL_law_r18 := goodIn_p wsL_law_r18 [421, 427, 431, 798, 802, 806] (by decide +kernel) (by decide +kernel)
set_option maxRecDepth 20000 in
theorem wl_19 : GoodIn lw_tbl wsL_law_r19 := goodIn_p wsL_law_r19 [810, 435, 439, 814, 444] (by decide +kernel) (by decide +kernel)
set_option maxRecDepth 20000 in
theorem wl_20 : GoodIn lw_tbl wsL_law_r20 := goodIn_p wsL_law_r20 [448, 818, 452, 456, 460, 846] (by decide +kernel) (by decide +kernel)
