set_option maxRecDepth 20000 in
theorem wl_21 : GoodIn lw_tbl wsL_law_r21 := goodIn_p wsL_law_r21 [464, 850, 469, 854, 473] (by decide +kernel) (by decide +kernel)
set_option maxRecDepth 20000 in
theorem wl_22 : GoodIn lw_tbl wsL_law_r22 := goodIn_p wsL_law_r22 [480, 484, 858, 862, 488, 493] (by decide +kernel) (by decide +kernel)
set_option maxRecDepth 20000 in
theorem wl_23 : GoodIn lw_tbl wsL_law_r23 := goodIn_p wsL_law_r23 [497, 866, 870, 501, 505, 509] (by decide +kernel) (by decide +kernel)
set_option maxRecDepth 20000 in
theorem wl_24 : GoodIn lw_tbl wsL_law_r24 := goodIn_p wsL_law_r24 [513, 518, 522, 874] (by decide +kernel) (by decide +kernel)
set_option maxRecDepth 20000 in
theorem wl_25 : GoodIn lw_tbl wsL_law_r25 := goodIn_p wsL_law_r25 [879, 883, 887, 891, 895, 526] (by decide +kernel) (by decide +kernel)
set_option maxRecDepth 20000 in
theorem wl_26 : GoodIn lw_tbl wsL_law_r26 := goodIn_p wsL_law_r26 [530, 534, 538, 542, 545, 549, 553] (by decide +kernel) (by decide +kernel)
set_option maxRecDepth 20000 in
theorem wl_27 : GoodIn lw_tbl wsL_law_r27 := goodIn_p wsL_law_r27 [557, 561, 565, 569, 899, 903] (by decide +kernel) (by decide +kernel)
set_option maxRecDepth 20000 in
theorem wl_28 : GoodIn lw_tbl wsL_law_r28 := goodIn_p wsL_law_r28 [907, 573, 911, 578, 582] (by decide +kernel) (by decide +kernel)
set_option maxRecDepth 20000 in
theorem wl_29 : GoodIn lw_tbl wsL_law_r29 := goodIn_p wsL_law_r29 [586, 590, 595, 599, 915, 920] (by decide +kernel) (by decide +kernel)
set_option maxRecDepth 20000 in
theorem wl_30 : GoodIn lw_tbl wsL_law_r30 := goodIn_p wsL_law_r30 [603, 607, 612, 924, 928, 932] (by decide +kernel) (by decide +kernel)
