theorem wl_app {big a b : List Cond} (h1 : GoodIn big a) (h2 : GoodIn big b) : GoodIn big (a ++ b) := fun w h => (List.mem_append.mp h).elim (h1 w) (h2 w)
set_option maxRecDepth 20000 in
theorem wl_1 : GoodIn lw_tbl wsL_law_r1 := goodIn_p wsL_law_r1 [74, 77] (by decide +kernel) (by decide +kernel)
set_option maxRecDepth 20000 in
theorem wl_2 : GoodIn lw_tbl wsL_law_r2 := goodIn_p wsL_law_r2 [82, 108] (by decide +kernel) (by decide +kernel)
set_option maxRecDepth 20000 in
theorem wl_3 : GoodIn lw_tbl wsL_law_r3 := goodIn_p wsL_law_r3 [133, 152, 166, 658] (by decide +kernel) (by decide +kernel)
set_option maxRecDepth 20000 in
theorem wl_4 : GoodIn lw_tbl wsL_law_r4 := goodIn_p wsL_law_r4 [205, 208, 211] (by decide +kernel) (by decide +kernel)
set_option maxRecDepth 20000 in
theorem wl_5 : GoodIn lw_tbl wsL_law_r5 := goodIn_p wsL_law_r5 [215, 219, 233, 223, 227, 230] (by decide +kernel) (by decide +kernel)
set_option maxRecDepth 20000 in
theorem wl_6 : GoodIn lw_tbl wsL_law_r6 := goodIn_p wsL_law_r6 [241, 245, 249, 724, 727] (by decide +kernel) (by decide +kernel)
set_option maxRecDepth 20000 in
theorem wl_7 : GoodIn lw_tbl wsL_law_r7 := goodIn_p wsL_law_r7 [731, 734, 741, 745, 749] (by decide +kernel) (by decide +kernel)
set_option maxRecDepth 20000 in
theorem wl_8 : GoodIn lw_tbl wsL_law_r8 := goodIn_p wsL_law_r8 [253, 257, 261, 265, 269, 273] (by decide +kernel) (by decide +kernel)
set_option maxRecDepth 20000 in
theorem wl_9 : GoodIn lw_tbl wsL_law_r9 := goodIn_p wsL_law_r9 [277, 281, 286, 290, 294] (by decide +kernel) (by decide +kernel)
set_option maxRecDepth 20000 in
theorem wl_10 : GoodIn lw_tbl wsL_law_r10 := goodIn_p wsL_law_r10 [298, 302, 305, 309, 313, 317, 822] (by decide +kernel) (by decide +kernel)
