set_option maxRecDepth 20000 in
theorem wl_14 : GoodIn lw_tbl wsL_law_r14 := goodIn_p wsL_law_r14 [407, 411, 416, 422] (by decide +kernel) (by decide +kernel)
set_option maxRecDepth 20000 in
theorem wl_15 : GoodIn lw_tbl wsL_law_r15 := goodIn_p wsL_law_r15 [428, 433, 437, 441, 445, 449] (by decide +kernel) (by decide +kernel)
set_option maxRecDepth 20000 in
theorem wl_16 : GoodIn lw_tbl wsL_law_r16 := goodIn_p wsL_law_r16 [453, 457, 461, 465, 469, 473] (by decide +kernel) (by decide +kernel)
set_option maxRecDepth 20000 in
theorem wl_17_0 : GoodIn lw_tbl [Cond.methodLink RL 55 yL_areAnswers, Cond.static yL_areAnswers] := goodIn_p [Cond.methodLink RL 55 yL_areAnswers, Cond.static yL_areAnswers] [] (by decide +kernel) (by decide +kernel)
set_option maxRecDepth 100000 in
theorem wl_17_1 : GoodIn lw_tbl [Cond.code yL_areAnswers cL_areAnswers 15 (some .boolean)] := goodIn_1 476 rfl rfl
set_option maxRecDepth 20000 in
theorem wl_17_2 : GoodIn lw_tbl [Cond.methodLink RL 59 yX5_way, Cond.instanceMethod yX5_way, Cond.selects RX5 yX5_way yX5_way, Cond.code yX5_way cX5_way 5 (some .int), Cond.methodLink RX5 185 yX0_isSureWay, Cond.instanceMethod yX0_isSureWay, Cond.selects RX0 yX0_isSureWay yX0_isSureWay, Cond.code yX0_isSureWay cX0_isSureWay 3 (some .boolean), Cond.methodLink RX0 117 yX0_contains, Cond.static yX0_contains, Cond.code yX0_contains cX0_contains 2 (some .boolean), Cond.methodLink RX5 189 yX0_fewestPointers, Cond.instanceMethod yX0_fewestPointers, Cond.selects RX0 yX0_fewestPointers yX0_fewestPointers, Cond.code yX0_fewestPointers cX0_fewestPointers 5 (some .int), Cond.methodLink RX5 192 yX0_mendingsWithWay, Cond.instanceMethod yX0_mendingsWithWay, Cond.selects RX0 yX0_mendingsWithWay yX0_mendingsWithWay, Cond.code yX0_mendingsWithWay cX0_mendingsWithWay 5 (some .int), Cond.methodLink RX0 110 yX0_holdsIn, Cond.instanceMethod yX0_holdsIn] := goodIn_p [Cond.methodLink RL 59 yX5_way, Cond.instanceMethod yX5_way, Cond.selects RX5 yX5_way yX5_way, Cond.code yX5_way cX5_way 5 (some .int), Cond.methodLink RX5 185 yX0_isSureWay, Cond.instanceMethod yX0_isSureWay, Cond.selects RX0 yX0_isSureWay yX0_isSureWay, Cond.code yX0_isSureWay cX0_isSureWay 3 (some .boolean), Cond.methodLink RX0 117 yX0_contains, Cond.static yX0_contains, Cond.code yX0_contains cX0_contains 2 (some .boolean), Cond.methodLink RX5 189 yX0_fewestPointers, Cond.instanceMethod yX0_fewestPointers, Cond.selects RX0 yX0_fewestPointers yX0_fewestPointers, Cond.code yX0_fewestPointers cX0_fewestPointers 5 (some .int), Cond.methodLink RX5 192 yX0_mendingsWithWay, Cond.instanceMethod yX0_mendingsWithWay, Cond.selects RX0 yX0_mendingsWithWay yX0_mendingsWithWay, Cond.code yX0_mendingsWithWay cX0_mendingsWithWay 5 (some .int), Cond.methodLink RX0 110 yX0_holdsIn, Cond.instanceMethod yX0_holdsIn] [480, 484, 487, 491, 495] (by decide +kernel) (by decide +kernel)
set_option maxRecDepth 100000 in
theorem wl_17 : GoodIn lw_tbl wsL_law_r17 := wl_app wl_17_0 (wl_app wl_17_1 (wl_17_2))
set_option maxRecDepth 20000 in
theorem wl_18 : GoodIn lw_tbl wsL_law_r18 := goodIn_p wsL_law_r18 [499, 503, 507, 511, 517, 521] (by decide +kernel) (by decide +kernel)
