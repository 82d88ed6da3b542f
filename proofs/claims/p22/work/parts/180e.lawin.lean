set_option maxRecDepth 20000 in
theorem wl_X1 : GoodIn lw_tbl wsX10 := goodIn_p wsX10 [] (by decide +kernel) (by decide +kernel)
set_option maxRecDepth 20000 in
theorem wl_X2 : GoodIn lw_tbl wsX20 := goodIn_p wsX20 [] (by decide +kernel) (by decide +kernel)
set_option maxRecDepth 20000 in
theorem wl_X3 : GoodIn lw_tbl wsX30 := goodIn_p wsX30 [] (by decide +kernel) (by decide +kernel)
set_option maxRecDepth 20000 in
theorem wl_X4 : GoodIn lw_tbl wsX40 := goodIn_p wsX40 [] (by decide +kernel) (by decide +kernel)
set_option maxRecDepth 20000 in
theorem wl_X5 : GoodIn lw_tbl wsX50 := goodIn_p wsX50 [] (by decide +kernel) (by decide +kernel)
theorem wsL_law_in : ∀ w ∈ wsL_law, w ∈ lw_tbl := fun w h => ((show GoodIn lw_tbl wsL_law from wl_app (wl_app (wl_app (wl_app (wl_app (wl_app (wl_app (wl_app wl_1 (wl_app wl_2 (wl_app wl_3 (wl_app wl_4 (wl_app wl_5 (wl_app wl_6 (wl_app wl_7 (wl_app wl_8 (wl_app wl_9 (wl_app wl_10 (wl_app wl_11 (wl_app wl_12 (wl_app wl_13 (wl_app wl_14 (wl_app wl_15 (wl_app wl_16 (wl_app wl_17 (wl_app wl_18 (wl_app wl_19 (wl_20)))))))))))))))))))) wl_X5) wl_X3) wl_X0) wl_X1) wl_X4) wl_X2) (fun _ h => absurd h List.not_mem_nil)) w h).1
