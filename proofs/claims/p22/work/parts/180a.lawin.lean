theorem goodIn_1 {big : List Cond} {c : Cond} (i : Nat) (h : big[i]? = some c) (g : goodWord c = true) : GoodIn big [c] := fun w hw => by
  rw [List.mem_singleton] at hw
  subst hw
  exact ⟨List.mem_of_getElem? h, good_of_word g⟩
theorem wl_app {big a b : List Cond} (h1 : GoodIn big a) (h2 : GoodIn big b) : GoodIn big (a ++ b) := fun w h => (List.mem_append.mp h).elim (h1 w) (h2 w)
set_option maxRecDepth 20000 in
theorem wl_1 : GoodIn lw_tbl wsL_law_r1 := goodIn_p wsL_law_r1 [34, 37] (by decide +kernel) (by decide +kernel)
set_option maxRecDepth 20000 in
theorem wl_2 : GoodIn lw_tbl wsL_law_r2 := goodIn_p wsL_law_r2 [42, 68] (by decide +kernel) (by decide +kernel)
set_option maxRecDepth 20000 in
theorem wl_3 : GoodIn lw_tbl wsL_law_r3 := goodIn_p wsL_law_r3 [93, 112, 126, 163] (by decide +kernel) (by decide +kernel)
set_option maxRecDepth 20000 in
theorem wl_4_0 : GoodIn lw_tbl [Cond.static yL_isStep] := goodIn_p [Cond.static yL_isStep] [] (by decide +kernel) (by decide +kernel)
set_option maxRecDepth 100000 in
theorem wl_4_1 : GoodIn lw_tbl [Cond.code yL_isStep cL_isStep 12 (some .boolean)] := goodIn_1 167 rfl rfl
set_option maxRecDepth 20000 in
theorem wl_4_2 : GoodIn lw_tbl [Cond.methodLink RL 9 yX5_count, Cond.instanceMethod yX5_count, Cond.selects RX5 yX5_count yX5_count, Cond.code yX5_count cX5_count 2 (some .int), Cond.methodLink RX5 74 yX3_size, Cond.instanceMethod yX3_size, Cond.selects RX3 yX3_size yX3_size, Cond.code yX3_size cX3_size 1 (some .int), Cond.fieldLink RX3 24 "SureMendings$Table" "size" "I", Cond.methodLink RX5 213 yX3_keysThere, Cond.instanceMethod yX3_keysThere, Cond.selects RX3 yX3_keysThere yX3_keysThere, Cond.code yX3_keysThere cX3_keysThere 1 (some .int), Cond.methodLink RX3 73 yX3_keysWithAtLeast, Cond.instanceMethod yX3_keysWithAtLeast, Cond.selects RX3 yX3_keysWithAtLeast yX3_keysWithAtLeast, Cond.code yX3_keysWithAtLeast cX3_keysWithAtLeast 4 (some .int), Cond.methodLink RX3 76 yX3_rowsWith, Cond.instanceMethod yX3_rowsWith, Cond.selects RX3 yX3_rowsWith yX3_rowsWith, Cond.code yX3_rowsWith cX3_rowsWith 4 (some .int), Cond.methodLink RX3 48 yX3_keyAt] := goodIn_p [Cond.methodLink RL 9 yX5_count, Cond.instanceMethod yX5_count, Cond.selects RX5 yX5_count yX5_count, Cond.code yX5_count cX5_count 2 (some .int), Cond.methodLink RX5 74 yX3_size, Cond.instanceMethod yX3_size, Cond.selects RX3 yX3_size yX3_size, Cond.code yX3_size cX3_size 1 (some .int), Cond.fieldLink RX3 24 "SureMendings$Table" "size" "I", Cond.methodLink RX5 213 yX3_keysThere, Cond.instanceMethod yX3_keysThere, Cond.selects RX3 yX3_keysThere yX3_keysThere, Cond.code yX3_keysThere cX3_keysThere 1 (some .int), Cond.methodLink RX3 73 yX3_keysWithAtLeast, Cond.instanceMethod yX3_keysWithAtLeast, Cond.selects RX3 yX3_keysWithAtLeast yX3_keysWithAtLeast, Cond.code yX3_keysWithAtLeast cX3_keysWithAtLeast 4 (some .int), Cond.methodLink RX3 76 yX3_rowsWith, Cond.instanceMethod yX3_rowsWith, Cond.selects RX3 yX3_rowsWith yX3_rowsWith, Cond.code yX3_rowsWith cX3_rowsWith 4 (some .int), Cond.methodLink RX3 48 yX3_keyAt] [171, 175, 179, 183, 187] (by decide +kernel) (by decide +kernel)
set_option maxRecDepth 100000 in
theorem wl_4 : GoodIn lw_tbl wsL_law_r4 := wl_app wl_4_0 (wl_app wl_4_1 (wl_4_2))
set_option maxRecDepth 20000 in
theorem wl_5 : GoodIn lw_tbl wsL_law_r5 := goodIn_p wsL_law_r5 [191, 194, 198, 202, 206, 209] (by decide +kernel) (by decide +kernel)
