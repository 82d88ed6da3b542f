theorem dX3_move_19 : decode cX3_move 19 = .ok (.iload_n 1, 1) := by decide +kernel
theorem dX3_move_20 : decode cX3_move 20 = .ok (.invokevirtual 52, 3) := by decide +kernel
theorem dX3_move_23 : decode cX3_move 23 = .ok (.invokestatic 44, 3) := by decide +kernel
theorem dX3_move_26 : decode cX3_move 26 = .ok (.aload_n 0, 1) := by decide +kernel
theorem dX3_move_27 : decode cX3_move 27 = .ok (.getfield 18, 3) := by decide +kernel
theorem dX3_move_30 : decode cX3_move 30 = .ok (.iload_n 2, 1) := by decide +kernel
theorem dX3_move_31 : decode cX3_move 31 = .ok (.aload_n 0, 1) := by decide +kernel
theorem dX3_move_32 : decode cX3_move 32 = .ok (.iload_n 1, 1) := by decide +kernel
theorem dX3_move_33 : decode cX3_move 33 = .ok (.invokevirtual 55, 3) := by decide +kernel
theorem dX3_move_36 : decode cX3_move 36 = .ok (.invokestatic 44, 3) := by decide +kernel
theorem dX3_move_39 : decode cX3_move 39 = .ok (.aload_n 0, 1) := by decide +kernel
theorem dX3_move_40 : decode cX3_move 40 = .ok (.getfield 21, 3) := by decide +kernel
theorem dX3_move_43 : decode cX3_move 43 = .ok (.iload_n 2, 1) := by decide +kernel
theorem dX3_move_44 : decode cX3_move 44 = .ok (.aload_n 0, 1) := by decide +kernel
theorem dX3_move_45 : decode cX3_move 45 = .ok (.iload_n 1, 1) := by decide +kernel
theorem dX3_move_46 : decode cX3_move 46 = .ok (.invokevirtual 58, 3) := by decide +kernel
theorem dX3_move_49 : decode cX3_move 49 = .ok (.invokestatic 44, 3) := by decide +kernel
theorem dX3_move_52 : decode cX3_move 52 = .ok (.return_, 1) := by decide +kernel
set_option maxRecDepth 20000 in
theorem ggX3_rowsWith_X3_keyAt : GoodIn wsX3_rowsWith wsX3_keyAt := goodIn_r _ [6, 7, 8, 9, 10, 11, 12, 13, 14, 15, 16] (by decide +kernel) (by decide +kernel)
set_option maxRecDepth 20000 in
theorem gX3_rowsWith_X3_keyAt : GoodIn wsX3_rowsWith (wsV RX3 48 RX3 yX3_keyAt wsX3_keyAt) := goodIn_app (goodIn_of _ (by decide +kernel)) ggX3_rowsWith_X3_keyAt
theorem dX3_rowsWith_0 : decode cX3_rowsWith 0 = .ok (.iconst 0, 1) := by decide +kernel
theorem dX3_rowsWith_1 : decode cX3_rowsWith 1 = .ok (.istore_n 2, 1) := by decide +kernel
theorem dX3_rowsWith_2 : decode cX3_rowsWith 2 = .ok (.iconst 0, 1) := by decide +kernel
theorem dX3_rowsWith_3 : decode cX3_rowsWith 3 = .ok (.istore_n 3, 1) := by decide +kernel
theorem dX3_rowsWith_4 : decode cX3_rowsWith 4 = .ok (.iload_n 3, 1) := by decide +kernel
theorem dX3_rowsWith_5 : decode cX3_rowsWith 5 = .ok (.aload_n 0, 1) := by decide +kernel
theorem dX3_rowsWith_6 : decode cX3_rowsWith 6 = .ok (.getfield 24, 3) := by decide +kernel
theorem dX3_rowsWith_9 : decode cX3_rowsWith 9 = .ok (.if_icmp .ge 21, 3) := by decide +kernel
theorem dX3_rowsWith_12 : decode cX3_rowsWith 12 = .ok (.aload_n 0, 1) := by decide +kernel
theorem dX3_rowsWith_13 : decode cX3_rowsWith 13 = .ok (.iload_n 3, 1) := by decide +kernel
theorem dX3_rowsWith_14 : decode cX3_rowsWith 14 = .ok (.invokevirtual 48, 3) := by decide +kernel
theorem dX3_rowsWith_17 : decode cX3_rowsWith 17 = .ok (.iload_n 1, 1) := by decide +kernel
theorem dX3_rowsWith_18 : decode cX3_rowsWith 18 = .ok (.if_icmp .ne 6, 3) := by decide +kernel
theorem dX3_rowsWith_21 : decode cX3_rowsWith 21 = .ok (.iinc 2 1, 3) := by decide +kernel
theorem dX3_rowsWith_24 : decode cX3_rowsWith 24 = .ok (.iinc 3 1, 3) := by decide +kernel
theorem dX3_rowsWith_27 : decode cX3_rowsWith 27 = .ok (.goto (-23), 3) := by decide +kernel
theorem dX3_rowsWith_30 : decode cX3_rowsWith 30 = .ok (.iload_n 2, 1) := by decide +kernel
theorem dX3_rowsWith_31 : decode cX3_rowsWith 31 = .ok (.ireturn, 1) := by decide +kernel
set_option maxRecDepth 20000 in
theorem ggX3_rowsPointingTo_X3_targetAt : GoodIn wsX3_rowsPointingTo wsX3_targetAt := goodIn_r _ [6, 7, 8, 9, 10, 11, 12, 13, 14, 15, 16] (by decide +kernel) (by decide +kernel)
set_option maxRecDepth 20000 in
theorem gX3_rowsPointingTo_X3_targetAt : GoodIn wsX3_rowsPointingTo (wsV RX3 58 RX3 yX3_targetAt wsX3_targetAt) := goodIn_app (goodIn_of _ (by decide +kernel)) ggX3_rowsPointingTo_X3_targetAt
theorem dX3_rowsPointingTo_0 : decode cX3_rowsPointingTo 0 = .ok (.iconst 0, 1) := by decide +kernel
theorem dX3_rowsPointingTo_1 : decode cX3_rowsPointingTo 1 = .ok (.istore_n 2, 1) := by decide +kernel
theorem dX3_rowsPointingTo_2 : decode cX3_rowsPointingTo 2 = .ok (.iconst 0, 1) := by decide +kernel
theorem dX3_rowsPointingTo_3 : decode cX3_rowsPointingTo 3 = .ok (.istore_n 3, 1) := by decide +kernel
theorem dX3_rowsPointingTo_4 : decode cX3_rowsPointingTo 4 = .ok (.iload_n 3, 1) := by decide +kernel
theorem dX3_rowsPointingTo_5 : decode cX3_rowsPointingTo 5 = .ok (.aload_n 0, 1) := by decide +kernel
theorem dX3_rowsPointingTo_6 : decode cX3_rowsPointingTo 6 = .ok (.getfield 24, 3) := by decide +kernel
theorem dX3_rowsPointingTo_9 : decode cX3_rowsPointingTo 9 = .ok (.if_icmp .ge 21, 3) := by decide +kernel
theorem dX3_rowsPointingTo_12 : decode cX3_rowsPointingTo 12 = .ok (.aload_n 0, 1) := by decide +kernel
theorem dX3_rowsPointingTo_13 : decode cX3_rowsPointingTo 13 = .ok (.iload_n 3, 1) := by decide +kernel
theorem dX3_rowsPointingTo_14 : decode cX3_rowsPointingTo 14 = .ok (.invokevirtual 58, 3) := by decide +kernel
theorem dX3_rowsPointingTo_17 : decode cX3_rowsPointingTo 17 = .ok (.iload_n 1, 1) := by decide +kernel
theorem dX3_rowsPointingTo_18 : decode cX3_rowsPointingTo 18 = .ok (.if_icmp .ne 6, 3) := by decide +kernel
theorem dX3_rowsPointingTo_21 : decode cX3_rowsPointingTo 21 = .ok (.iinc 2 1, 3) := by decide +kernel
theorem dX3_rowsPointingTo_24 : decode cX3_rowsPointingTo 24 = .ok (.iinc 3 1, 3) := by decide +kernel
theorem dX3_rowsPointingTo_27 : decode cX3_rowsPointingTo 27 = .ok (.goto (-23), 3) := by decide +kernel
theorem dX3_rowsPointingTo_30 : decode cX3_rowsPointingTo 30 = .ok (.iload_n 2, 1) := by decide +kernel
theorem dX3_rowsPointingTo_31 : decode cX3_rowsPointingTo 31 = .ok (.ireturn, 1) := by decide +kernel
set_option maxRecDepth 20000 in
theorem ggX3_keysThere_X3_keysWithAtLeast : GoodIn wsX3_keysThere wsX3_keysWithAtLeast := goodIn_r _ [5, 6, 7, 8, 4, 9, 10, 11, 12, 13, 14, 15, 16, 17, 18, 19, 20, 21, 22, 23, 24] (by decide +kernel) (by decide +kernel)
set_option maxRecDepth 20000 in
theorem gX3_keysThere_X3_keysWithAtLeast : GoodIn wsX3_keysThere (wsV RX3 73 RX3 yX3_keysWithAtLeast wsX3_keysWithAtLeast) := goodIn_app (goodIn_of _ (by decide +kernel)) ggX3_keysThere_X3_keysWithAtLeast
theorem dX3_keysThere_0 : decode cX3_keysThere 0 = .ok (.aload_n 0, 1) := by decide +kernel
theorem dX3_keysThere_1 : decode cX3_keysThere 1 = .ok (.iconst 1, 1) := by decide +kernel
theorem dX3_keysThere_2 : decode cX3_keysThere 2 = .ok (.invokevirtual 73, 3) := by decide +kernel
theorem dX3_keysThere_5 : decode cX3_keysThere 5 = .ok (.ireturn, 1) := by decide +kernel
set_option maxRecDepth 20000 in
theorem ggX3_doubledKeys_X3_keysWithAtLeast : GoodIn wsX3_doubledKeys wsX3_keysWithAtLeast := goodIn_r _ [5, 6, 7, 8, 4, 9, 10, 11, 12, 13, 14, 15, 16, 17, 18, 19, 20, 21, 22, 23, 24] (by decide +kernel) (by decide +kernel)
set_option maxRecDepth 20000 in
theorem gX3_doubledKeys_X3_keysWithAtLeast : GoodIn wsX3_doubledKeys (wsV RX3 73 RX3 yX3_keysWithAtLeast wsX3_keysWithAtLeast) := goodIn_app (goodIn_of _ (by decide +kernel)) ggX3_doubledKeys_X3_keysWithAtLeast
theorem dX3_doubledKeys_0 : decode cX3_doubledKeys 0 = .ok (.aload_n 0, 1) := by decide +kernel
theorem dX3_doubledKeys_1 : decode cX3_doubledKeys 1 = .ok (.iconst 2, 1) := by decide +kernel
theorem dX3_doubledKeys_2 : decode cX3_doubledKeys 2 = .ok (.invokevirtual 73, 3) := by decide +kernel
theorem dX3_doubledKeys_5 : decode cX3_doubledKeys 5 = .ok (.ireturn, 1) := by decide +kernel
set_option maxRecDepth 20000 in
theorem ggX3_keysWithAtLeast_X3_rowsWith : GoodIn wsX3_keysWithAtLeast wsX3_rowsWith := goodIn_r _ [5, 6, 7, 8, 9, 4, 10, 11, 12, 13, 14, 15, 16, 17, 18, 19, 20] (by decide +kernel) (by decide +kernel)
set_option maxRecDepth 20000 in
theorem gX3_keysWithAtLeast_X3_rowsWith : GoodIn wsX3_keysWithAtLeast (wsV RX3 76 RX3 yX3_rowsWith wsX3_rowsWith) := goodIn_app (goodIn_of _ (by decide +kernel)) ggX3_keysWithAtLeast_X3_rowsWith
theorem dX3_keysWithAtLeast_0 : decode cX3_keysWithAtLeast 0 = .ok (.iconst 0, 1) := by decide +kernel
theorem dX3_keysWithAtLeast_1 : decode cX3_keysWithAtLeast 1 = .ok (.istore_n 2, 1) := by decide +kernel
theorem dX3_keysWithAtLeast_2 : decode cX3_keysWithAtLeast 2 = .ok (.iconst 0, 1) := by decide +kernel
theorem dX3_keysWithAtLeast_3 : decode cX3_keysWithAtLeast 3 = .ok (.istore_n 3, 1) := by decide +kernel
theorem dX3_keysWithAtLeast_4 : decode cX3_keysWithAtLeast 4 = .ok (.iload_n 3, 1) := by decide +kernel
theorem dX3_keysWithAtLeast_5 : decode cX3_keysWithAtLeast 5 = .ok (.bipush 10, 2) := by decide +kernel
theorem dX3_keysWithAtLeast_7 : decode cX3_keysWithAtLeast 7 = .ok (.if_icmp .ge 21, 3) := by decide +kernel
theorem dX3_keysWithAtLeast_10 : decode cX3_keysWithAtLeast 10 = .ok (.aload_n 0, 1) := by decide +kernel
theorem dX3_keysWithAtLeast_11 : decode cX3_keysWithAtLeast 11 = .ok (.iload_n 3, 1) := by decide +kernel
theorem dX3_keysWithAtLeast_12 : decode cX3_keysWithAtLeast 12 = .ok (.invokevirtual 76, 3) := by decide +kernel
theorem dX3_keysWithAtLeast_15 : decode cX3_keysWithAtLeast 15 = .ok (.iload_n 1, 1) := by decide +kernel
theorem dX3_keysWithAtLeast_16 : decode cX3_keysWithAtLeast 16 = .ok (.if_icmp .lt 6, 3) := by decide +kernel
theorem dX3_keysWithAtLeast_19 : decode cX3_keysWithAtLeast 19 = .ok (.iinc 2 1, 3) := by decide +kernel
theorem dX3_keysWithAtLeast_22 : decode cX3_keysWithAtLeast 22 = .ok (.iinc 3 1, 3) := by decide +kernel
theorem dX3_keysWithAtLeast_25 : decode cX3_keysWithAtLeast 25 = .ok (.goto (-21), 3) := by decide +kernel
theorem dX3_keysWithAtLeast_28 : decode cX3_keysWithAtLeast 28 = .ok (.iload_n 2, 1) := by decide +kernel
theorem dX3_keysWithAtLeast_29 : decode cX3_keysWithAtLeast 29 = .ok (.ireturn, 1) := by decide +kernel
set_option maxRecDepth 20000 in
theorem ggX3_firstWith_X3_keyAt : GoodIn wsX3_firstWith wsX3_keyAt := goodIn_r _ [6, 7, 8, 9, 10, 11, 12, 13, 14, 15, 16] (by decide +kernel) (by decide +kernel)
set_option maxRecDepth 20000 in
theorem gX3_firstWith_X3_keyAt : GoodIn wsX3_firstWith (wsV RX3 48 RX3 yX3_keyAt wsX3_keyAt) := goodIn_app (goodIn_of _ (by decide +kernel)) ggX3_firstWith_X3_keyAt
theorem dX3_firstWith_0 : decode cX3_firstWith 0 = .ok (.iconst 0, 1) := by decide +kernel
theorem dX3_firstWith_1 : decode cX3_firstWith 1 = .ok (.istore_n 2, 1) := by decide +kernel
theorem dX3_firstWith_2 : decode cX3_firstWith 2 = .ok (.iload_n 2, 1) := by decide +kernel
theorem dX3_firstWith_3 : decode cX3_firstWith 3 = .ok (.aload_n 0, 1) := by decide +kernel
theorem dX3_firstWith_4 : decode cX3_firstWith 4 = .ok (.getfield 24, 3) := by decide +kernel
theorem dX3_firstWith_7 : decode cX3_firstWith 7 = .ok (.if_icmp .ge 20, 3) := by decide +kernel
theorem dX3_firstWith_10 : decode cX3_firstWith 10 = .ok (.aload_n 0, 1) := by decide +kernel
theorem dX3_firstWith_11 : decode cX3_firstWith 11 = .ok (.iload_n 2, 1) := by decide +kernel
theorem dX3_firstWith_12 : decode cX3_firstWith 12 = .ok (.invokevirtual 48, 3) := by decide +kernel
theorem dX3_firstWith_15 : decode cX3_firstWith 15 = .ok (.iload_n 1, 1) := by decide +kernel
theorem dX3_firstWith_16 : decode cX3_firstWith 16 = .ok (.if_icmp .ne 5, 3) := by decide +kernel
theorem dX3_firstWith_19 : decode cX3_firstWith 19 = .ok (.iload_n 2, 1) := by decide +kernel
theorem dX3_firstWith_20 : decode cX3_firstWith 20 = .ok (.ireturn, 1) := by decide +kernel
theorem dX3_firstWith_21 : decode cX3_firstWith 21 = .ok (.iinc 2 1, 3) := by decide +kernel
theorem dX3_firstWith_24 : decode cX3_firstWith 24 = .ok (.goto (-22), 3) := by decide +kernel
theorem dX3_firstWith_27 : decode cX3_firstWith 27 = .ok (.bipush (-5), 2) := by decide +kernel
theorem dX3_firstWith_29 : decode cX3_firstWith 29 = .ok (.ireturn, 1) := by decide +kernel
set_option maxRecDepth 20000 in
theorem ggX3_lastWith_X3_keyAt : GoodIn wsX3_lastWith wsX3_keyAt := goodIn_r _ [6, 7, 8, 9, 10, 11, 12, 13, 14, 15, 16] (by decide +kernel) (by decide +kernel)
set_option maxRecDepth 20000 in
theorem gX3_lastWith_X3_keyAt : GoodIn wsX3_lastWith (wsV RX3 48 RX3 yX3_keyAt wsX3_keyAt) := goodIn_app (goodIn_of _ (by decide +kernel)) ggX3_lastWith_X3_keyAt
theorem dX3_lastWith_0 : decode cX3_lastWith 0 = .ok (.aload_n 0, 1) := by decide +kernel
theorem dX3_lastWith_1 : decode cX3_lastWith 1 = .ok (.getfield 24, 3) := by decide +kernel
theorem dX3_lastWith_4 : decode cX3_lastWith 4 = .ok (.iconst 1, 1) := by decide +kernel
theorem dX3_lastWith_5 : decode cX3_lastWith 5 = .ok (.isub, 1) := by decide +kernel
theorem dX3_lastWith_6 : decode cX3_lastWith 6 = .ok (.istore_n 2, 1) := by decide +kernel
theorem dX3_lastWith_7 : decode cX3_lastWith 7 = .ok (.iload_n 2, 1) := by decide +kernel
theorem dX3_lastWith_8 : decode cX3_lastWith 8 = .ok (.ifCond .lt 20, 3) := by decide +kernel
theorem dX3_lastWith_11 : decode cX3_lastWith 11 = .ok (.aload_n 0, 1) := by decide +kernel
theorem dX3_lastWith_12 : decode cX3_lastWith 12 = .ok (.iload_n 2, 1) := by decide +kernel
theorem dX3_lastWith_13 : decode cX3_lastWith 13 = .ok (.invokevirtual 48, 3) := by decide +kernel
theorem dX3_lastWith_16 : decode cX3_lastWith 16 = .ok (.iload_n 1, 1) := by decide +kernel
theorem dX3_lastWith_17 : decode cX3_lastWith 17 = .ok (.if_icmp .ne 5, 3) := by decide +kernel
theorem dX3_lastWith_20 : decode cX3_lastWith 20 = .ok (.iload_n 2, 1) := by decide +kernel
theorem dX3_lastWith_21 : decode cX3_lastWith 21 = .ok (.ireturn, 1) := by decide +kernel
theorem dX3_lastWith_22 : decode cX3_lastWith 22 = .ok (.iinc 2 (-1), 3) := by decide +kernel
theorem dX3_lastWith_25 : decode cX3_lastWith 25 = .ok (.goto (-18), 3) := by decide +kernel
theorem dX3_lastWith_28 : decode cX3_lastWith 28 = .ok (.bipush (-5), 2) := by decide +kernel
theorem dX3_lastWith_30 : decode cX3_lastWith 30 = .ok (.ireturn, 1) := by decide +kernel
set_option maxRecDepth 20000 in
theorem ggX3_lightestWith_X3_keyAt : GoodIn wsX3_lightestWith wsX3_keyAt := goodIn_r _ [6, 7, 8, 9, 10, 16, 17, 18, 19, 20, 21] (by decide +kernel) (by decide +kernel)
set_option maxRecDepth 20000 in
theorem gX3_lightestWith_X3_keyAt : GoodIn wsX3_lightestWith (wsV RX3 48 RX3 yX3_keyAt wsX3_keyAt) := goodIn_app (goodIn_of _ (by decide +kernel)) ggX3_lightestWith_X3_keyAt
set_option maxRecDepth 20000 in
theorem ggX3_lightestWith_X3_weightAt : GoodIn wsX3_lightestWith wsX3_weightAt := goodIn_r _ [14, 15, 8, 9, 10, 16, 17, 18, 19, 20, 21] (by decide +kernel) (by decide +kernel)
set_option maxRecDepth 20000 in
theorem gX3_lightestWith_X3_weightAt : GoodIn wsX3_lightestWith (wsV RX3 55 RX3 yX3_weightAt wsX3_weightAt) := goodIn_app (goodIn_of _ (by decide +kernel)) ggX3_lightestWith_X3_weightAt
theorem dX3_lightestWith_0 : decode cX3_lightestWith 0 = .ok (.bipush (-5), 2) := by decide +kernel
theorem dX3_lightestWith_2 : decode cX3_lightestWith 2 = .ok (.istore_n 2, 1) := by decide +kernel
theorem dX3_lightestWith_3 : decode cX3_lightestWith 3 = .ok (.iconst 0, 1) := by decide +kernel
theorem dX3_lightestWith_4 : decode cX3_lightestWith 4 = .ok (.istore_n 3, 1) := by decide +kernel
theorem dX3_lightestWith_5 : decode cX3_lightestWith 5 = .ok (.iload_n 3, 1) := by decide +kernel
theorem dX3_lightestWith_6 : decode cX3_lightestWith 6 = .ok (.aload_n 0, 1) := by decide +kernel
theorem dX3_lightestWith_7 : decode cX3_lightestWith 7 = .ok (.getfield 24, 3) := by decide +kernel
theorem dX3_lightestWith_10 : decode cX3_lightestWith 10 = .ok (.if_icmp .ge 39, 3) := by decide +kernel
theorem dX3_lightestWith_13 : decode cX3_lightestWith 13 = .ok (.aload_n 0, 1) := by decide +kernel
theorem dX3_lightestWith_14 : decode cX3_lightestWith 14 = .ok (.iload_n 3, 1) := by decide +kernel
theorem dX3_lightestWith_15 : decode cX3_lightestWith 15 = .ok (.invokevirtual 48, 3) := by decide +kernel
theorem dX3_lightestWith_18 : decode cX3_lightestWith 18 = .ok (.iload_n 1, 1) := by decide +kernel
theorem dX3_lightestWith_19 : decode cX3_lightestWith 19 = .ok (.if_icmp .ne 24, 3) := by decide +kernel
theorem dX3_lightestWith_22 : decode cX3_lightestWith 22 = .ok (.iload_n 2, 1) := by decide +kernel
theorem dX3_lightestWith_23 : decode cX3_lightestWith 23 = .ok (.bipush (-5), 2) := by decide +kernel
theorem dX3_lightestWith_25 : decode cX3_lightestWith 25 = .ok (.if_icmp .eq 16, 3) := by decide +kernel
theorem dX3_lightestWith_28 : decode cX3_lightestWith 28 = .ok (.aload_n 0, 1) := by decide +kernel
theorem dX3_lightestWith_29 : decode cX3_lightestWith 29 = .ok (.iload_n 3, 1) := by decide +kernel
theorem dX3_lightestWith_30 : decode cX3_lightestWith 30 = .ok (.invokevirtual 55, 3) := by decide +kernel
theorem dX3_lightestWith_33 : decode cX3_lightestWith 33 = .ok (.aload_n 0, 1) := by decide +kernel
theorem dX3_lightestWith_34 : decode cX3_lightestWith 34 = .ok (.iload_n 2, 1) := by decide +kernel
theorem dX3_lightestWith_35 : decode cX3_lightestWith 35 = .ok (.invokevirtual 55, 3) := by decide +kernel
theorem dX3_lightestWith_38 : decode cX3_lightestWith 38 = .ok (.if_icmp .ge 5, 3) := by decide +kernel
theorem dX3_lightestWith_41 : decode cX3_lightestWith 41 = .ok (.iload_n 3, 1) := by decide +kernel
theorem dX3_lightestWith_42 : decode cX3_lightestWith 42 = .ok (.istore_n 2, 1) := by decide +kernel
theorem dX3_lightestWith_43 : decode cX3_lightestWith 43 = .ok (.iinc 3 1, 3) := by decide +kernel
theorem dX3_lightestWith_46 : decode cX3_lightestWith 46 = .ok (.goto (-41), 3) := by decide +kernel
theorem dX3_lightestWith_49 : decode cX3_lightestWith 49 = .ok (.iload_n 2, 1) := by decide +kernel
theorem dX3_lightestWith_50 : decode cX3_lightestWith 50 = .ok (.ireturn, 1) := by decide +kernel
set_option maxRecDepth 20000 in
theorem ggX3_heaviestWith_X3_keyAt : GoodIn wsX3_heaviestWith wsX3_keyAt := goodIn_r _ [6, 7, 8, 9, 10, 16, 17, 18, 19, 20, 21] (by decide +kernel) (by decide +kernel)
set_option maxRecDepth 20000 in
theorem gX3_heaviestWith_X3_keyAt : GoodIn wsX3_heaviestWith (wsV RX3 48 RX3 yX3_keyAt wsX3_keyAt) := goodIn_app (goodIn_of _ (by decide +kernel)) ggX3_heaviestWith_X3_keyAt
set_option maxRecDepth 20000 in
theorem ggX3_heaviestWith_X3_weightAt : GoodIn wsX3_heaviestWith wsX3_weightAt := goodIn_r _ [14, 15, 8, 9, 10, 16, 17, 18, 19, 20, 21] (by decide +kernel) (by decide +kernel)
set_option maxRecDepth 20000 in
theorem gX3_heaviestWith_X3_weightAt : GoodIn wsX3_heaviestWith (wsV RX3 55 RX3 yX3_weightAt wsX3_weightAt) := goodIn_app (goodIn_of _ (by decide +kernel)) ggX3_heaviestWith_X3_weightAt
theorem dX3_heaviestWith_0 : decode cX3_heaviestWith 0 = .ok (.bipush (-5), 2) := by decide +kernel
theorem dX3_heaviestWith_2 : decode cX3_heaviestWith 2 = .ok (.istore_n 2, 1) := by decide +kernel
theorem dX3_heaviestWith_3 : decode cX3_heaviestWith 3 = .ok (.iconst 0, 1) := by decide +kernel
theorem dX3_heaviestWith_4 : decode cX3_heaviestWith 4 = .ok (.istore_n 3, 1) := by decide +kernel
theorem dX3_heaviestWith_5 : decode cX3_heaviestWith 5 = .ok (.iload_n 3, 1) := by decide +kernel
theorem dX3_heaviestWith_6 : decode cX3_heaviestWith 6 = .ok (.aload_n 0, 1) := by decide +kernel
theorem dX3_heaviestWith_7 : decode cX3_heaviestWith 7 = .ok (.getfield 24, 3) := by decide +kernel
theorem dX3_heaviestWith_10 : decode cX3_heaviestWith 10 = .ok (.if_icmp .ge 39, 3) := by decide +kernel
theorem dX3_heaviestWith_13 : decode cX3_heaviestWith 13 = .ok (.aload_n 0, 1) := by decide +kernel
theorem dX3_heaviestWith_14 : decode cX3_heaviestWith 14 = .ok (.iload_n 3, 1) := by decide +kernel
theorem dX3_heaviestWith_15 : decode cX3_heaviestWith 15 = .ok (.invokevirtual 48, 3) := by decide +kernel
theorem dX3_heaviestWith_18 : decode cX3_heaviestWith 18 = .ok (.iload_n 1, 1) := by decide +kernel
theorem dX3_heaviestWith_19 : decode cX3_heaviestWith 19 = .ok (.if_icmp .ne 24, 3) := by decide +kernel
theorem dX3_heaviestWith_22 : decode cX3_heaviestWith 22 = .ok (.iload_n 2, 1) := by decide +kernel
theorem dX3_heaviestWith_23 : decode cX3_heaviestWith 23 = .ok (.bipush (-5), 2) := by decide +kernel
theorem dX3_heaviestWith_25 : decode cX3_heaviestWith 25 = .ok (.if_icmp .eq 16, 3) := by decide +kernel
theorem dX3_heaviestWith_28 : decode cX3_heaviestWith 28 = .ok (.aload_n 0, 1) := by decide +kernel
theorem dX3_heaviestWith_29 : decode cX3_heaviestWith 29 = .ok (.iload_n 3, 1) := by decide +kernel
theorem dX3_heaviestWith_30 : decode cX3_heaviestWith 30 = .ok (.invokevirtual 55, 3) := by decide +kernel
theorem dX3_heaviestWith_33 : decode cX3_heaviestWith 33 = .ok (.aload_n 0, 1) := by decide +kernel
theorem dX3_heaviestWith_34 : decode cX3_heaviestWith 34 = .ok (.iload_n 2, 1) := by decide +kernel
theorem dX3_heaviestWith_35 : decode cX3_heaviestWith 35 = .ok (.invokevirtual 55, 3) := by decide +kernel
theorem dX3_heaviestWith_38 : decode cX3_heaviestWith 38 = .ok (.if_icmp .le 5, 3) := by decide +kernel
theorem dX3_heaviestWith_41 : decode cX3_heaviestWith 41 = .ok (.iload_n 3, 1) := by decide +kernel
theorem dX3_heaviestWith_42 : decode cX3_heaviestWith 42 = .ok (.istore_n 2, 1) := by decide +kernel
theorem dX3_heaviestWith_43 : decode cX3_heaviestWith 43 = .ok (.iinc 3 1, 3) := by decide +kernel
theorem dX3_heaviestWith_46 : decode cX3_heaviestWith 46 = .ok (.goto (-41), 3) := by decide +kernel
theorem dX3_heaviestWith_49 : decode cX3_heaviestWith 49 = .ok (.iload_n 2, 1) := by decide +kernel
theorem dX3_heaviestWith_50 : decode cX3_heaviestWith 50 = .ok (.ireturn, 1) := by decide +kernel
set_option maxRecDepth 20000 in
theorem ggX3_canBeKept_X3_weightAt : GoodIn wsX3_canBeKept wsX3_weightAt := goodIn_r _ [6, 7, 8, 9, 10, 21, 22, 23, 24, 25, 26] (by decide +kernel) (by decide +kernel)
set_option maxRecDepth 20000 in
theorem gX3_canBeKept_X3_weightAt : GoodIn wsX3_canBeKept (wsV RX3 55 RX3 yX3_weightAt wsX3_weightAt) := goodIn_app (goodIn_of _ (by decide +kernel)) ggX3_canBeKept_X3_weightAt
set_option maxRecDepth 20000 in
theorem ggX3_canBeKept_X3_keyAt : GoodIn wsX3_canBeKept wsX3_keyAt := goodIn_r _ [14, 15, 8, 9, 10, 21, 22, 23, 24, 25, 26] (by decide +kernel) (by decide +kernel)
set_option maxRecDepth 20000 in
theorem gX3_canBeKept_X3_keyAt : GoodIn wsX3_canBeKept (wsV RX3 48 RX3 yX3_keyAt wsX3_keyAt) := goodIn_app (goodIn_of _ (by decide +kernel)) ggX3_canBeKept_X3_keyAt
set_option maxRecDepth 20000 in
theorem ggX3_canBeKept_X3_heaviestWith : GoodIn wsX3_canBeKept wsX3_heaviestWith := goodIn_r _ [19, 20, 11, 12, 13, 5, 14, 15, 8, 9, 10, 2, 3, 4, 6, 7, 21, 22, 23, 24, 25, 26] (by decide +kernel) (by decide +kernel)
set_option maxRecDepth 20000 in
theorem gX3_canBeKept_X3_heaviestWith : GoodIn wsX3_canBeKept (wsV RX3 79 RX3 yX3_heaviestWith wsX3_heaviestWith) := goodIn_app (goodIn_of _ (by decide +kernel)) ggX3_canBeKept_X3_heaviestWith
theorem dX3_canBeKept_0 : decode cX3_canBeKept 0 = .ok (.aload_n 0, 1) := by decide +kernel
theorem dX3_canBeKept_1 : decode cX3_canBeKept 1 = .ok (.getfield 32, 3) := by decide +kernel
theorem dX3_canBeKept_4 : decode cX3_canBeKept 4 = .ok (.ifCond .eq 24, 3) := by decide +kernel
theorem dX3_canBeKept_7 : decode cX3_canBeKept 7 = .ok (.aload_n 0, 1) := by decide +kernel
theorem dX3_canBeKept_8 : decode cX3_canBeKept 8 = .ok (.iload_n 1, 1) := by decide +kernel
theorem dX3_canBeKept_9 : decode cX3_canBeKept 9 = .ok (.invokevirtual 55, 3) := by decide +kernel
theorem dX3_canBeKept_12 : decode cX3_canBeKept 12 = .ok (.aload_n 0, 1) := by decide +kernel
theorem dX3_canBeKept_13 : decode cX3_canBeKept 13 = .ok (.aload_n 0, 1) := by decide +kernel
theorem dX3_canBeKept_14 : decode cX3_canBeKept 14 = .ok (.aload_n 0, 1) := by decide +kernel
theorem dX3_canBeKept_15 : decode cX3_canBeKept 15 = .ok (.iload_n 1, 1) := by decide +kernel
theorem dX3_canBeKept_16 : decode cX3_canBeKept 16 = .ok (.invokevirtual 48, 3) := by decide +kernel
theorem dX3_canBeKept_19 : decode cX3_canBeKept 19 = .ok (.invokevirtual 79, 3) := by decide +kernel
theorem dX3_canBeKept_22 : decode cX3_canBeKept 22 = .ok (.invokevirtual 55, 3) := by decide +kernel
theorem dX3_canBeKept_25 : decode cX3_canBeKept 25 = .ok (.if_icmp .ne 7, 3) := by decide +kernel
theorem dX3_canBeKept_28 : decode cX3_canBeKept 28 = .ok (.iconst 1, 1) := by decide +kernel
theorem dX3_canBeKept_29 : decode cX3_canBeKept 29 = .ok (.goto 4, 3) := by decide +kernel
theorem dX3_canBeKept_32 : decode cX3_canBeKept 32 = .ok (.iconst 0, 1) := by decide +kernel
theorem dX3_canBeKept_33 : decode cX3_canBeKept 33 = .ok (.ireturn, 1) := by decide +kernel
theorem dX4_init_0 : decode cX4_init 0 = .ok (.aload_n 0, 1) := by decide +kernel
theorem dX4_init_1 : decode cX4_init 1 = .ok (.invokespecial 3, 3) := by decide +kernel
theorem dX4_init_4 : decode cX4_init 4 = .ok (.aload_n 0, 1) := by decide +kernel
theorem dX4_init_5 : decode cX4_init 5 = .ok (.bipush 80, 2) := by decide +kernel
theorem dX4_init_7 : decode cX4_init 7 = .ok (.newarray .char, 2) := by decide +kernel
theorem dX4_init_9 : decode cX4_init 9 = .ok (.putfield 9, 3) := by decide +kernel
theorem dX4_init_12 : decode cX4_init 12 = .ok (.return_, 1) := by decide +kernel
theorem dX4_length_0 : decode cX4_length 0 = .ok (.aload_n 0, 1) := by decide +kernel
theorem dX4_length_1 : decode cX4_length 1 = .ok (.getfield 15, 3) := by decide +kernel
theorem dX4_length_4 : decode cX4_length 4 = .ok (.ireturn, 1) := by decide +kernel
set_option maxRecDepth 20000 in
theorem ggX5_init_X3_init : GoodIn wsX5_init wsX3_init := goodIn_r _ [27, 28, 2, 3, 29, 30, 31, 32, 33, 61, 62, 63, 64, 65, 66] (by decide +kernel) (by decide +kernel)
set_option maxRecDepth 20000 in
theorem gX5_init_X3_init_n9 : GoodIn wsX5_init (wsX3_init) := ggX5_init_X3_init
set_option maxRecDepth 20000 in
theorem ggX5_init_X0_init : GoodIn wsX5_init wsX0_init := goodIn_r _ [36, 37, 2, 3, 29, 38, 39, 40, 41, 42, 74, 75, 76, 77, 78, 79] (by decide +kernel) (by decide +kernel)
set_option maxRecDepth 20000 in
theorem gX5_init_X0_init : GoodIn wsX5_init (wsX0_init) := ggX5_init_X0_init
set_option maxRecDepth 20000 in
theorem ggX5_init_X1_init : GoodIn wsX5_init wsX1_init := goodIn_r _ [45, 46, 2, 3, 47, 48, 5, 6, 26, 27, 28, 29, 30, 31, 32, 33, 80, 81, 82, 61, 62, 63, 64, 65, 66] (by decide +kernel) (by decide +kernel)
set_option maxRecDepth 20000 in
theorem gX5_init_X1_init : GoodIn wsX5_init (wsX1_init) := ggX5_init_X1_init
set_option maxRecDepth 20000 in
theorem ggX5_init_X4_init : GoodIn wsX5_init wsX4_init := goodIn_r _ [50, 51, 2, 3, 52, 53, 83, 84] (by decide +kernel) (by decide +kernel)
set_option maxRecDepth 20000 in
theorem gX5_init_X4_init_n41 : GoodIn wsX5_init (wsX4_init) := ggX5_init_X4_init
set_option maxRecDepth 20000 in
theorem ggX5_init_X2_init : GoodIn wsX5_init wsX2_init := goodIn_r _ [56, 57, 2, 3, 58, 5, 6, 59, 60, 26, 27, 28, 29, 30, 31, 32, 33, 61, 62, 63, 64, 65, 66, 85, 86, 87] (by decide +kernel) (by decide +kernel)
set_option maxRecDepth 20000 in
theorem gX5_init_X2_init : GoodIn wsX5_init (wsX2_init) := ggX5_init_X2_init
theorem dX5_init_0 : decode cX5_init 0 = .ok (.aload_n 0, 1) := by decide +kernel
theorem dX5_init_1 : decode cX5_init 1 = .ok (.invokespecial 1, 3) := by decide +kernel
theorem dX5_init_4 : decode cX5_init 4 = .ok (.aload_n 0, 1) := by decide +kernel
theorem dX5_init_5 : decode cX5_init 5 = .ok (.new 7, 3) := by decide +kernel
theorem dX5_init_8 : decode cX5_init 8 = .ok (.dup, 1) := by decide +kernel
theorem dX5_init_9 : decode cX5_init 9 = .ok (.invokespecial 9, 3) := by decide +kernel
theorem dX5_init_12 : decode cX5_init 12 = .ok (.putfield 10, 3) := by decide +kernel
theorem dX5_init_15 : decode cX5_init 15 = .ok (.aload_n 0, 1) := by decide +kernel
theorem dX5_init_16 : decode cX5_init 16 = .ok (.new 16, 3) := by decide +kernel
theorem dX5_init_19 : decode cX5_init 19 = .ok (.dup, 1) := by decide +kernel
theorem dX5_init_20 : decode cX5_init 20 = .ok (.aload_n 0, 1) := by decide +kernel
theorem dX5_init_21 : decode cX5_init 21 = .ok (.getfield 10, 3) := by decide +kernel
theorem dX5_init_24 : decode cX5_init 24 = .ok (.invokespecial 18, 3) := by decide +kernel
theorem dX5_init_27 : decode cX5_init 27 = .ok (.putfield 21, 3) := by decide +kernel
theorem dX5_init_30 : decode cX5_init 30 = .ok (.aload_n 0, 1) := by decide +kernel
theorem dX5_init_31 : decode cX5_init 31 = .ok (.new 25, 3) := by decide +kernel
theorem dX5_init_34 : decode cX5_init 34 = .ok (.dup, 1) := by decide +kernel
theorem dX5_init_35 : decode cX5_init 35 = .ok (.invokespecial 27, 3) := by decide +kernel
theorem dX5_init_38 : decode cX5_init 38 = .ok (.putfield 28, 3) := by decide +kernel
theorem dX5_init_41 : decode cX5_init 41 = .ok (.aload_n 0, 1) := by decide +kernel
theorem dX5_init_42 : decode cX5_init 42 = .ok (.new 7, 3) := by decide +kernel
theorem dX5_init_45 : decode cX5_init 45 = .ok (.dup, 1) := by decide +kernel
theorem dX5_init_46 : decode cX5_init 46 = .ok (.invokespecial 9, 3) := by decide +kernel
theorem dX5_init_49 : decode cX5_init 49 = .ok (.putfield 32, 3) := by decide +kernel
theorem dX5_init_52 : decode cX5_init 52 = .ok (.aload_n 0, 1) := by decide +kernel
theorem dX5_init_53 : decode cX5_init 53 = .ok (.iconst 0, 1) := by decide +kernel
theorem dX5_init_54 : decode cX5_init 54 = .ok (.putfield 35, 3) := by decide +kernel
theorem dX5_init_57 : decode cX5_init 57 = .ok (.aload_n 0, 1) := by decide +kernel
theorem dX5_init_58 : decode cX5_init 58 = .ok (.new 39, 3) := by decide +kernel
theorem dX5_init_61 : decode cX5_init 61 = .ok (.dup, 1) := by decide +kernel
theorem dX5_init_62 : decode cX5_init 62 = .ok (.invokespecial 41, 3) := by decide +kernel
theorem dX5_init_65 : decode cX5_init 65 = .ok (.putfield 42, 3) := by decide +kernel
theorem dX5_init_68 : decode cX5_init 68 = .ok (.aload_n 0, 1) := by decide +kernel
theorem dX5_init_69 : decode cX5_init 69 = .ok (.new 46, 3) := by decide +kernel
theorem dX5_init_72 : decode cX5_init 72 = .ok (.dup, 1) := by decide +kernel
theorem dX5_init_73 : decode cX5_init 73 = .ok (.aload_n 0, 1) := by decide +kernel
theorem dX5_init_74 : decode cX5_init 74 = .ok (.getfield 42, 3) := by decide +kernel
theorem dX5_init_77 : decode cX5_init 77 = .ok (.invokespecial 48, 3) := by decide +kernel
theorem dX5_init_80 : decode cX5_init 80 = .ok (.putfield 51, 3) := by decide +kernel
theorem dX5_init_83 : decode cX5_init 83 = .ok (.return_, 1) := by decide +kernel
set_option maxRecDepth 20000 in
theorem ggX5_add_X5_isKey : GoodIn wsX5_add wsX5_isKey := goodIn_r _ [6] (by decide +kernel) (by decide +kernel)
set_option maxRecDepth 20000 in
theorem gX5_add_X5_isKey : GoodIn wsX5_add (va_wsS RX5 55 yX5_isKey wsX5_isKey) := goodIn_app (goodIn_of _ (by decide +kernel)) ggX5_add_X5_isKey
set_option maxRecDepth 20000 in
theorem ggX5_add_X5_isValue : GoodIn wsX5_add wsX5_isValue := goodIn_r _ [9] (by decide +kernel) (by decide +kernel)
set_option maxRecDepth 20000 in
theorem gX5_add_X5_isValue : GoodIn wsX5_add (va_wsS RX5 59 yX5_isValue wsX5_isValue) := goodIn_app (goodIn_of _ (by decide +kernel)) ggX5_add_X5_isValue
set_option maxRecDepth 20000 in
theorem ggX5_add_X3_room : GoodIn wsX5_add wsX3_room := goodIn_r _ [14, 15, 66, 67, 68, 69, 70, 71] (by decide +kernel) (by decide +kernel)
set_option maxRecDepth 20000 in
theorem gX5_add_X3_room : GoodIn wsX5_add (wsV RX5 63 RX3 yX3_room wsX3_room) := goodIn_app (goodIn_of _ (by decide +kernel)) ggX5_add_X3_room
set_option maxRecDepth 20000 in
theorem ggX5_add_X1_remember : GoodIn wsX5_add wsX1_remember := goodIn_r _ [20, 21, 22, 23, 24, 25, 26, 27, 28, 29, 19, 30, 31, 32, 33, 34, 13, 35, 36, 37, 38, 39, 15, 40, 41, 5, 42, 43, 44, 45, 46, 47, 72, 73, 74, 66, 67, 68, 69, 70, 71] (by decide +kernel) (by decide +kernel)
set_option maxRecDepth 20000 in
theorem gX5_add_X1_remember : GoodIn wsX5_add (wsV RX5 67 RX1 yX1_remember wsX1_remember) := goodIn_app (goodIn_of _ (by decide +kernel)) ggX5_add_X1_remember
set_option maxRecDepth 20000 in
theorem ggX5_add_X3_append : GoodIn wsX5_add wsX3_append := goodIn_r _ [51, 36, 15, 37, 38, 39, 52, 11, 12, 13, 14, 53, 5, 54, 66, 67, 68, 69, 70, 71] (by decide +kernel) (by decide +kernel)
set_option maxRecDepth 20000 in
theorem gX5_add_X3_append : GoodIn wsX5_add (wsV RX5 70 RX3 yX3_append wsX3_append) := goodIn_app (goodIn_of _ (by decide +kernel)) ggX5_add_X3_append
set_option maxRecDepth 20000 in
theorem ggX5_add_X3_size : GoodIn wsX5_add wsX3_size := goodIn_r _ [58, 15, 66, 67, 68, 69, 70, 71] (by decide +kernel) (by decide +kernel)
set_option maxRecDepth 20000 in
theorem gX5_add_X3_size : GoodIn wsX5_add (wsV RX5 74 RX3 yX3_size wsX3_size) := goodIn_app (goodIn_of _ (by decide +kernel)) ggX5_add_X3_size
theorem dX5_add_0 : decode cX5_add 0 = .ok (.iload_n 1, 1) := by decide +kernel
theorem dX5_add_1 : decode cX5_add 1 = .ok (.invokestatic 55, 3) := by decide +kernel
theorem dX5_add_4 : decode cX5_add 4 = .ok (.ifCond .eq 18, 3) := by decide +kernel
theorem dX5_add_7 : decode cX5_add 7 = .ok (.iload 4, 2) := by decide +kernel
theorem dX5_add_9 : decode cX5_add 9 = .ok (.invokestatic 55, 3) := by decide +kernel
theorem dX5_add_12 : decode cX5_add 12 = .ok (.ifCond .ne 12, 3) := by decide +kernel
theorem dX5_add_15 : decode cX5_add 15 = .ok (.iload 4, 2) := by decide +kernel
theorem dX5_add_17 : decode cX5_add 17 = .ok (.bipush (-5), 2) := by decide +kernel
theorem dX5_add_19 : decode cX5_add 19 = .ok (.if_icmp .eq 5, 3) := by decide +kernel
theorem dX5_add_22 : decode cX5_add 22 = .ok (.iconst (-1), 1) := by decide +kernel
theorem dX5_add_23 : decode cX5_add 23 = .ok (.ireturn, 1) := by decide +kernel
theorem dX5_add_24 : decode cX5_add 24 = .ok (.iload_n 2, 1) := by decide +kernel
theorem dX5_add_25 : decode cX5_add 25 = .ok (.invokestatic 59, 3) := by decide +kernel
theorem dX5_add_28 : decode cX5_add 28 = .ok (.ifCond .eq 13, 3) := by decide +kernel
theorem dX5_add_31 : decode cX5_add 31 = .ok (.iload_n 3, 1) := by decide +kernel
theorem dX5_add_32 : decode cX5_add 32 = .ok (.ifCond .lt 9, 3) := by decide +kernel
theorem dX5_add_35 : decode cX5_add 35 = .ok (.iload_n 3, 1) := by decide +kernel
theorem dX5_add_36 : decode cX5_add 36 = .ok (.bipush 99, 2) := by decide +kernel
theorem dX5_add_38 : decode cX5_add 38 = .ok (.if_icmp .le 6, 3) := by decide +kernel
theorem dX5_add_41 : decode cX5_add 41 = .ok (.bipush (-2), 2) := by decide +kernel
theorem dX5_add_43 : decode cX5_add 43 = .ok (.ireturn, 1) := by decide +kernel
theorem dX5_add_44 : decode cX5_add 44 = .ok (.aload_n 0, 1) := by decide +kernel
theorem dX5_add_45 : decode cX5_add 45 = .ok (.getfield 10, 3) := by decide +kernel
theorem dX5_add_48 : decode cX5_add 48 = .ok (.invokevirtual 63, 3) := by decide +kernel
theorem dX5_add_51 : decode cX5_add 51 = .ok (.iconst 1, 1) := by decide +kernel
theorem dX5_add_52 : decode cX5_add 52 = .ok (.if_icmp .ge 6, 3) := by decide +kernel
theorem dX5_add_55 : decode cX5_add 55 = .ok (.bipush (-3), 2) := by decide +kernel
theorem dX5_add_57 : decode cX5_add 57 = .ok (.ireturn, 1) := by decide +kernel
theorem dX5_add_58 : decode cX5_add 58 = .ok (.aload_n 0, 1) := by decide +kernel
theorem dX5_add_59 : decode cX5_add 59 = .ok (.getfield 28, 3) := by decide +kernel
theorem dX5_add_62 : decode cX5_add 62 = .ok (.aload_n 0, 1) := by decide +kernel
theorem dX5_add_63 : decode cX5_add 63 = .ok (.getfield 10, 3) := by decide +kernel
theorem dX5_add_66 : decode cX5_add 66 = .ok (.invokevirtual 67, 3) := by decide +kernel
theorem dX5_add_69 : decode cX5_add 69 = .ok (.aload_n 0, 1) := by decide +kernel
theorem dX5_add_70 : decode cX5_add 70 = .ok (.getfield 10, 3) := by decide +kernel
theorem dX5_add_73 : decode cX5_add 73 = .ok (.iload_n 1, 1) := by decide +kernel
theorem dX5_add_74 : decode cX5_add 74 = .ok (.iload_n 2, 1) := by decide +kernel
theorem dX5_add_75 : decode cX5_add 75 = .ok (.iload_n 3, 1) := by decide +kernel
theorem dX5_add_76 : decode cX5_add 76 = .ok (.iload 4, 2) := by decide +kernel
theorem dX5_add_78 : decode cX5_add 78 = .ok (.invokevirtual 70, 3) := by decide +kernel
theorem dX5_add_81 : decode cX5_add 81 = .ok (.aload_n 0, 1) := by decide +kernel
theorem dX5_add_82 : decode cX5_add 82 = .ok (.getfield 10, 3) := by decide +kernel
theorem dX5_add_85 : decode cX5_add 85 = .ok (.invokevirtual 74, 3) := by decide +kernel
theorem dX5_add_88 : decode cX5_add 88 = .ok (.iconst 1, 1) := by decide +kernel
theorem dX5_add_89 : decode cX5_add 89 = .ok (.isub, 1) := by decide +kernel
theorem dX5_add_90 : decode cX5_add 90 = .ok (.ireturn, 1) := by decide +kernel
set_option maxRecDepth 20000 in
theorem ggX5_remove_X3_has : GoodIn wsX5_remove wsX3_has := goodIn_r _ [7, 8, 82, 83, 84, 85, 86, 87] (by decide +kernel) (by decide +kernel)
set_option maxRecDepth 20000 in
theorem gX5_remove_X3_has : GoodIn wsX5_remove (wsV RX5 91 RX3 yX3_has wsX3_has) := goodIn_app (goodIn_of _ (by decide +kernel)) ggX5_remove_X3_has
set_option maxRecDepth 20000 in
theorem ggX5_remove_X1_remember : GoodIn wsX5_remove wsX1_remember := goodIn_r _ [13, 14, 15, 16, 17, 18, 19, 20, 21, 22, 12, 23, 24, 25, 26, 27, 6, 28, 29, 30, 31, 32, 8, 33, 34, 35, 36, 37, 38, 39, 40, 41, 88, 89, 90, 82, 83, 84, 85, 86, 87] (by decide +kernel) (by decide +kernel)
set_option maxRecDepth 20000 in
theorem gX5_remove_X1_remember : GoodIn wsX5_remove (wsV RX5 67 RX1 yX1_remember wsX1_remember) := goodIn_app (goodIn_of _ (by decide +kernel)) ggX5_remove_X1_remember
set_option maxRecDepth 20000 in
theorem ggX5_remove_X3_drop : GoodIn wsX5_remove wsX3_drop := goodIn_r _ [45, 8, 46, 4, 5, 6, 7, 47, 48, 49, 50, 29, 30, 31, 32, 51, 52, 53, 54, 55, 35, 56, 57, 58, 59, 60, 61, 62, 63, 64, 65, 66, 67, 68, 69, 70, 82, 83, 84, 85, 86, 87] (by decide +kernel) (by decide +kernel)
set_option maxRecDepth 20000 in
theorem gX5_remove_X3_drop : GoodIn wsX5_remove (wsV RX5 94 RX3 yX3_drop wsX3_drop) := goodIn_app (goodIn_of _ (by decide +kernel)) ggX5_remove_X3_drop
set_option maxRecDepth 20000 in
theorem ggX5_remove_X3_size : GoodIn wsX5_remove wsX3_size := goodIn_r _ [74, 8, 82, 83, 84, 85, 86, 87] (by decide +kernel) (by decide +kernel)
set_option maxRecDepth 20000 in
theorem gX5_remove_X3_size : GoodIn wsX5_remove (wsV RX5 74 RX3 yX3_size wsX3_size) := goodIn_app (goodIn_of _ (by decide +kernel)) ggX5_remove_X3_size
theorem dX5_remove_0 : decode cX5_remove 0 = .ok (.aload_n 0, 1) := by decide +kernel
theorem dX5_remove_1 : decode cX5_remove 1 = .ok (.getfield 10, 3) := by decide +kernel
theorem dX5_remove_4 : decode cX5_remove 4 = .ok (.iload_n 1, 1) := by decide +kernel
theorem dX5_remove_5 : decode cX5_remove 5 = .ok (.invokevirtual 91, 3) := by decide +kernel
theorem dX5_remove_8 : decode cX5_remove 8 = .ok (.ifCond .ne 5, 3) := by decide +kernel
theorem dX5_remove_11 : decode cX5_remove 11 = .ok (.iconst (-1), 1) := by decide +kernel
theorem dX5_remove_12 : decode cX5_remove 12 = .ok (.ireturn, 1) := by decide +kernel
theorem dX5_remove_13 : decode cX5_remove 13 = .ok (.aload_n 0, 1) := by decide +kernel
theorem dX5_remove_14 : decode cX5_remove 14 = .ok (.getfield 28, 3) := by decide +kernel
theorem dX5_remove_17 : decode cX5_remove 17 = .ok (.aload_n 0, 1) := by decide +kernel
theorem dX5_remove_18 : decode cX5_remove 18 = .ok (.getfield 10, 3) := by decide +kernel
theorem dX5_remove_21 : decode cX5_remove 21 = .ok (.invokevirtual 67, 3) := by decide +kernel
theorem dX5_remove_24 : decode cX5_remove 24 = .ok (.aload_n 0, 1) := by decide +kernel
theorem dX5_remove_25 : decode cX5_remove 25 = .ok (.getfield 10, 3) := by decide +kernel
theorem dX5_remove_28 : decode cX5_remove 28 = .ok (.iload_n 1, 1) := by decide +kernel
theorem dX5_remove_29 : decode cX5_remove 29 = .ok (.invokevirtual 94, 3) := by decide +kernel
theorem dX5_remove_32 : decode cX5_remove 32 = .ok (.aload_n 0, 1) := by decide +kernel
theorem dX5_remove_33 : decode cX5_remove 33 = .ok (.getfield 10, 3) := by decide +kernel
theorem dX5_remove_36 : decode cX5_remove 36 = .ok (.invokevirtual 74, 3) := by decide +kernel
theorem dX5_remove_39 : decode cX5_remove 39 = .ok (.ireturn, 1) := by decide +kernel
set_option maxRecDepth 20000 in
theorem ggX5_mend_X3_has : GoodIn wsX5_mend wsX3_has := goodIn_r _ [7, 8, 83, 84, 85, 86, 87, 88] (by decide +kernel) (by decide +kernel)
set_option maxRecDepth 20000 in
theorem gX5_mend_X3_has : GoodIn wsX5_mend (wsV RX5 91 RX3 yX3_has wsX3_has) := goodIn_app (goodIn_of _ (by decide +kernel)) ggX5_mend_X3_has
set_option maxRecDepth 20000 in
theorem ggX5_mend_X3_keyAt : GoodIn wsX5_mend wsX3_keyAt := goodIn_r _ [12, 13, 14, 15, 16, 83, 84, 85, 86, 87, 88] (by decide +kernel) (by decide +kernel)
set_option maxRecDepth 20000 in
theorem gX5_mend_X3_keyAt : GoodIn wsX5_mend (wsV RX5 98 RX3 yX3_keyAt wsX3_keyAt) := goodIn_app (goodIn_of _ (by decide +kernel)) ggX5_mend_X3_keyAt
set_option maxRecDepth 20000 in
theorem ggX5_mend_X3_rowsWith : GoodIn wsX5_mend wsX3_rowsWith := goodIn_r _ [20, 8, 21, 10, 11, 6, 12, 13, 14, 15, 16, 83, 84, 85, 86, 87, 88] (by decide +kernel) (by decide +kernel)
set_option maxRecDepth 20000 in
theorem gX5_mend_X3_rowsWith : GoodIn wsX5_mend (wsV RX5 102 RX3 yX3_rowsWith wsX3_rowsWith) := goodIn_app (goodIn_of _ (by decide +kernel)) ggX5_mend_X3_rowsWith
set_option maxRecDepth 20000 in
theorem ggX5_mend_X1_remember : GoodIn wsX5_mend wsX1_remember := goodIn_r _ [26, 27, 28, 29, 30, 31, 32, 33, 34, 35, 25, 36, 37, 38, 39, 40, 6, 41, 13, 42, 43, 44, 8, 45, 46, 15, 47, 48, 49, 50, 51, 52, 89, 90, 91, 83, 84, 85, 86, 87, 88] (by decide +kernel) (by decide +kernel)
set_option maxRecDepth 20000 in
theorem gX5_mend_X1_remember : GoodIn wsX5_mend (wsV RX5 67 RX1 yX1_remember wsX1_remember) := goodIn_app (goodIn_of _ (by decide +kernel)) ggX5_mend_X1_remember
set_option maxRecDepth 20000 in
theorem ggX5_mend_X3_dropOthersLike : GoodIn wsX5_mend wsX3_dropOthersLike := goodIn_r _ [56, 8, 57, 4, 5, 6, 7, 21, 10, 11, 12, 13, 14, 15, 16, 58, 59, 60, 61, 42, 43, 44, 62, 63, 64, 65, 66, 67, 68, 69, 70, 71, 72, 73, 74, 75, 83, 84, 85, 86, 87, 88] (by decide +kernel) (by decide +kernel)
set_option maxRecDepth 20000 in
theorem gX5_mend_X3_dropOthersLike : GoodIn wsX5_mend (wsV RX5 105 RX3 yX3_dropOthersLike wsX3_dropOthersLike) := goodIn_app (goodIn_of _ (by decide +kernel)) ggX5_mend_X3_dropOthersLike
theorem dX5_mend_0 : decode cX5_mend 0 = .ok (.aload_n 0, 1) := by decide +kernel
theorem dX5_mend_1 : decode cX5_mend 1 = .ok (.getfield 10, 3) := by decide +kernel
theorem dX5_mend_4 : decode cX5_mend 4 = .ok (.iload_n 1, 1) := by decide +kernel
theorem dX5_mend_5 : decode cX5_mend 5 = .ok (.invokevirtual 91, 3) := by decide +kernel
theorem dX5_mend_8 : decode cX5_mend 8 = .ok (.ifCond .ne 5, 3) := by decide +kernel
theorem dX5_mend_11 : decode cX5_mend 11 = .ok (.iconst (-1), 1) := by decide +kernel
theorem dX5_mend_12 : decode cX5_mend 12 = .ok (.ireturn, 1) := by decide +kernel
theorem dX5_mend_13 : decode cX5_mend 13 = .ok (.aload_n 0, 1) := by decide +kernel
theorem dX5_mend_14 : decode cX5_mend 14 = .ok (.getfield 10, 3) := by decide +kernel
theorem dX5_mend_17 : decode cX5_mend 17 = .ok (.aload_n 0, 1) := by decide +kernel
theorem dX5_mend_18 : decode cX5_mend 18 = .ok (.getfield 10, 3) := by decide +kernel
theorem dX5_mend_21 : decode cX5_mend 21 = .ok (.iload_n 1, 1) := by decide +kernel
theorem dX5_mend_22 : decode cX5_mend 22 = .ok (.invokevirtual 98, 3) := by decide +kernel
theorem dX5_mend_25 : decode cX5_mend 25 = .ok (.invokevirtual 102, 3) := by decide +kernel
theorem dX5_mend_28 : decode cX5_mend 28 = .ok (.iconst 1, 1) := by decide +kernel
theorem dX5_mend_29 : decode cX5_mend 29 = .ok (.isub, 1) := by decide +kernel
theorem dX5_mend_30 : decode cX5_mend 30 = .ok (.istore_n 2, 1) := by decide +kernel
theorem dX5_mend_31 : decode cX5_mend 31 = .ok (.iload_n 2, 1) := by decide +kernel
theorem dX5_mend_32 : decode cX5_mend 32 = .ok (.ifCond .ne 6, 3) := by decide +kernel
theorem dX5_mend_35 : decode cX5_mend 35 = .ok (.bipush (-5), 2) := by decide +kernel
theorem dX5_mend_37 : decode cX5_mend 37 = .ok (.ireturn, 1) := by decide +kernel
theorem dX5_mend_38 : decode cX5_mend 38 = .ok (.aload_n 0, 1) := by decide +kernel
theorem dX5_mend_39 : decode cX5_mend 39 = .ok (.getfield 28, 3) := by decide +kernel
theorem dX5_mend_42 : decode cX5_mend 42 = .ok (.aload_n 0, 1) := by decide +kernel
theorem dX5_mend_43 : decode cX5_mend 43 = .ok (.getfield 10, 3) := by decide +kernel
theorem dX5_mend_46 : decode cX5_mend 46 = .ok (.invokevirtual 67, 3) := by decide +kernel
theorem dX5_mend_49 : decode cX5_mend 49 = .ok (.aload_n 0, 1) := by decide +kernel
theorem dX5_mend_50 : decode cX5_mend 50 = .ok (.getfield 10, 3) := by decide +kernel
theorem dX5_mend_53 : decode cX5_mend 53 = .ok (.iload_n 1, 1) := by decide +kernel
theorem dX5_mend_54 : decode cX5_mend 54 = .ok (.invokevirtual 105, 3) := by decide +kernel
theorem dX5_mend_57 : decode cX5_mend 57 = .ok (.iload_n 2, 1) := by decide +kernel
theorem dX5_mend_58 : decode cX5_mend 58 = .ok (.ireturn, 1) := by decide +kernel
set_option maxRecDepth 20000 in
theorem ggX5_mendAll_X3_doubledKeys : GoodIn wsX5_mendAll wsX3_doubledKeys := goodIn_r _ [7, 8, 9, 10, 6, 11, 12, 13, 14, 15, 16, 17, 18, 19, 20, 21, 22, 23, 24, 109, 110, 111, 112, 113, 114] (by decide +kernel) (by decide +kernel)
set_option maxRecDepth 20000 in
theorem gX5_mendAll_X3_doubledKeys : GoodIn wsX5_mendAll (wsV RX5 108 RX3 yX3_doubledKeys wsX3_doubledKeys) := goodIn_app (goodIn_of _ (by decide +kernel)) ggX5_mendAll_X3_doubledKeys
set_option maxRecDepth 20000 in
theorem ggX5_mendAll_X1_remember : GoodIn wsX5_mendAll wsX1_remember := goodIn_r _ [29, 30, 31, 32, 33, 34, 35, 36, 37, 38, 28, 39, 40, 41, 42, 43, 6, 44, 21, 45, 46, 47, 16, 48, 49, 23, 50, 51, 52, 53, 54, 55, 115, 116, 117, 109, 110, 111, 112, 113, 114] (by decide +kernel) (by decide +kernel)
set_option maxRecDepth 20000 in
theorem gX5_mendAll_X1_remember : GoodIn wsX5_mendAll (wsV RX5 67 RX1 yX1_remember wsX1_remember) := goodIn_app (goodIn_of _ (by decide +kernel)) ggX5_mendAll_X1_remember
set_option maxRecDepth 20000 in
theorem ggX5_mendAll_X3_size : GoodIn wsX5_mendAll wsX3_size := goodIn_r _ [59, 16, 109, 110, 111, 112, 113, 114] (by decide +kernel) (by decide +kernel)
set_option maxRecDepth 20000 in
theorem gX5_mendAll_X3_size : GoodIn wsX5_mendAll (wsV RX5 74 RX3 yX3_size wsX3_size) := goodIn_app (goodIn_of _ (by decide +kernel)) ggX5_mendAll_X3_size
set_option maxRecDepth 20000 in
theorem ggX5_mendAll_X5_chosenBy : GoodIn wsX5_mendAll wsX5_chosenBy := goodIn_r _ [63, 1, 64, 65, 66, 6, 67, 16, 17, 18, 19, 20, 21, 22, 23, 24, 68, 69, 70, 71, 72, 73, 74, 75, 76, 77, 78, 79, 46, 102, 103, 104, 105, 106, 107, 108, 109, 110, 111, 112, 113, 114] (by decide +kernel) (by decide +kernel)
set_option maxRecDepth 20000 in
theorem gX5_mendAll_X5_chosenBy : GoodIn wsX5_mendAll (wsV RX5 111 RX5 yX5_chosenBy wsX5_chosenBy) := goodIn_app (goodIn_of _ (by decide +kernel)) ggX5_mendAll_X5_chosenBy
set_option maxRecDepth 20000 in
theorem ggX5_mendAll_X3_dropOthersLike : GoodIn wsX5_mendAll wsX3_dropOthersLike := goodIn_r _ [83, 16, 84, 85, 86, 6, 87, 17, 18, 19, 20, 21, 22, 23, 24, 88, 89, 90, 91, 45, 46, 47, 92, 93, 94, 95, 96, 97, 76, 77, 78, 79, 98, 99, 100, 101, 109, 110, 111, 112, 113, 114] (by decide +kernel) (by decide +kernel)
set_option maxRecDepth 20000 in
theorem gX5_mendAll_X3_dropOthersLike : GoodIn wsX5_mendAll (wsV RX5 105 RX3 yX3_dropOthersLike wsX3_dropOthersLike) := goodIn_app (goodIn_of _ (by decide +kernel)) ggX5_mendAll_X3_dropOthersLike
theorem dX5_mendAll_0 : decode cX5_mendAll 0 = .ok (.iload_n 1, 1) := by decide +kernel
theorem dX5_mendAll_1 : decode cX5_mendAll 1 = .ok (.ifCond .lt 8, 3) := by decide +kernel
theorem dX5_mendAll_4 : decode cX5_mendAll 4 = .ok (.iload_n 1, 1) := by decide +kernel
theorem dX5_mendAll_5 : decode cX5_mendAll 5 = .ok (.iconst 2, 1) := by decide +kernel
theorem dX5_mendAll_6 : decode cX5_mendAll 6 = .ok (.if_icmp .le 6, 3) := by decide +kernel
theorem dX5_mendAll_9 : decode cX5_mendAll 9 = .ok (.bipush (-2), 2) := by decide +kernel
theorem dX5_mendAll_11 : decode cX5_mendAll 11 = .ok (.ireturn, 1) := by decide +kernel
theorem dX5_mendAll_12 : decode cX5_mendAll 12 = .ok (.aload_n 0, 1) := by decide +kernel
theorem dX5_mendAll_13 : decode cX5_mendAll 13 = .ok (.getfield 10, 3) := by decide +kernel
theorem dX5_mendAll_16 : decode cX5_mendAll 16 = .ok (.invokevirtual 108, 3) := by decide +kernel
theorem dX5_mendAll_19 : decode cX5_mendAll 19 = .ok (.ifCond .ne 6, 3) := by decide +kernel
theorem dX5_mendAll_22 : decode cX5_mendAll 22 = .ok (.bipush (-5), 2) := by decide +kernel
theorem dX5_mendAll_24 : decode cX5_mendAll 24 = .ok (.ireturn, 1) := by decide +kernel
theorem dX5_mendAll_25 : decode cX5_mendAll 25 = .ok (.aload_n 0, 1) := by decide +kernel
theorem dX5_mendAll_26 : decode cX5_mendAll 26 = .ok (.getfield 28, 3) := by decide +kernel
theorem dX5_mendAll_29 : decode cX5_mendAll 29 = .ok (.aload_n 0, 1) := by decide +kernel
theorem dX5_mendAll_30 : decode cX5_mendAll 30 = .ok (.getfield 10, 3) := by decide +kernel
theorem dX5_mendAll_33 : decode cX5_mendAll 33 = .ok (.invokevirtual 67, 3) := by decide +kernel
theorem dX5_mendAll_36 : decode cX5_mendAll 36 = .ok (.aload_n 0, 1) := by decide +kernel
theorem dX5_mendAll_37 : decode cX5_mendAll 37 = .ok (.getfield 10, 3) := by decide +kernel
theorem dX5_mendAll_40 : decode cX5_mendAll 40 = .ok (.invokevirtual 74, 3) := by decide +kernel
theorem dX5_mendAll_43 : decode cX5_mendAll 43 = .ok (.istore_n 2, 1) := by decide +kernel
theorem dX5_mendAll_44 : decode cX5_mendAll 44 = .ok (.iconst 0, 1) := by decide +kernel
theorem dX5_mendAll_45 : decode cX5_mendAll 45 = .ok (.istore_n 3, 1) := by decide +kernel
theorem dX5_mendAll_46 : decode cX5_mendAll 46 = .ok (.iload_n 3, 1) := by decide +kernel
theorem dX5_mendAll_47 : decode cX5_mendAll 47 = .ok (.bipush 10, 2) := by decide +kernel
theorem dX5_mendAll_49 : decode cX5_mendAll 49 = .ok (.if_icmp .ge 22, 3) := by decide +kernel
theorem dX5_mendAll_52 : decode cX5_mendAll 52 = .ok (.aload_n 0, 1) := by decide +kernel
theorem dX5_mendAll_53 : decode cX5_mendAll 53 = .ok (.getfield 10, 3) := by decide +kernel
theorem dX5_mendAll_56 : decode cX5_mendAll 56 = .ok (.aload_n 0, 1) := by decide +kernel
theorem dX5_mendAll_57 : decode cX5_mendAll 57 = .ok (.iload_n 1, 1) := by decide +kernel
theorem dX5_mendAll_58 : decode cX5_mendAll 58 = .ok (.iload_n 3, 1) := by decide +kernel
theorem dX5_mendAll_59 : decode cX5_mendAll 59 = .ok (.invokevirtual 111, 3) := by decide +kernel
theorem dX5_mendAll_62 : decode cX5_mendAll 62 = .ok (.invokevirtual 105, 3) := by decide +kernel
theorem dX5_mendAll_65 : decode cX5_mendAll 65 = .ok (.iinc 3 1, 3) := by decide +kernel
theorem dX5_mendAll_68 : decode cX5_mendAll 68 = .ok (.goto (-22), 3) := by decide +kernel
theorem dX5_mendAll_71 : decode cX5_mendAll 71 = .ok (.iload_n 2, 1) := by decide +kernel
theorem dX5_mendAll_72 : decode cX5_mendAll 72 = .ok (.aload_n 0, 1) := by decide +kernel
theorem dX5_mendAll_73 : decode cX5_mendAll 73 = .ok (.getfield 10, 3) := by decide +kernel
theorem dX5_mendAll_76 : decode cX5_mendAll 76 = .ok (.invokevirtual 74, 3) := by decide +kernel
theorem dX5_mendAll_79 : decode cX5_mendAll 79 = .ok (.isub, 1) := by decide +kernel
theorem dX5_mendAll_80 : decode cX5_mendAll 80 = .ok (.ireturn, 1) := by decide +kernel
set_option maxRecDepth 20000 in
theorem ggX5_prefer_X3_prefersHeaviest : GoodIn wsX5_prefer wsX3_prefersHeaviest := goodIn_r _ [7, 8, 124, 125, 126, 127, 128, 129] (by decide +kernel) (by decide +kernel)
set_option maxRecDepth 20000 in
theorem gX5_prefer_X3_prefersHeaviest : GoodIn wsX5_prefer (wsV RX5 115 RX3 yX3_prefersHeaviest wsX3_prefersHeaviest) := goodIn_app (goodIn_of _ (by decide +kernel)) ggX5_prefer_X3_prefersHeaviest
set_option maxRecDepth 20000 in
theorem ggX5_prefer_X1_remember : GoodIn wsX5_prefer wsX1_remember := goodIn_r _ [13, 14, 15, 16, 17, 18, 19, 20, 21, 22, 12, 23, 24, 25, 26, 27, 6, 28, 29, 30, 31, 32, 33, 8, 34, 35, 36, 37, 38, 39, 40, 41, 130, 131, 132, 124, 125, 126, 127, 128, 129] (by decide +kernel) (by decide +kernel)
set_option maxRecDepth 20000 in
theorem gX5_prefer_X1_remember : GoodIn wsX5_prefer (wsV RX5 67 RX1 yX1_remember wsX1_remember) := goodIn_app (goodIn_of _ (by decide +kernel)) ggX5_prefer_X1_remember
set_option maxRecDepth 20000 in
theorem ggX5_prefer_X3_setPreference : GoodIn wsX5_prefer wsX3_setPreference := goodIn_r _ [45, 8, 124, 125, 126, 127, 128, 129] (by decide +kernel) (by decide +kernel)
set_option maxRecDepth 20000 in
theorem gX5_prefer_X3_setPreference : GoodIn wsX5_prefer (wsV RX5 118 RX3 yX3_setPreference wsX3_setPreference) := goodIn_app (goodIn_of _ (by decide +kernel)) ggX5_prefer_X3_setPreference
set_option maxRecDepth 20000 in
theorem ggX5_prefer_X5_choicesNow : GoodIn wsX5_prefer wsX5_choicesNow := goodIn_r _ [49, 50, 51, 52, 53, 54, 55, 56, 57, 58, 59, 60, 61, 62, 63, 64, 65, 66, 67, 6, 68, 33, 69, 70, 71, 72, 8, 73, 74, 75, 76, 31, 77, 35, 78, 79, 80, 81, 82, 29, 83, 84, 85, 86, 87, 88, 89, 90, 91, 92, 93, 94, 95, 96, 97, 98, 99, 100, 101, 102, 103, 104, 105, 106, 32, 107, 108, 109, 110, 111, 112, 117, 118, 119, 120, 121, 122, 123, 133, 134, 135, 136, 137, 138, 124, 125, 126, 127, 128, 129] (by decide +kernel) (by decide +kernel)
set_option maxRecDepth 20000 in
theorem gX5_prefer_X5_choicesNow : GoodIn wsX5_prefer (wsV RX5 122 RX5 yX5_choicesNow wsX5_choicesNow) := goodIn_app (goodIn_of _ (by decide +kernel)) ggX5_prefer_X5_choicesNow
set_option maxRecDepth 20000 in
theorem ggX5_prefer_X0_mendings : GoodIn wsX5_prefer wsX0_mendings := goodIn_r _ [116, 59, 133, 134, 135, 136, 137, 138] (by decide +kernel) (by decide +kernel)
set_option maxRecDepth 20000 in
theorem gX5_prefer_X0_mendings : GoodIn wsX5_prefer (wsV RX5 126 RX0 yX0_mendings wsX0_mendings) := goodIn_app (goodIn_of _ (by decide +kernel)) ggX5_prefer_X0_mendings
theorem dX5_prefer_0 : decode cX5_prefer 0 = .ok (.iload_n 1, 1) := by decide +kernel
theorem dX5_prefer_1 : decode cX5_prefer 1 = .ok (.aload_n 0, 1) := by decide +kernel
theorem dX5_prefer_2 : decode cX5_prefer 2 = .ok (.getfield 10, 3) := by decide +kernel
theorem dX5_prefer_5 : decode cX5_prefer 5 = .ok (.invokevirtual 115, 3) := by decide +kernel
theorem dX5_prefer_8 : decode cX5_prefer 8 = .ok (.if_icmp .ne 6, 3) := by decide +kernel
theorem dX5_prefer_11 : decode cX5_prefer 11 = .ok (.bipush (-5), 2) := by decide +kernel
theorem dX5_prefer_13 : decode cX5_prefer 13 = .ok (.ireturn, 1) := by decide +kernel
theorem dX5_prefer_14 : decode cX5_prefer 14 = .ok (.aload_n 0, 1) := by decide +kernel
theorem dX5_prefer_15 : decode cX5_prefer 15 = .ok (.getfield 28, 3) := by decide +kernel
theorem dX5_prefer_18 : decode cX5_prefer 18 = .ok (.aload_n 0, 1) := by decide +kernel
theorem dX5_prefer_19 : decode cX5_prefer 19 = .ok (.getfield 10, 3) := by decide +kernel
theorem dX5_prefer_22 : decode cX5_prefer 22 = .ok (.invokevirtual 67, 3) := by decide +kernel
theorem dX5_prefer_25 : decode cX5_prefer 25 = .ok (.aload_n 0, 1) := by decide +kernel
theorem dX5_prefer_26 : decode cX5_prefer 26 = .ok (.getfield 10, 3) := by decide +kernel
theorem dX5_prefer_29 : decode cX5_prefer 29 = .ok (.iload_n 1, 1) := by decide +kernel
theorem dX5_prefer_30 : decode cX5_prefer 30 = .ok (.invokevirtual 118, 3) := by decide +kernel
theorem dX5_prefer_33 : decode cX5_prefer 33 = .ok (.aload_n 0, 1) := by decide +kernel
theorem dX5_prefer_34 : decode cX5_prefer 34 = .ok (.invokevirtual 122, 3) := by decide +kernel
theorem dX5_prefer_37 : decode cX5_prefer 37 = .ok (.invokevirtual 126, 3) := by decide +kernel
theorem dX5_prefer_40 : decode cX5_prefer 40 = .ok (.ireturn, 1) := by decide +kernel
set_option maxRecDepth 20000 in
theorem ggX5_undo_X1_takeBack : GoodIn wsX5_undo wsX1_takeBack := goodIn_r _ [7, 8, 9, 10, 11, 12, 6, 13, 14, 15, 16, 17, 18, 19, 20, 21, 22, 23, 24, 25, 26, 27, 28, 29, 30, 31, 32, 33, 34, 35, 36, 48, 49, 50, 51, 52, 53, 54, 55, 56] (by decide +kernel) (by decide +kernel)
set_option maxRecDepth 20000 in
theorem gX5_undo_X1_takeBack : GoodIn wsX5_undo (wsV RX5 137 RX1 yX1_takeBack wsX1_takeBack) := goodIn_app (goodIn_of _ (by decide +kernel)) ggX5_undo_X1_takeBack
set_option maxRecDepth 20000 in
theorem ggX5_undo_X1_size : GoodIn wsX5_undo wsX1_size := goodIn_r _ [40, 9, 48, 49, 50] (by decide +kernel) (by decide +kernel)
set_option maxRecDepth 20000 in
theorem gX5_undo_X1_size : GoodIn wsX5_undo (wsV RX5 141 RX1 yX1_size wsX1_size) := goodIn_app (goodIn_of _ (by decide +kernel)) ggX5_undo_X1_size
theorem dX5_undo_0 : decode cX5_undo 0 = .ok (.aload_n 0, 1) := by decide +kernel
theorem dX5_undo_1 : decode cX5_undo 1 = .ok (.getfield 28, 3) := by decide +kernel
theorem dX5_undo_4 : decode cX5_undo 4 = .ok (.aload_n 0, 1) := by decide +kernel
theorem dX5_undo_5 : decode cX5_undo 5 = .ok (.getfield 10, 3) := by decide +kernel
theorem dX5_undo_8 : decode cX5_undo 8 = .ok (.invokevirtual 137, 3) := by decide +kernel
theorem dX5_undo_11 : decode cX5_undo 11 = .ok (.ifCond .eq 13, 3) := by decide +kernel
theorem dX5_undo_14 : decode cX5_undo 14 = .ok (.aload_n 0, 1) := by decide +kernel
theorem dX5_undo_15 : decode cX5_undo 15 = .ok (.getfield 28, 3) := by decide +kernel
theorem dX5_undo_18 : decode cX5_undo 18 = .ok (.invokevirtual 141, 3) := by decide +kernel
theorem dX5_undo_21 : decode cX5_undo 21 = .ok (.goto 5, 3) := by decide +kernel
theorem dX5_undo_24 : decode cX5_undo 24 = .ok (.bipush (-5), 2) := by decide +kernel
theorem dX5_undo_26 : decode cX5_undo 26 = .ok (.ireturn, 1) := by decide +kernel
set_option maxRecDepth 20000 in
theorem ggX5_row_X3_has : GoodIn wsX5_row wsX3_has := goodIn_r _ [6, 7, 103, 104, 105, 106, 107, 108] (by decide +kernel) (by decide +kernel)
set_option maxRecDepth 20000 in
theorem gX5_row_X3_has : GoodIn wsX5_row (wsV RX5 91 RX3 yX3_has wsX3_has) := goodIn_app (goodIn_of _ (by decide +kernel)) ggX5_row_X3_has
set_option maxRecDepth 20000 in
theorem ggX5_row_X3_keyAt : GoodIn wsX5_row wsX3_keyAt := goodIn_r _ [11, 12, 13, 14, 15, 103, 104, 105, 106, 107, 108] (by decide +kernel) (by decide +kernel)
set_option maxRecDepth 20000 in
theorem gX5_row_X3_keyAt : GoodIn wsX5_row (wsV RX5 98 RX3 yX3_keyAt wsX3_keyAt) := goodIn_app (goodIn_of _ (by decide +kernel)) ggX5_row_X3_keyAt
set_option maxRecDepth 20000 in
theorem ggX5_row_X3_valueAt : GoodIn wsX5_row wsX3_valueAt := goodIn_r _ [19, 20, 13, 14, 15, 103, 104, 105, 106, 107, 108] (by decide +kernel) (by decide +kernel)
set_option maxRecDepth 20000 in
theorem gX5_row_X3_valueAt : GoodIn wsX5_row (wsV RX5 145 RX3 yX3_valueAt wsX3_valueAt) := goodIn_app (goodIn_of _ (by decide +kernel)) ggX5_row_X3_valueAt
set_option maxRecDepth 20000 in
theorem ggX5_row_X3_weightAt : GoodIn wsX5_row wsX3_weightAt := goodIn_r _ [24, 25, 13, 14, 15, 103, 104, 105, 106, 107, 108] (by decide +kernel) (by decide +kernel)
set_option maxRecDepth 20000 in
theorem gX5_row_X3_weightAt : GoodIn wsX5_row (wsV RX5 148 RX3 yX3_weightAt wsX3_weightAt) := goodIn_app (goodIn_of _ (by decide +kernel)) ggX5_row_X3_weightAt
set_option maxRecDepth 20000 in
theorem ggX5_row_X3_targetAt : GoodIn wsX5_row wsX3_targetAt := goodIn_r _ [29, 30, 13, 14, 15, 103, 104, 105, 106, 107, 108] (by decide +kernel) (by decide +kernel)
set_option maxRecDepth 20000 in
theorem gX5_row_X3_targetAt : GoodIn wsX5_row (wsV RX5 151 RX3 yX3_targetAt wsX3_targetAt) := goodIn_app (goodIn_of _ (by decide +kernel)) ggX5_row_X3_targetAt
set_option maxRecDepth 20000 in
theorem ggX5_row_X3_canBeKept : GoodIn wsX5_row wsX3_canBeKept := goodIn_r _ [34, 35, 36, 22, 23, 5, 24, 25, 13, 14, 15, 37, 9, 10, 11, 12, 38, 39, 40, 41, 7, 103, 104, 105, 106, 107, 108] (by decide +kernel) (by decide +kernel)
set_option maxRecDepth 20000 in
theorem gX5_row_X3_canBeKept : GoodIn wsX5_row (wsV RX5 154 RX3 yX3_canBeKept wsX3_canBeKept) := goodIn_app (goodIn_of _ (by decide +kernel)) ggX5_row_X3_canBeKept
set_option maxRecDepth 20000 in
theorem ggX5_row_X5_oneIf : GoodIn wsX5_row wsX5_oneIf := goodIn_r _ [44] (by decide +kernel) (by decide +kernel)
set_option maxRecDepth 20000 in
theorem gX5_row_X5_oneIf : GoodIn wsX5_row (va_wsS RX5 157 yX5_oneIf wsX5_oneIf) := goodIn_app (goodIn_of _ (by decide +kernel)) ggX5_row_X5_oneIf
set_option maxRecDepth 20000 in
theorem ggX5_row_X5_choicesNow : GoodIn wsX5_row wsX5_choicesNow := goodIn_r _ [48, 49, 50, 51, 52, 53, 54, 55, 56, 57, 58, 59, 60, 61, 62, 63, 64, 65, 66, 5, 67, 7, 68, 32, 33, 34, 35, 36, 22, 23, 24, 25, 13, 14, 15, 37, 9, 10, 11, 12, 38, 39, 40, 41, 69, 70, 71, 72, 73, 74, 75, 76, 77, 78, 79, 80, 81, 82, 83, 84, 85, 27, 28, 29, 30, 86, 87, 88, 89, 90, 91, 96, 97, 98, 99, 100, 101, 102, 109, 110, 111, 112, 113, 114, 103, 104, 105, 106, 107, 108] (by decide +kernel) (by decide +kernel)
