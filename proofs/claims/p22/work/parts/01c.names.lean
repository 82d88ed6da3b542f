set_option maxRecDepth 20000 in
theorem gX0_firstMendingWithoutWay_X0_holdsIn : GoodIn wsX0_firstMendingWithoutWay (wsV RX0 110 RX0 yX0_holdsIn wsX0_holdsIn) := goodIn_app (goodIn_of _ (by decide +kernel)) ggX0_firstMendingWithoutWay_X0_holdsIn
theorem dX0_firstMendingWithoutWay_0 : decode cX0_firstMendingWithoutWay 0 = .ok (.iconst 0, 1) := by decide +kernel
theorem dX0_firstMendingWithoutWay_1 : decode cX0_firstMendingWithoutWay 1 = .ok (.istore_n 3, 1) := by decide +kernel
theorem dX0_firstMendingWithoutWay_2 : decode cX0_firstMendingWithoutWay 2 = .ok (.iload_n 3, 1) := by decide +kernel
theorem dX0_firstMendingWithoutWay_3 : decode cX0_firstMendingWithoutWay 3 = .ok (.aload_n 0, 1) := by decide +kernel
theorem dX0_firstMendingWithoutWay_4 : decode cX0_firstMendingWithoutWay 4 = .ok (.getfield 52, 3) := by decide +kernel
theorem dX0_firstMendingWithoutWay_7 : decode cX0_firstMendingWithoutWay 7 = .ok (.if_icmp .ge 21, 3) := by decide +kernel
theorem dX0_firstMendingWithoutWay_10 : decode cX0_firstMendingWithoutWay 10 = .ok (.aload_n 0, 1) := by decide +kernel
theorem dX0_firstMendingWithoutWay_11 : decode cX0_firstMendingWithoutWay 11 = .ok (.iload_n 3, 1) := by decide +kernel
theorem dX0_firstMendingWithoutWay_12 : decode cX0_firstMendingWithoutWay 12 = .ok (.iload_n 1, 1) := by decide +kernel
theorem dX0_firstMendingWithoutWay_13 : decode cX0_firstMendingWithoutWay 13 = .ok (.iload_n 2, 1) := by decide +kernel
theorem dX0_firstMendingWithoutWay_14 : decode cX0_firstMendingWithoutWay 14 = .ok (.invokevirtual 110, 3) := by decide +kernel
theorem dX0_firstMendingWithoutWay_17 : decode cX0_firstMendingWithoutWay 17 = .ok (.ifCond .ne 5, 3) := by decide +kernel
theorem dX0_firstMendingWithoutWay_20 : decode cX0_firstMendingWithoutWay 20 = .ok (.iload_n 3, 1) := by decide +kernel
theorem dX0_firstMendingWithoutWay_21 : decode cX0_firstMendingWithoutWay 21 = .ok (.ireturn, 1) := by decide +kernel
theorem dX0_firstMendingWithoutWay_22 : decode cX0_firstMendingWithoutWay 22 = .ok (.iinc 3 1, 3) := by decide +kernel
theorem dX0_firstMendingWithoutWay_25 : decode cX0_firstMendingWithoutWay 25 = .ok (.goto (-23), 3) := by decide +kernel
theorem dX0_firstMendingWithoutWay_28 : decode cX0_firstMendingWithoutWay 28 = .ok (.bipush (-5), 2) := by decide +kernel
theorem dX0_firstMendingWithoutWay_30 : decode cX0_firstMendingWithoutWay 30 = .ok (.ireturn, 1) := by decide +kernel
set_option maxRecDepth 20000 in
theorem ggX0_fewestPointers_X0_setOf : GoodIn wsX0_fewestPointers wsX0_setOf := goodIn_r _ [5, 6, 7, 8, 4, 9, 10, 11, 12, 13, 14, 15, 16, 17, 26, 27, 28, 29, 30, 31] (by decide +kernel) (by decide +kernel)
set_option maxRecDepth 20000 in
theorem gX0_fewestPointers_X0_setOf : GoodIn wsX0_fewestPointers (wsV RX0 114 RX0 yX0_setOf wsX0_setOf) := goodIn_app (goodIn_of _ (by decide +kernel)) ggX0_fewestPointers_X0_setOf
set_option maxRecDepth 20000 in
theorem ggX0_fewestPointers_X0_contains : GoodIn wsX0_fewestPointers wsX0_contains := goodIn_r _ [20] (by decide +kernel) (by decide +kernel)
set_option maxRecDepth 20000 in
theorem gX0_fewestPointers_X0_contains : GoodIn wsX0_fewestPointers (va_wsS RX0 117 yX0_contains wsX0_contains) := goodIn_app (goodIn_of _ (by decide +kernel)) ggX0_fewestPointers_X0_contains
set_option maxRecDepth 20000 in
theorem ggX0_fewestPointers_X0_keysThatCanPointInto : GoodIn wsX0_fewestPointers wsX0_keysThatCanPointInto := goodIn_r _ [24, 25, 15, 16, 17, 26, 27, 28, 29, 30, 31] (by decide +kernel) (by decide +kernel)
set_option maxRecDepth 20000 in
theorem gX0_fewestPointers_X0_keysThatCanPointInto : GoodIn wsX0_fewestPointers (wsV RX0 121 RX0 yX0_keysThatCanPointInto wsX0_keysThatCanPointInto) := goodIn_app (goodIn_of _ (by decide +kernel)) ggX0_fewestPointers_X0_keysThatCanPointInto
theorem dX0_fewestPointers_0 : decode cX0_fewestPointers 0 = .ok (.aload_n 0, 1) := by decide +kernel
theorem dX0_fewestPointers_1 : decode cX0_fewestPointers 1 = .ok (.iload_n 2, 1) := by decide +kernel
theorem dX0_fewestPointers_2 : decode cX0_fewestPointers 2 = .ok (.invokevirtual 114, 3) := by decide +kernel
theorem dX0_fewestPointers_5 : decode cX0_fewestPointers 5 = .ok (.istore_n 3, 1) := by decide +kernel
theorem dX0_fewestPointers_6 : decode cX0_fewestPointers 6 = .ok (.iconst 0, 1) := by decide +kernel
theorem dX0_fewestPointers_7 : decode cX0_fewestPointers 7 = .ok (.istore 4, 2) := by decide +kernel
theorem dX0_fewestPointers_9 : decode cX0_fewestPointers 9 = .ok (.iload 4, 2) := by decide +kernel
theorem dX0_fewestPointers_11 : decode cX0_fewestPointers 11 = .ok (.bipush 10, 2) := by decide +kernel
theorem dX0_fewestPointers_13 : decode cX0_fewestPointers 13 = .ok (.if_icmp .ge 28, 3) := by decide +kernel
theorem dX0_fewestPointers_16 : decode cX0_fewestPointers 16 = .ok (.iload_n 3, 1) := by decide +kernel
theorem dX0_fewestPointers_17 : decode cX0_fewestPointers 17 = .ok (.iload_n 1, 1) := by decide +kernel
theorem dX0_fewestPointers_18 : decode cX0_fewestPointers 18 = .ok (.invokestatic 117, 3) := by decide +kernel
theorem dX0_fewestPointers_21 : decode cX0_fewestPointers 21 = .ok (.ifCond .eq 6, 3) := by decide +kernel
theorem dX0_fewestPointers_24 : decode cX0_fewestPointers 24 = .ok (.iload 4, 2) := by decide +kernel
theorem dX0_fewestPointers_26 : decode cX0_fewestPointers 26 = .ok (.ireturn, 1) := by decide +kernel
theorem dX0_fewestPointers_27 : decode cX0_fewestPointers 27 = .ok (.iload_n 3, 1) := by decide +kernel
theorem dX0_fewestPointers_28 : decode cX0_fewestPointers 28 = .ok (.aload_n 0, 1) := by decide +kernel
theorem dX0_fewestPointers_29 : decode cX0_fewestPointers 29 = .ok (.iload_n 3, 1) := by decide +kernel
theorem dX0_fewestPointers_30 : decode cX0_fewestPointers 30 = .ok (.invokevirtual 121, 3) := by decide +kernel
theorem dX0_fewestPointers_33 : decode cX0_fewestPointers 33 = .ok (.ior, 1) := by decide +kernel
theorem dX0_fewestPointers_34 : decode cX0_fewestPointers 34 = .ok (.istore_n 3, 1) := by decide +kernel
theorem dX0_fewestPointers_35 : decode cX0_fewestPointers 35 = .ok (.iinc 4 1, 3) := by decide +kernel
theorem dX0_fewestPointers_38 : decode cX0_fewestPointers 38 = .ok (.goto (-29), 3) := by decide +kernel
theorem dX0_fewestPointers_41 : decode cX0_fewestPointers 41 = .ok (.bipush (-5), 2) := by decide +kernel
theorem dX0_fewestPointers_43 : decode cX0_fewestPointers 43 = .ok (.ireturn, 1) := by decide +kernel
set_option maxRecDepth 20000 in
theorem ggX0_isSureWay_X0_keysSureToReach : GoodIn wsX0_isSureWay wsX0_keysSureToReach := goodIn_r _ [5, 6, 7, 8, 4, 9, 10, 11, 12, 13, 14, 15, 16, 17, 18, 19, 20, 21, 22, 23, 24, 25, 26, 30, 31, 32, 33, 34, 35] (by decide +kernel) (by decide +kernel)
set_option maxRecDepth 20000 in
theorem gX0_isSureWay_X0_keysSureToReach : GoodIn wsX0_isSureWay (wsV RX0 124 RX0 yX0_keysSureToReach wsX0_keysSureToReach) := goodIn_app (goodIn_of _ (by decide +kernel)) ggX0_isSureWay_X0_keysSureToReach
set_option maxRecDepth 20000 in
theorem ggX0_isSureWay_X0_contains : GoodIn wsX0_isSureWay wsX0_contains := goodIn_r _ [29] (by decide +kernel) (by decide +kernel)
set_option maxRecDepth 20000 in
theorem gX0_isSureWay_X0_contains : GoodIn wsX0_isSureWay (va_wsS RX0 117 yX0_contains wsX0_contains) := goodIn_app (goodIn_of _ (by decide +kernel)) ggX0_isSureWay_X0_contains
theorem dX0_isSureWay_0 : decode cX0_isSureWay 0 = .ok (.aload_n 0, 1) := by decide +kernel
theorem dX0_isSureWay_1 : decode cX0_isSureWay 1 = .ok (.iload_n 2, 1) := by decide +kernel
theorem dX0_isSureWay_2 : decode cX0_isSureWay 2 = .ok (.invokevirtual 124, 3) := by decide +kernel
theorem dX0_isSureWay_5 : decode cX0_isSureWay 5 = .ok (.iload_n 1, 1) := by decide +kernel
theorem dX0_isSureWay_6 : decode cX0_isSureWay 6 = .ok (.invokestatic 117, 3) := by decide +kernel
theorem dX0_isSureWay_9 : decode cX0_isSureWay 9 = .ok (.ireturn, 1) := by decide +kernel
set_option maxRecDepth 20000 in
theorem ggX0_keysSureToReach_X0_setOf : GoodIn wsX0_keysSureToReach wsX0_setOf := goodIn_r _ [5, 6, 7, 8, 4, 9, 10, 11, 12, 13, 14, 15, 16, 17, 23, 24, 25, 26, 27, 28] (by decide +kernel) (by decide +kernel)
set_option maxRecDepth 20000 in
theorem gX0_keysSureToReach_X0_setOf : GoodIn wsX0_keysSureToReach (wsV RX0 114 RX0 yX0_setOf wsX0_setOf) := goodIn_app (goodIn_of _ (by decide +kernel)) ggX0_keysSureToReach_X0_setOf
set_option maxRecDepth 20000 in
theorem ggX0_keysSureToReach_X0_keysThatMustPointInto : GoodIn wsX0_keysSureToReach wsX0_keysThatMustPointInto := goodIn_r _ [21, 22, 15, 16, 17, 23, 24, 25, 26, 27, 28] (by decide +kernel) (by decide +kernel)
set_option maxRecDepth 20000 in
theorem gX0_keysSureToReach_X0_keysThatMustPointInto : GoodIn wsX0_keysSureToReach (wsV RX0 127 RX0 yX0_keysThatMustPointInto wsX0_keysThatMustPointInto) := goodIn_app (goodIn_of _ (by decide +kernel)) ggX0_keysSureToReach_X0_keysThatMustPointInto
theorem dX0_keysSureToReach_0 : decode cX0_keysSureToReach 0 = .ok (.aload_n 0, 1) := by decide +kernel
theorem dX0_keysSureToReach_1 : decode cX0_keysSureToReach 1 = .ok (.iload_n 1, 1) := by decide +kernel
theorem dX0_keysSureToReach_2 : decode cX0_keysSureToReach 2 = .ok (.invokevirtual 114, 3) := by decide +kernel
theorem dX0_keysSureToReach_5 : decode cX0_keysSureToReach 5 = .ok (.istore_n 2, 1) := by decide +kernel
theorem dX0_keysSureToReach_6 : decode cX0_keysSureToReach 6 = .ok (.iconst 1, 1) := by decide +kernel
theorem dX0_keysSureToReach_7 : decode cX0_keysSureToReach 7 = .ok (.istore_n 3, 1) := by decide +kernel
theorem dX0_keysSureToReach_8 : decode cX0_keysSureToReach 8 = .ok (.iload_n 3, 1) := by decide +kernel
theorem dX0_keysSureToReach_9 : decode cX0_keysSureToReach 9 = .ok (.bipush 10, 2) := by decide +kernel
theorem dX0_keysSureToReach_11 : decode cX0_keysSureToReach 11 = .ok (.if_icmp .ge 17, 3) := by decide +kernel
theorem dX0_keysSureToReach_14 : decode cX0_keysSureToReach 14 = .ok (.iload_n 2, 1) := by decide +kernel
theorem dX0_keysSureToReach_15 : decode cX0_keysSureToReach 15 = .ok (.aload_n 0, 1) := by decide +kernel
theorem dX0_keysSureToReach_16 : decode cX0_keysSureToReach 16 = .ok (.iload_n 2, 1) := by decide +kernel
theorem dX0_keysSureToReach_17 : decode cX0_keysSureToReach 17 = .ok (.invokevirtual 127, 3) := by decide +kernel
theorem dX0_keysSureToReach_20 : decode cX0_keysSureToReach 20 = .ok (.ior, 1) := by decide +kernel
theorem dX0_keysSureToReach_21 : decode cX0_keysSureToReach 21 = .ok (.istore_n 2, 1) := by decide +kernel
theorem dX0_keysSureToReach_22 : decode cX0_keysSureToReach 22 = .ok (.iinc 3 1, 3) := by decide +kernel
theorem dX0_keysSureToReach_25 : decode cX0_keysSureToReach 25 = .ok (.goto (-17), 3) := by decide +kernel
theorem dX0_keysSureToReach_28 : decode cX0_keysSureToReach 28 = .ok (.iload_n 2, 1) := by decide +kernel
theorem dX0_keysSureToReach_29 : decode cX0_keysSureToReach 29 = .ok (.ireturn, 1) := by decide +kernel
set_option maxRecDepth 20000 in
theorem ggX0_keysThatCanReach_X0_setOf : GoodIn wsX0_keysThatCanReach wsX0_setOf := goodIn_r _ [5, 6, 7, 8, 4, 9, 10, 11, 12, 13, 14, 15, 16, 17, 23, 24, 25, 26, 27, 28] (by decide +kernel) (by decide +kernel)
set_option maxRecDepth 20000 in
theorem gX0_keysThatCanReach_X0_setOf : GoodIn wsX0_keysThatCanReach (wsV RX0 114 RX0 yX0_setOf wsX0_setOf) := goodIn_app (goodIn_of _ (by decide +kernel)) ggX0_keysThatCanReach_X0_setOf
set_option maxRecDepth 20000 in
theorem ggX0_keysThatCanReach_X0_keysThatCanPointInto : GoodIn wsX0_keysThatCanReach wsX0_keysThatCanPointInto := goodIn_r _ [21, 22, 15, 16, 17, 23, 24, 25, 26, 27, 28] (by decide +kernel) (by decide +kernel)
set_option maxRecDepth 20000 in
theorem gX0_keysThatCanReach_X0_keysThatCanPointInto : GoodIn wsX0_keysThatCanReach (wsV RX0 121 RX0 yX0_keysThatCanPointInto wsX0_keysThatCanPointInto) := goodIn_app (goodIn_of _ (by decide +kernel)) ggX0_keysThatCanReach_X0_keysThatCanPointInto
theorem dX0_keysThatCanReach_0 : decode cX0_keysThatCanReach 0 = .ok (.aload_n 0, 1) := by decide +kernel
theorem dX0_keysThatCanReach_1 : decode cX0_keysThatCanReach 1 = .ok (.iload_n 1, 1) := by decide +kernel
theorem dX0_keysThatCanReach_2 : decode cX0_keysThatCanReach 2 = .ok (.invokevirtual 114, 3) := by decide +kernel
theorem dX0_keysThatCanReach_5 : decode cX0_keysThatCanReach 5 = .ok (.istore_n 2, 1) := by decide +kernel
theorem dX0_keysThatCanReach_6 : decode cX0_keysThatCanReach 6 = .ok (.iconst 1, 1) := by decide +kernel
theorem dX0_keysThatCanReach_7 : decode cX0_keysThatCanReach 7 = .ok (.istore_n 3, 1) := by decide +kernel
theorem dX0_keysThatCanReach_8 : decode cX0_keysThatCanReach 8 = .ok (.iload_n 3, 1) := by decide +kernel
theorem dX0_keysThatCanReach_9 : decode cX0_keysThatCanReach 9 = .ok (.bipush 10, 2) := by decide +kernel
theorem dX0_keysThatCanReach_11 : decode cX0_keysThatCanReach 11 = .ok (.if_icmp .ge 17, 3) := by decide +kernel
theorem dX0_keysThatCanReach_14 : decode cX0_keysThatCanReach 14 = .ok (.iload_n 2, 1) := by decide +kernel
theorem dX0_keysThatCanReach_15 : decode cX0_keysThatCanReach 15 = .ok (.aload_n 0, 1) := by decide +kernel
theorem dX0_keysThatCanReach_16 : decode cX0_keysThatCanReach 16 = .ok (.iload_n 2, 1) := by decide +kernel
theorem dX0_keysThatCanReach_17 : decode cX0_keysThatCanReach 17 = .ok (.invokevirtual 121, 3) := by decide +kernel
theorem dX0_keysThatCanReach_20 : decode cX0_keysThatCanReach 20 = .ok (.ior, 1) := by decide +kernel
theorem dX0_keysThatCanReach_21 : decode cX0_keysThatCanReach 21 = .ok (.istore_n 2, 1) := by decide +kernel
theorem dX0_keysThatCanReach_22 : decode cX0_keysThatCanReach 22 = .ok (.iinc 3 1, 3) := by decide +kernel
theorem dX0_keysThatCanReach_25 : decode cX0_keysThatCanReach 25 = .ok (.goto (-17), 3) := by decide +kernel
theorem dX0_keysThatCanReach_28 : decode cX0_keysThatCanReach 28 = .ok (.iload_n 2, 1) := by decide +kernel
theorem dX0_keysThatCanReach_29 : decode cX0_keysThatCanReach 29 = .ok (.ireturn, 1) := by decide +kernel
set_option maxRecDepth 20000 in
theorem ggX0_keysThatCanPointInto_X5_at : GoodIn wsX0_keysThatCanPointInto wsX5_at := goodIn_r _ [4] (by decide +kernel) (by decide +kernel)
set_option maxRecDepth 20000 in
theorem gX0_keysThatCanPointInto_X5_at_n66 : GoodIn wsX0_keysThatCanPointInto (wsX5_at) := ggX0_keysThatCanPointInto_X5_at
theorem dX0_keysThatCanPointInto_0 : decode cX0_keysThatCanPointInto 0 = .ok (.iconst 0, 1) := by decide +kernel
theorem dX0_keysThatCanPointInto_1 : decode cX0_keysThatCanPointInto 1 = .ok (.istore_n 2, 1) := by decide +kernel
theorem dX0_keysThatCanPointInto_2 : decode cX0_keysThatCanPointInto 2 = .ok (.iconst 0, 1) := by decide +kernel
theorem dX0_keysThatCanPointInto_3 : decode cX0_keysThatCanPointInto 3 = .ok (.istore_n 3, 1) := by decide +kernel
theorem dX0_keysThatCanPointInto_4 : decode cX0_keysThatCanPointInto 4 = .ok (.iload_n 3, 1) := by decide +kernel
theorem dX0_keysThatCanPointInto_5 : decode cX0_keysThatCanPointInto 5 = .ok (.bipush 10, 2) := by decide +kernel
theorem dX0_keysThatCanPointInto_7 : decode cX0_keysThatCanPointInto 7 = .ok (.if_icmp .ge 28, 3) := by decide +kernel
theorem dX0_keysThatCanPointInto_10 : decode cX0_keysThatCanPointInto 10 = .ok (.aload_n 0, 1) := by decide +kernel
theorem dX0_keysThatCanPointInto_11 : decode cX0_keysThatCanPointInto 11 = .ok (.getfield 21, 3) := by decide +kernel
theorem dX0_keysThatCanPointInto_14 : decode cX0_keysThatCanPointInto 14 = .ok (.iload_n 3, 1) := by decide +kernel
theorem dX0_keysThatCanPointInto_15 : decode cX0_keysThatCanPointInto 15 = .ok (.invokestatic 66, 3) := by decide +kernel
theorem dX0_keysThatCanPointInto_18 : decode cX0_keysThatCanPointInto 18 = .ok (.iload_n 1, 1) := by decide +kernel
theorem dX0_keysThatCanPointInto_19 : decode cX0_keysThatCanPointInto 19 = .ok (.iand, 1) := by decide +kernel
theorem dX0_keysThatCanPointInto_20 : decode cX0_keysThatCanPointInto 20 = .ok (.ifCond .eq 9, 3) := by decide +kernel
theorem dX0_keysThatCanPointInto_23 : decode cX0_keysThatCanPointInto 23 = .ok (.iload_n 2, 1) := by decide +kernel
theorem dX0_keysThatCanPointInto_24 : decode cX0_keysThatCanPointInto 24 = .ok (.iconst 1, 1) := by decide +kernel
theorem dX0_keysThatCanPointInto_25 : decode cX0_keysThatCanPointInto 25 = .ok (.iload_n 3, 1) := by decide +kernel
theorem dX0_keysThatCanPointInto_26 : decode cX0_keysThatCanPointInto 26 = .ok (.ishl, 1) := by decide +kernel
theorem dX0_keysThatCanPointInto_27 : decode cX0_keysThatCanPointInto 27 = .ok (.ior, 1) := by decide +kernel
theorem dX0_keysThatCanPointInto_28 : decode cX0_keysThatCanPointInto 28 = .ok (.istore_n 2, 1) := by decide +kernel
theorem dX0_keysThatCanPointInto_29 : decode cX0_keysThatCanPointInto 29 = .ok (.iinc 3 1, 3) := by decide +kernel
theorem dX0_keysThatCanPointInto_32 : decode cX0_keysThatCanPointInto 32 = .ok (.goto (-28), 3) := by decide +kernel
theorem dX0_keysThatCanPointInto_35 : decode cX0_keysThatCanPointInto 35 = .ok (.iload_n 2, 1) := by decide +kernel
theorem dX0_keysThatCanPointInto_36 : decode cX0_keysThatCanPointInto 36 = .ok (.ireturn, 1) := by decide +kernel
set_option maxRecDepth 20000 in
theorem ggX0_keysThatMustPointInto_X5_at : GoodIn wsX0_keysThatMustPointInto wsX5_at := goodIn_r _ [4] (by decide +kernel) (by decide +kernel)
set_option maxRecDepth 20000 in
theorem gX0_keysThatMustPointInto_X5_at_n66 : GoodIn wsX0_keysThatMustPointInto (wsX5_at) := ggX0_keysThatMustPointInto_X5_at
theorem dX0_keysThatMustPointInto_0 : decode cX0_keysThatMustPointInto 0 = .ok (.iconst 0, 1) := by decide +kernel
theorem dX0_keysThatMustPointInto_1 : decode cX0_keysThatMustPointInto 1 = .ok (.istore_n 2, 1) := by decide +kernel
theorem dX0_keysThatMustPointInto_2 : decode cX0_keysThatMustPointInto 2 = .ok (.iconst 0, 1) := by decide +kernel
theorem dX0_keysThatMustPointInto_3 : decode cX0_keysThatMustPointInto 3 = .ok (.istore_n 3, 1) := by decide +kernel
theorem dX0_keysThatMustPointInto_4 : decode cX0_keysThatMustPointInto 4 = .ok (.iload_n 3, 1) := by decide +kernel
theorem dX0_keysThatMustPointInto_5 : decode cX0_keysThatMustPointInto 5 = .ok (.bipush 10, 2) := by decide +kernel
theorem dX0_keysThatMustPointInto_7 : decode cX0_keysThatMustPointInto 7 = .ok (.if_icmp .ge 39, 3) := by decide +kernel
theorem dX0_keysThatMustPointInto_10 : decode cX0_keysThatMustPointInto 10 = .ok (.aload_n 0, 1) := by decide +kernel
theorem dX0_keysThatMustPointInto_11 : decode cX0_keysThatMustPointInto 11 = .ok (.getfield 21, 3) := by decide +kernel
theorem dX0_keysThatMustPointInto_14 : decode cX0_keysThatMustPointInto 14 = .ok (.iload_n 3, 1) := by decide +kernel
theorem dX0_keysThatMustPointInto_15 : decode cX0_keysThatMustPointInto 15 = .ok (.invokestatic 66, 3) := by decide +kernel
theorem dX0_keysThatMustPointInto_18 : decode cX0_keysThatMustPointInto 18 = .ok (.istore 4, 2) := by decide +kernel
theorem dX0_keysThatMustPointInto_20 : decode cX0_keysThatMustPointInto 20 = .ok (.iload 4, 2) := by decide +kernel
theorem dX0_keysThatMustPointInto_22 : decode cX0_keysThatMustPointInto 22 = .ok (.ifCond .eq 18, 3) := by decide +kernel
theorem dX0_keysThatMustPointInto_25 : decode cX0_keysThatMustPointInto 25 = .ok (.iload 4, 2) := by decide +kernel
theorem dX0_keysThatMustPointInto_27 : decode cX0_keysThatMustPointInto 27 = .ok (.iload_n 1, 1) := by decide +kernel
theorem dX0_keysThatMustPointInto_28 : decode cX0_keysThatMustPointInto 28 = .ok (.iconst (-1), 1) := by decide +kernel
theorem dX0_keysThatMustPointInto_29 : decode cX0_keysThatMustPointInto 29 = .ok (.ixor, 1) := by decide +kernel
theorem dX0_keysThatMustPointInto_30 : decode cX0_keysThatMustPointInto 30 = .ok (.iand, 1) := by decide +kernel
theorem dX0_keysThatMustPointInto_31 : decode cX0_keysThatMustPointInto 31 = .ok (.ifCond .ne 9, 3) := by decide +kernel
theorem dX0_keysThatMustPointInto_34 : decode cX0_keysThatMustPointInto 34 = .ok (.iload_n 2, 1) := by decide +kernel
theorem dX0_keysThatMustPointInto_35 : decode cX0_keysThatMustPointInto 35 = .ok (.iconst 1, 1) := by decide +kernel
theorem dX0_keysThatMustPointInto_36 : decode cX0_keysThatMustPointInto 36 = .ok (.iload_n 3, 1) := by decide +kernel
theorem dX0_keysThatMustPointInto_37 : decode cX0_keysThatMustPointInto 37 = .ok (.ishl, 1) := by decide +kernel
theorem dX0_keysThatMustPointInto_38 : decode cX0_keysThatMustPointInto 38 = .ok (.ior, 1) := by decide +kernel
theorem dX0_keysThatMustPointInto_39 : decode cX0_keysThatMustPointInto 39 = .ok (.istore_n 2, 1) := by decide +kernel
theorem dX0_keysThatMustPointInto_40 : decode cX0_keysThatMustPointInto 40 = .ok (.iinc 3 1, 3) := by decide +kernel
theorem dX0_keysThatMustPointInto_43 : decode cX0_keysThatMustPointInto 43 = .ok (.goto (-39), 3) := by decide +kernel
theorem dX0_keysThatMustPointInto_46 : decode cX0_keysThatMustPointInto 46 = .ok (.iload_n 2, 1) := by decide +kernel
theorem dX0_keysThatMustPointInto_47 : decode cX0_keysThatMustPointInto 47 = .ok (.ireturn, 1) := by decide +kernel
set_option maxRecDepth 20000 in
theorem ggX0_setOf_X0_isThere : GoodIn wsX0_setOf wsX0_isThere := goodIn_r _ [5, 6, 7, 8, 4, 9, 10, 11, 12, 13, 14, 15, 16, 17, 18, 19] (by decide +kernel) (by decide +kernel)
set_option maxRecDepth 20000 in
theorem gX0_setOf_X0_isThere : GoodIn wsX0_setOf (wsV RX0 60 RX0 yX0_isThere wsX0_isThere) := goodIn_app (goodIn_of _ (by decide +kernel)) ggX0_setOf_X0_isThere
theorem dX0_setOf_0 : decode cX0_setOf 0 = .ok (.aload_n 0, 1) := by decide +kernel
theorem dX0_setOf_1 : decode cX0_setOf 1 = .ok (.iload_n 1, 1) := by decide +kernel
theorem dX0_setOf_2 : decode cX0_setOf 2 = .ok (.invokevirtual 60, 3) := by decide +kernel
theorem dX0_setOf_5 : decode cX0_setOf 5 = .ok (.ifCond .eq 9, 3) := by decide +kernel
theorem dX0_setOf_8 : decode cX0_setOf 8 = .ok (.iconst 1, 1) := by decide +kernel
theorem dX0_setOf_9 : decode cX0_setOf 9 = .ok (.iload_n 1, 1) := by decide +kernel
theorem dX0_setOf_10 : decode cX0_setOf 10 = .ok (.ishl, 1) := by decide +kernel
theorem dX0_setOf_11 : decode cX0_setOf 11 = .ok (.goto 4, 3) := by decide +kernel
theorem dX0_setOf_14 : decode cX0_setOf 14 = .ok (.iconst 0, 1) := by decide +kernel
theorem dX0_setOf_15 : decode cX0_setOf 15 = .ok (.ireturn, 1) := by decide +kernel
theorem dX0_contains_0 : decode cX0_contains 0 = .ok (.iload_n 0, 1) := by decide +kernel
theorem dX0_contains_1 : decode cX0_contains 1 = .ok (.iconst 1, 1) := by decide +kernel
theorem dX0_contains_2 : decode cX0_contains 2 = .ok (.iload_n 1, 1) := by decide +kernel
theorem dX0_contains_3 : decode cX0_contains 3 = .ok (.ishl, 1) := by decide +kernel
theorem dX0_contains_4 : decode cX0_contains 4 = .ok (.iand, 1) := by decide +kernel
theorem dX0_contains_5 : decode cX0_contains 5 = .ok (.ifCond .eq 7, 3) := by decide +kernel
theorem dX0_contains_8 : decode cX0_contains 8 = .ok (.iconst 1, 1) := by decide +kernel
theorem dX0_contains_9 : decode cX0_contains 9 = .ok (.goto 4, 3) := by decide +kernel
theorem dX0_contains_12 : decode cX0_contains 12 = .ok (.iconst 0, 1) := by decide +kernel
theorem dX0_contains_13 : decode cX0_contains 13 = .ok (.ireturn, 1) := by decide +kernel
set_option maxRecDepth 20000 in
theorem ggX0_sureWays_X0_keysSureToReach : GoodIn wsX0_sureWays wsX0_keysSureToReach := goodIn_r _ [5, 6, 7, 8, 4, 9, 10, 11, 12, 13, 14, 15, 16, 17, 18, 19, 20, 21, 22, 23, 24, 25, 26, 34, 35, 36, 37, 38, 39] (by decide +kernel) (by decide +kernel)
set_option maxRecDepth 20000 in
theorem gX0_sureWays_X0_keysSureToReach : GoodIn wsX0_sureWays (wsV RX0 124 RX0 yX0_keysSureToReach wsX0_keysSureToReach) := goodIn_app (goodIn_of _ (by decide +kernel)) ggX0_sureWays_X0_keysSureToReach
set_option maxRecDepth 20000 in
theorem ggX0_sureWays_J6_bitCount_0f7a4 : GoodIn wsX0_sureWays wsJ6_bitCount_0f7a4 := goodIn_r _ [30, 31, 32, 33] (by decide +kernel) (by decide +kernel)
set_option maxRecDepth 20000 in
theorem gX0_sureWays_J6_bitCount_0f7a4 : GoodIn wsX0_sureWays (va_wsS RX0 130 yJ6_bitCount_0f7a4 wsJ6_bitCount_0f7a4) := goodIn_app (goodIn_of _ (by decide +kernel)) ggX0_sureWays_J6_bitCount_0f7a4
theorem dX0_sureWays_0 : decode cX0_sureWays 0 = .ok (.iconst 0, 1) := by decide +kernel
theorem dX0_sureWays_1 : decode cX0_sureWays 1 = .ok (.istore_n 1, 1) := by decide +kernel
theorem dX0_sureWays_2 : decode cX0_sureWays 2 = .ok (.iconst 0, 1) := by decide +kernel
theorem dX0_sureWays_3 : decode cX0_sureWays 3 = .ok (.istore_n 2, 1) := by decide +kernel
theorem dX0_sureWays_4 : decode cX0_sureWays 4 = .ok (.iload_n 2, 1) := by decide +kernel
theorem dX0_sureWays_5 : decode cX0_sureWays 5 = .ok (.bipush 10, 2) := by decide +kernel
theorem dX0_sureWays_7 : decode cX0_sureWays 7 = .ok (.if_icmp .ge 20, 3) := by decide +kernel
theorem dX0_sureWays_10 : decode cX0_sureWays 10 = .ok (.iload_n 1, 1) := by decide +kernel
theorem dX0_sureWays_11 : decode cX0_sureWays 11 = .ok (.aload_n 0, 1) := by decide +kernel
theorem dX0_sureWays_12 : decode cX0_sureWays 12 = .ok (.iload_n 2, 1) := by decide +kernel
theorem dX0_sureWays_13 : decode cX0_sureWays 13 = .ok (.invokevirtual 124, 3) := by decide +kernel
theorem dX0_sureWays_16 : decode cX0_sureWays 16 = .ok (.invokestatic 130, 3) := by decide +kernel
theorem dX0_sureWays_19 : decode cX0_sureWays 19 = .ok (.iadd, 1) := by decide +kernel
theorem dX0_sureWays_20 : decode cX0_sureWays 20 = .ok (.istore_n 1, 1) := by decide +kernel
theorem dX0_sureWays_21 : decode cX0_sureWays 21 = .ok (.iinc 2 1, 3) := by decide +kernel
theorem dX0_sureWays_24 : decode cX0_sureWays 24 = .ok (.goto (-20), 3) := by decide +kernel
theorem dX0_sureWays_27 : decode cX0_sureWays 27 = .ok (.iload_n 1, 1) := by decide +kernel
theorem dX0_sureWays_28 : decode cX0_sureWays 28 = .ok (.ireturn, 1) := by decide +kernel
set_option maxRecDepth 20000 in
theorem ggX0_possibleWays_X0_keysThatCanReach : GoodIn wsX0_possibleWays wsX0_keysThatCanReach := goodIn_r _ [5, 6, 7, 8, 4, 9, 10, 11, 12, 13, 14, 15, 16, 17, 18, 19, 20, 21, 22, 23, 24, 25, 26, 34, 35, 36, 37, 38, 39] (by decide +kernel) (by decide +kernel)
set_option maxRecDepth 20000 in
theorem gX0_possibleWays_X0_keysThatCanReach : GoodIn wsX0_possibleWays (wsV RX0 135 RX0 yX0_keysThatCanReach wsX0_keysThatCanReach) := goodIn_app (goodIn_of _ (by decide +kernel)) ggX0_possibleWays_X0_keysThatCanReach
set_option maxRecDepth 20000 in
theorem ggX0_possibleWays_J6_bitCount_0f7a4 : GoodIn wsX0_possibleWays wsJ6_bitCount_0f7a4 := goodIn_r _ [30, 31, 32, 33] (by decide +kernel) (by decide +kernel)
set_option maxRecDepth 20000 in
theorem gX0_possibleWays_J6_bitCount_0f7a4 : GoodIn wsX0_possibleWays (va_wsS RX0 130 yJ6_bitCount_0f7a4 wsJ6_bitCount_0f7a4) := goodIn_app (goodIn_of _ (by decide +kernel)) ggX0_possibleWays_J6_bitCount_0f7a4
theorem dX0_possibleWays_0 : decode cX0_possibleWays 0 = .ok (.iconst 0, 1) := by decide +kernel
theorem dX0_possibleWays_1 : decode cX0_possibleWays 1 = .ok (.istore_n 1, 1) := by decide +kernel
theorem dX0_possibleWays_2 : decode cX0_possibleWays 2 = .ok (.iconst 0, 1) := by decide +kernel
theorem dX0_possibleWays_3 : decode cX0_possibleWays 3 = .ok (.istore_n 2, 1) := by decide +kernel
theorem dX0_possibleWays_4 : decode cX0_possibleWays 4 = .ok (.iload_n 2, 1) := by decide +kernel
theorem dX0_possibleWays_5 : decode cX0_possibleWays 5 = .ok (.bipush 10, 2) := by decide +kernel
theorem dX0_possibleWays_7 : decode cX0_possibleWays 7 = .ok (.if_icmp .ge 20, 3) := by decide +kernel
theorem dX0_possibleWays_10 : decode cX0_possibleWays 10 = .ok (.iload_n 1, 1) := by decide +kernel
theorem dX0_possibleWays_11 : decode cX0_possibleWays 11 = .ok (.aload_n 0, 1) := by decide +kernel
theorem dX0_possibleWays_12 : decode cX0_possibleWays 12 = .ok (.iload_n 2, 1) := by decide +kernel
theorem dX0_possibleWays_13 : decode cX0_possibleWays 13 = .ok (.invokevirtual 135, 3) := by decide +kernel
theorem dX0_possibleWays_16 : decode cX0_possibleWays 16 = .ok (.invokestatic 130, 3) := by decide +kernel
theorem dX0_possibleWays_19 : decode cX0_possibleWays 19 = .ok (.iadd, 1) := by decide +kernel
theorem dX0_possibleWays_20 : decode cX0_possibleWays 20 = .ok (.istore_n 1, 1) := by decide +kernel
theorem dX0_possibleWays_21 : decode cX0_possibleWays 21 = .ok (.iinc 2 1, 3) := by decide +kernel
theorem dX0_possibleWays_24 : decode cX0_possibleWays 24 = .ok (.goto (-20), 3) := by decide +kernel
theorem dX0_possibleWays_27 : decode cX0_possibleWays 27 = .ok (.iload_n 1, 1) := by decide +kernel
theorem dX0_possibleWays_28 : decode cX0_possibleWays 28 = .ok (.ireturn, 1) := by decide +kernel
set_option maxRecDepth 20000 in
theorem ggX0_rowThatMakesSure_X0_isSureWay : GoodIn wsX0_rowThatMakesSure wsX0_isSureWay := goodIn_r _ [5, 6, 7, 8, 4, 9, 10, 11, 12, 13, 14, 15, 16, 17, 18, 19, 20, 21, 22, 23, 24, 25, 26, 27, 28, 29, 30, 31, 32, 33, 58, 59, 60, 61, 62, 63] (by decide +kernel) (by decide +kernel)
set_option maxRecDepth 20000 in
theorem gX0_rowThatMakesSure_X0_isSureWay : GoodIn wsX0_rowThatMakesSure (wsV RX0 138 RX0 yX0_isSureWay wsX0_isSureWay) := goodIn_app (goodIn_of _ (by decide +kernel)) ggX0_rowThatMakesSure_X0_isSureWay
set_option maxRecDepth 20000 in
theorem ggX0_rowThatMakesSure_X0_optionsOf : GoodIn wsX0_rowThatMakesSure wsX0_optionsOf := goodIn_r _ [21, 22, 23, 24, 25, 58, 59, 60, 61, 62, 63] (by decide +kernel) (by decide +kernel)
set_option maxRecDepth 20000 in
theorem gX0_rowThatMakesSure_X0_optionsOf : GoodIn wsX0_rowThatMakesSure (wsV RX0 63 RX0 yX0_optionsOf wsX0_optionsOf) := goodIn_app (goodIn_of _ (by decide +kernel)) ggX0_rowThatMakesSure_X0_optionsOf
set_option maxRecDepth 20000 in
theorem ggX0_rowThatMakesSure_X0_option : GoodIn wsX0_rowThatMakesSure wsX0_option := goodIn_r _ [37, 38, 23, 24, 25, 58, 59, 60, 61, 62, 63] (by decide +kernel) (by decide +kernel)
set_option maxRecDepth 20000 in
theorem gX0_rowThatMakesSure_X0_option : GoodIn wsX0_rowThatMakesSure (wsV RX0 79 RX0 yX0_option wsX0_option) := goodIn_app (goodIn_of _ (by decide +kernel)) ggX0_rowThatMakesSure_X0_option
set_option maxRecDepth 20000 in
theorem ggX0_rowThatMakesSure_X0_isSureWayOnceMended : GoodIn wsX0_rowThatMakesSure wsX0_isSureWayOnceMended := goodIn_r _ [42, 30, 23, 24, 25, 43, 44, 45, 4, 46, 47, 48, 49, 50, 51, 52, 53, 54, 55, 56, 57, 6, 7, 8, 9, 10, 11, 12, 13, 14, 15, 16, 17, 18, 19, 20, 21, 22, 26, 27, 28, 29, 31, 32, 33, 58, 59, 60, 61, 62, 63, 64, 65, 66, 67, 68, 69] (by decide +kernel) (by decide +kernel)
set_option maxRecDepth 20000 in
theorem gX0_rowThatMakesSure_X0_isSureWayOnceMended : GoodIn wsX0_rowThatMakesSure (wsV RX0 141 RX0 yX0_isSureWayOnceMended wsX0_isSureWayOnceMended) := goodIn_app (goodIn_of _ (by decide +kernel)) ggX0_rowThatMakesSure_X0_isSureWayOnceMended
theorem dX0_rowThatMakesSure_0 : decode cX0_rowThatMakesSure 0 = .ok (.aload_n 0, 1) := by decide +kernel
theorem dX0_rowThatMakesSure_1 : decode cX0_rowThatMakesSure 1 = .ok (.iload_n 1, 1) := by decide +kernel
theorem dX0_rowThatMakesSure_2 : decode cX0_rowThatMakesSure 2 = .ok (.iload_n 2, 1) := by decide +kernel
theorem dX0_rowThatMakesSure_3 : decode cX0_rowThatMakesSure 3 = .ok (.invokevirtual 138, 3) := by decide +kernel
theorem dX0_rowThatMakesSure_6 : decode cX0_rowThatMakesSure 6 = .ok (.ifCond .eq 6, 3) := by decide +kernel
theorem dX0_rowThatMakesSure_9 : decode cX0_rowThatMakesSure 9 = .ok (.bipush (-5), 2) := by decide +kernel
theorem dX0_rowThatMakesSure_11 : decode cX0_rowThatMakesSure 11 = .ok (.ireturn, 1) := by decide +kernel
theorem dX0_rowThatMakesSure_12 : decode cX0_rowThatMakesSure 12 = .ok (.iconst 0, 1) := by decide +kernel
theorem dX0_rowThatMakesSure_13 : decode cX0_rowThatMakesSure 13 = .ok (.istore_n 3, 1) := by decide +kernel
theorem dX0_rowThatMakesSure_14 : decode cX0_rowThatMakesSure 14 = .ok (.iload_n 3, 1) := by decide +kernel
theorem dX0_rowThatMakesSure_15 : decode cX0_rowThatMakesSure 15 = .ok (.bipush 10, 2) := by decide +kernel
theorem dX0_rowThatMakesSure_17 : decode cX0_rowThatMakesSure 17 = .ok (.if_icmp .ge 52, 3) := by decide +kernel
theorem dX0_rowThatMakesSure_20 : decode cX0_rowThatMakesSure 20 = .ok (.iconst 0, 1) := by decide +kernel
theorem dX0_rowThatMakesSure_21 : decode cX0_rowThatMakesSure 21 = .ok (.istore 4, 2) := by decide +kernel
theorem dX0_rowThatMakesSure_23 : decode cX0_rowThatMakesSure 23 = .ok (.iload 4, 2) := by decide +kernel
theorem dX0_rowThatMakesSure_25 : decode cX0_rowThatMakesSure 25 = .ok (.aload_n 0, 1) := by decide +kernel
theorem dX0_rowThatMakesSure_26 : decode cX0_rowThatMakesSure 26 = .ok (.iload_n 3, 1) := by decide +kernel
theorem dX0_rowThatMakesSure_27 : decode cX0_rowThatMakesSure 27 = .ok (.invokevirtual 63, 3) := by decide +kernel
theorem dX0_rowThatMakesSure_30 : decode cX0_rowThatMakesSure 30 = .ok (.if_icmp .ge 33, 3) := by decide +kernel
theorem dX0_rowThatMakesSure_33 : decode cX0_rowThatMakesSure 33 = .ok (.aload_n 0, 1) := by decide +kernel
theorem dX0_rowThatMakesSure_34 : decode cX0_rowThatMakesSure 34 = .ok (.iload_n 3, 1) := by decide +kernel
theorem dX0_rowThatMakesSure_35 : decode cX0_rowThatMakesSure 35 = .ok (.iload 4, 2) := by decide +kernel
theorem dX0_rowThatMakesSure_37 : decode cX0_rowThatMakesSure 37 = .ok (.invokevirtual 79, 3) := by decide +kernel
theorem dX0_rowThatMakesSure_40 : decode cX0_rowThatMakesSure 40 = .ok (.istore 5, 2) := by decide +kernel
theorem dX0_rowThatMakesSure_42 : decode cX0_rowThatMakesSure 42 = .ok (.aload_n 0, 1) := by decide +kernel
theorem dX0_rowThatMakesSure_43 : decode cX0_rowThatMakesSure 43 = .ok (.iload_n 3, 1) := by decide +kernel
theorem dX0_rowThatMakesSure_44 : decode cX0_rowThatMakesSure 44 = .ok (.iload 5, 2) := by decide +kernel
theorem dX0_rowThatMakesSure_46 : decode cX0_rowThatMakesSure 46 = .ok (.iload_n 1, 1) := by decide +kernel
theorem dX0_rowThatMakesSure_47 : decode cX0_rowThatMakesSure 47 = .ok (.iload_n 2, 1) := by decide +kernel
theorem dX0_rowThatMakesSure_48 : decode cX0_rowThatMakesSure 48 = .ok (.invokevirtual 141, 3) := by decide +kernel
theorem dX0_rowThatMakesSure_51 : decode cX0_rowThatMakesSure 51 = .ok (.ifCond .eq 6, 3) := by decide +kernel
theorem dX0_rowThatMakesSure_54 : decode cX0_rowThatMakesSure 54 = .ok (.iload 5, 2) := by decide +kernel
theorem dX0_rowThatMakesSure_56 : decode cX0_rowThatMakesSure 56 = .ok (.ireturn, 1) := by decide +kernel
theorem dX0_rowThatMakesSure_57 : decode cX0_rowThatMakesSure 57 = .ok (.iinc 4 1, 3) := by decide +kernel
theorem dX0_rowThatMakesSure_60 : decode cX0_rowThatMakesSure 60 = .ok (.goto (-37), 3) := by decide +kernel
theorem dX0_rowThatMakesSure_63 : decode cX0_rowThatMakesSure 63 = .ok (.iinc 3 1, 3) := by decide +kernel
theorem dX0_rowThatMakesSure_66 : decode cX0_rowThatMakesSure 66 = .ok (.goto (-52), 3) := by decide +kernel
theorem dX0_rowThatMakesSure_69 : decode cX0_rowThatMakesSure 69 = .ok (.bipush (-5), 2) := by decide +kernel
theorem dX0_rowThatMakesSure_71 : decode cX0_rowThatMakesSure 71 = .ok (.ireturn, 1) := by decide +kernel
set_option maxRecDepth 20000 in
theorem ggX0_isSureWayOnceMended_X5_at : GoodIn wsX0_isSureWayOnceMended wsX5_at := goodIn_r _ [4] (by decide +kernel) (by decide +kernel)
set_option maxRecDepth 20000 in
theorem gX0_isSureWayOnceMended_X5_at_n66 : GoodIn wsX0_isSureWayOnceMended (wsX5_at) := ggX0_isSureWayOnceMended_X5_at
set_option maxRecDepth 20000 in
theorem ggX0_isSureWayOnceMended_X0_targetBit : GoodIn wsX0_isSureWayOnceMended wsX0_targetBit := goodIn_r _ [9, 10, 11, 12, 13, 14, 15, 16, 2, 3, 4, 17, 18, 45, 46, 47, 48, 49, 50, 51, 52, 53, 54, 55, 56] (by decide +kernel) (by decide +kernel)
set_option maxRecDepth 20000 in
theorem gX0_isSureWayOnceMended_X0_targetBit : GoodIn wsX0_isSureWayOnceMended (wsV RX0 70 RX0 yX0_targetBit wsX0_targetBit) := goodIn_app (goodIn_of _ (by decide +kernel)) ggX0_isSureWayOnceMended_X0_targetBit
set_option maxRecDepth 20000 in
theorem ggX0_isSureWayOnceMended_X5_put : GoodIn wsX0_isSureWayOnceMended wsX5_put := goodIn_r _ [20] (by decide +kernel) (by decide +kernel)
set_option maxRecDepth 20000 in
theorem gX0_isSureWayOnceMended_X5_put_n56 : GoodIn wsX0_isSureWayOnceMended (wsX5_put) := ggX0_isSureWayOnceMended_X5_put
set_option maxRecDepth 20000 in
theorem ggX0_isSureWayOnceMended_X0_keysSureToReach : GoodIn wsX0_isSureWayOnceMended wsX0_keysSureToReach := goodIn_r _ [24, 25, 26, 27, 8, 28, 29, 30, 31, 32, 33, 34, 35, 36, 37, 2, 3, 4, 38, 39, 40, 41, 1, 45, 46, 47, 48, 49, 50] (by decide +kernel) (by decide +kernel)
set_option maxRecDepth 20000 in
theorem gX0_isSureWayOnceMended_X0_keysSureToReach : GoodIn wsX0_isSureWayOnceMended (wsV RX0 124 RX0 yX0_keysSureToReach wsX0_keysSureToReach) := goodIn_app (goodIn_of _ (by decide +kernel)) ggX0_isSureWayOnceMended_X0_keysSureToReach
set_option maxRecDepth 20000 in
theorem ggX0_isSureWayOnceMended_X0_contains : GoodIn wsX0_isSureWayOnceMended wsX0_contains := goodIn_r _ [44] (by decide +kernel) (by decide +kernel)
set_option maxRecDepth 20000 in
theorem gX0_isSureWayOnceMended_X0_contains : GoodIn wsX0_isSureWayOnceMended (va_wsS RX0 117 yX0_contains wsX0_contains) := goodIn_app (goodIn_of _ (by decide +kernel)) ggX0_isSureWayOnceMended_X0_contains
theorem dX0_isSureWayOnceMended_0 : decode cX0_isSureWayOnceMended 0 = .ok (.aload_n 0, 1) := by decide +kernel
theorem dX0_isSureWayOnceMended_1 : decode cX0_isSureWayOnceMended 1 = .ok (.getfield 21, 3) := by decide +kernel
theorem dX0_isSureWayOnceMended_4 : decode cX0_isSureWayOnceMended 4 = .ok (.iload_n 1, 1) := by decide +kernel
theorem dX0_isSureWayOnceMended_5 : decode cX0_isSureWayOnceMended 5 = .ok (.invokestatic 66, 3) := by decide +kernel
theorem dX0_isSureWayOnceMended_8 : decode cX0_isSureWayOnceMended 8 = .ok (.istore 5, 2) := by decide +kernel
theorem dX0_isSureWayOnceMended_10 : decode cX0_isSureWayOnceMended 10 = .ok (.aload_n 0, 1) := by decide +kernel
theorem dX0_isSureWayOnceMended_11 : decode cX0_isSureWayOnceMended 11 = .ok (.getfield 21, 3) := by decide +kernel
theorem dX0_isSureWayOnceMended_14 : decode cX0_isSureWayOnceMended 14 = .ok (.iload_n 1, 1) := by decide +kernel
theorem dX0_isSureWayOnceMended_15 : decode cX0_isSureWayOnceMended 15 = .ok (.aload_n 0, 1) := by decide +kernel
theorem dX0_isSureWayOnceMended_16 : decode cX0_isSureWayOnceMended 16 = .ok (.iload_n 2, 1) := by decide +kernel
theorem dX0_isSureWayOnceMended_17 : decode cX0_isSureWayOnceMended 17 = .ok (.invokevirtual 70, 3) := by decide +kernel
theorem dX0_isSureWayOnceMended_20 : decode cX0_isSureWayOnceMended 20 = .ok (.invokestatic 56, 3) := by decide +kernel
theorem dX0_isSureWayOnceMended_23 : decode cX0_isSureWayOnceMended 23 = .ok (.aload_n 0, 1) := by decide +kernel
theorem dX0_isSureWayOnceMended_24 : decode cX0_isSureWayOnceMended 24 = .ok (.iload 4, 2) := by decide +kernel
theorem dX0_isSureWayOnceMended_26 : decode cX0_isSureWayOnceMended 26 = .ok (.invokevirtual 124, 3) := by decide +kernel
theorem dX0_isSureWayOnceMended_29 : decode cX0_isSureWayOnceMended 29 = .ok (.iload_n 3, 1) := by decide +kernel
theorem dX0_isSureWayOnceMended_30 : decode cX0_isSureWayOnceMended 30 = .ok (.invokestatic 117, 3) := by decide +kernel
theorem dX0_isSureWayOnceMended_33 : decode cX0_isSureWayOnceMended 33 = .ok (.istore 6, 2) := by decide +kernel
theorem dX0_isSureWayOnceMended_35 : decode cX0_isSureWayOnceMended 35 = .ok (.aload_n 0, 1) := by decide +kernel
theorem dX0_isSureWayOnceMended_36 : decode cX0_isSureWayOnceMended 36 = .ok (.getfield 21, 3) := by decide +kernel
theorem dX0_isSureWayOnceMended_39 : decode cX0_isSureWayOnceMended 39 = .ok (.iload_n 1, 1) := by decide +kernel
theorem dX0_isSureWayOnceMended_40 : decode cX0_isSureWayOnceMended 40 = .ok (.iload 5, 2) := by decide +kernel
theorem dX0_isSureWayOnceMended_42 : decode cX0_isSureWayOnceMended 42 = .ok (.invokestatic 56, 3) := by decide +kernel
theorem dX0_isSureWayOnceMended_45 : decode cX0_isSureWayOnceMended 45 = .ok (.iload 6, 2) := by decide +kernel
theorem dX0_isSureWayOnceMended_47 : decode cX0_isSureWayOnceMended 47 = .ok (.ireturn, 1) := by decide +kernel
set_option maxRecDepth 20000 in
theorem ggX1_init_X3_init : GoodIn wsX1_init wsX3_init := goodIn_r _ [9, 10, 2, 3, 11, 12, 13, 14, 15, 19, 20, 21, 22, 23, 24] (by decide +kernel) (by decide +kernel)
set_option maxRecDepth 20000 in
theorem gX1_init_X3_init_n17 : GoodIn wsX1_init (wsX3_init) := ggX1_init_X3_init
theorem dX1_init_0 : decode cX1_init 0 = .ok (.aload_n 0, 1) := by decide +kernel
theorem dX1_init_1 : decode cX1_init 1 = .ok (.invokespecial 3, 3) := by decide +kernel
theorem dX1_init_4 : decode cX1_init 4 = .ok (.aload_n 0, 1) := by decide +kernel
theorem dX1_init_5 : decode cX1_init 5 = .ok (.iconst 4, 1) := by decide +kernel
theorem dX1_init_6 : decode cX1_init 6 = .ok (.anewarray 9, 3) := by decide +kernel
theorem dX1_init_9 : decode cX1_init 9 = .ok (.putfield 11, 3) := by decide +kernel
theorem dX1_init_12 : decode cX1_init 12 = .ok (.iconst 0, 1) := by decide +kernel
theorem dX1_init_13 : decode cX1_init 13 = .ok (.istore_n 1, 1) := by decide +kernel
theorem dX1_init_14 : decode cX1_init 14 = .ok (.iload_n 1, 1) := by decide +kernel
theorem dX1_init_15 : decode cX1_init 15 = .ok (.aload_n 0, 1) := by decide +kernel
theorem dX1_init_16 : decode cX1_init 16 = .ok (.getfield 11, 3) := by decide +kernel
theorem dX1_init_19 : decode cX1_init 19 = .ok (.arraylength, 1) := by decide +kernel
theorem dX1_init_20 : decode cX1_init 20 = .ok (.if_icmp .ge 22, 3) := by decide +kernel
theorem dX1_init_23 : decode cX1_init 23 = .ok (.aload_n 0, 1) := by decide +kernel
theorem dX1_init_24 : decode cX1_init 24 = .ok (.getfield 11, 3) := by decide +kernel
theorem dX1_init_27 : decode cX1_init 27 = .ok (.iload_n 1, 1) := by decide +kernel
theorem dX1_init_28 : decode cX1_init 28 = .ok (.new 9, 3) := by decide +kernel
theorem dX1_init_31 : decode cX1_init 31 = .ok (.dup, 1) := by decide +kernel
theorem dX1_init_32 : decode cX1_init 32 = .ok (.invokespecial 17, 3) := by decide +kernel
theorem dX1_init_35 : decode cX1_init 35 = .ok (.aastore, 1) := by decide +kernel
theorem dX1_init_36 : decode cX1_init 36 = .ok (.iinc 1 1, 3) := by decide +kernel
theorem dX1_init_39 : decode cX1_init 39 = .ok (.goto (-25), 3) := by decide +kernel
theorem dX1_init_42 : decode cX1_init 42 = .ok (.return_, 1) := by decide +kernel
theorem dX1_size_0 : decode cX1_size 0 = .ok (.aload_n 0, 1) := by decide +kernel
theorem dX1_size_1 : decode cX1_size 1 = .ok (.getfield 18, 3) := by decide +kernel
theorem dX1_size_4 : decode cX1_size 4 = .ok (.ireturn, 1) := by decide +kernel
set_option maxRecDepth 20000 in
theorem ggX1_remember_X1_slotAt : GoodIn wsX1_remember wsX1_slotAt := goodIn_r _ [11, 12, 32, 33, 34] (by decide +kernel) (by decide +kernel)
set_option maxRecDepth 20000 in
theorem gX1_remember_X1_slotAt : GoodIn wsX1_remember (wsV RX1 25 RX1 yX1_slotAt wsX1_slotAt) := goodIn_app (goodIn_of _ (by decide +kernel)) ggX1_remember_X1_slotAt
set_option maxRecDepth 20000 in
theorem ggX1_remember_X3_copyFrom : GoodIn wsX1_remember wsX3_copyFrom := goodIn_r _ [17, 18, 19, 20, 21, 22, 23, 24, 25, 26, 27, 4, 5, 6, 28, 29, 30, 31, 35, 36, 37, 38, 39, 40] (by decide +kernel) (by decide +kernel)
set_option maxRecDepth 20000 in
theorem gX1_remember_X3_copyFrom : GoodIn wsX1_remember (wsV RX1 29 RX3 yX3_copyFrom wsX3_copyFrom) := goodIn_app (goodIn_of _ (by decide +kernel)) ggX1_remember_X3_copyFrom
theorem dX1_remember_0 : decode cX1_remember 0 = .ok (.aload_n 0, 1) := by decide +kernel
theorem dX1_remember_1 : decode cX1_remember 1 = .ok (.aload_n 0, 1) := by decide +kernel
theorem dX1_remember_2 : decode cX1_remember 2 = .ok (.getfield 22, 3) := by decide +kernel
theorem dX1_remember_5 : decode cX1_remember 5 = .ok (.invokevirtual 25, 3) := by decide +kernel
theorem dX1_remember_8 : decode cX1_remember 8 = .ok (.astore_n 2, 1) := by decide +kernel
theorem dX1_remember_9 : decode cX1_remember 9 = .ok (.aload_n 2, 1) := by decide +kernel
theorem dX1_remember_10 : decode cX1_remember 10 = .ok (.ifnull 34, 3) := by decide +kernel
theorem dX1_remember_13 : decode cX1_remember 13 = .ok (.aload_n 2, 1) := by decide +kernel
theorem dX1_remember_14 : decode cX1_remember 14 = .ok (.aload_n 1, 1) := by decide +kernel
theorem dX1_remember_15 : decode cX1_remember 15 = .ok (.invokevirtual 29, 3) := by decide +kernel
theorem dX1_remember_18 : decode cX1_remember 18 = .ok (.aload_n 0, 1) := by decide +kernel
theorem dX1_remember_19 : decode cX1_remember 19 = .ok (.aload_n 0, 1) := by decide +kernel
theorem dX1_remember_20 : decode cX1_remember 20 = .ok (.getfield 22, 3) := by decide +kernel
theorem dX1_remember_23 : decode cX1_remember 23 = .ok (.iconst 1, 1) := by decide +kernel
theorem dX1_remember_24 : decode cX1_remember 24 = .ok (.iadd, 1) := by decide +kernel
theorem dX1_remember_25 : decode cX1_remember 25 = .ok (.iconst 4, 1) := by decide +kernel
theorem dX1_remember_26 : decode cX1_remember 26 = .ok (.irem, 1) := by decide +kernel
theorem dX1_remember_27 : decode cX1_remember 27 = .ok (.putfield 22, 3) := by decide +kernel
theorem dX1_remember_30 : decode cX1_remember 30 = .ok (.aload_n 0, 1) := by decide +kernel
theorem dX1_remember_31 : decode cX1_remember 31 = .ok (.aload_n 0, 1) := by decide +kernel
theorem dX1_remember_32 : decode cX1_remember 32 = .ok (.getfield 18, 3) := by decide +kernel
theorem dX1_remember_35 : decode cX1_remember 35 = .ok (.iconst 1, 1) := by decide +kernel
theorem dX1_remember_36 : decode cX1_remember 36 = .ok (.iadd, 1) := by decide +kernel
theorem dX1_remember_37 : decode cX1_remember 37 = .ok (.iconst 4, 1) := by decide +kernel
theorem dX1_remember_38 : decode cX1_remember 38 = .ok (.invokestatic 33, 3) := by decide +kernel
theorem dX1_remember_41 : decode cX1_remember 41 = .ok (.putfield 18, 3) := by decide +kernel
theorem dX1_remember_44 : decode cX1_remember 44 = .ok (.return_, 1) := by decide +kernel
set_option maxRecDepth 20000 in
theorem ggX1_takeBack_X1_slotAt : GoodIn wsX1_takeBack wsX1_slotAt := goodIn_r _ [7, 8, 31, 32, 33] (by decide +kernel) (by decide +kernel)
set_option maxRecDepth 20000 in
theorem gX1_takeBack_X1_slotAt : GoodIn wsX1_takeBack (wsV RX1 25 RX1 yX1_slotAt wsX1_slotAt) := goodIn_app (goodIn_of _ (by decide +kernel)) ggX1_takeBack_X1_slotAt
set_option maxRecDepth 20000 in
theorem ggX1_takeBack_X3_copyFrom : GoodIn wsX1_takeBack wsX3_copyFrom := goodIn_r _ [13, 14, 15, 16, 17, 18, 19, 20, 21, 22, 23, 24, 25, 26, 27, 28, 29, 30, 34, 35, 36, 37, 38, 39] (by decide +kernel) (by decide +kernel)
set_option maxRecDepth 20000 in
theorem gX1_takeBack_X3_copyFrom : GoodIn wsX1_takeBack (wsV RX1 29 RX3 yX3_copyFrom wsX3_copyFrom) := goodIn_app (goodIn_of _ (by decide +kernel)) ggX1_takeBack_X3_copyFrom
theorem dX1_takeBack_0 : decode cX1_takeBack 0 = .ok (.aload_n 0, 1) := by decide +kernel
theorem dX1_takeBack_1 : decode cX1_takeBack 1 = .ok (.getfield 22, 3) := by decide +kernel
theorem dX1_takeBack_4 : decode cX1_takeBack 4 = .ok (.iconst 4, 1) := by decide +kernel
theorem dX1_takeBack_5 : decode cX1_takeBack 5 = .ok (.iadd, 1) := by decide +kernel
theorem dX1_takeBack_6 : decode cX1_takeBack 6 = .ok (.iconst 1, 1) := by decide +kernel
theorem dX1_takeBack_7 : decode cX1_takeBack 7 = .ok (.isub, 1) := by decide +kernel
theorem dX1_takeBack_8 : decode cX1_takeBack 8 = .ok (.iconst 4, 1) := by decide +kernel
theorem dX1_takeBack_9 : decode cX1_takeBack 9 = .ok (.irem, 1) := by decide +kernel
theorem dX1_takeBack_10 : decode cX1_takeBack 10 = .ok (.istore_n 2, 1) := by decide +kernel
theorem dX1_takeBack_11 : decode cX1_takeBack 11 = .ok (.aload_n 0, 1) := by decide +kernel
theorem dX1_takeBack_12 : decode cX1_takeBack 12 = .ok (.iload_n 2, 1) := by decide +kernel
theorem dX1_takeBack_13 : decode cX1_takeBack 13 = .ok (.invokevirtual 25, 3) := by decide +kernel
theorem dX1_takeBack_16 : decode cX1_takeBack 16 = .ok (.astore_n 3, 1) := by decide +kernel
theorem dX1_takeBack_17 : decode cX1_takeBack 17 = .ok (.aload_n 0, 1) := by decide +kernel
theorem dX1_takeBack_18 : decode cX1_takeBack 18 = .ok (.getfield 18, 3) := by decide +kernel
theorem dX1_takeBack_21 : decode cX1_takeBack 21 = .ok (.iconst 1, 1) := by decide +kernel
theorem dX1_takeBack_22 : decode cX1_takeBack 22 = .ok (.if_icmp .lt 7, 3) := by decide +kernel
theorem dX1_takeBack_25 : decode cX1_takeBack 25 = .ok (.aload_n 3, 1) := by decide +kernel
theorem dX1_takeBack_26 : decode cX1_takeBack 26 = .ok (.ifnonnull 5, 3) := by decide +kernel
theorem dX1_takeBack_29 : decode cX1_takeBack 29 = .ok (.iconst 0, 1) := by decide +kernel
theorem dX1_takeBack_30 : decode cX1_takeBack 30 = .ok (.ireturn, 1) := by decide +kernel
theorem dX1_takeBack_31 : decode cX1_takeBack 31 = .ok (.aload_n 1, 1) := by decide +kernel
theorem dX1_takeBack_32 : decode cX1_takeBack 32 = .ok (.aload_n 3, 1) := by decide +kernel
theorem dX1_takeBack_33 : decode cX1_takeBack 33 = .ok (.invokevirtual 29, 3) := by decide +kernel
theorem dX1_takeBack_36 : decode cX1_takeBack 36 = .ok (.aload_n 0, 1) := by decide +kernel
theorem dX1_takeBack_37 : decode cX1_takeBack 37 = .ok (.iload_n 2, 1) := by decide +kernel
theorem dX1_takeBack_38 : decode cX1_takeBack 38 = .ok (.putfield 22, 3) := by decide +kernel
theorem dX1_takeBack_41 : decode cX1_takeBack 41 = .ok (.aload_n 0, 1) := by decide +kernel
theorem dX1_takeBack_42 : decode cX1_takeBack 42 = .ok (.dup, 1) := by decide +kernel
theorem dX1_takeBack_43 : decode cX1_takeBack 43 = .ok (.getfield 18, 3) := by decide +kernel
theorem dX1_takeBack_46 : decode cX1_takeBack 46 = .ok (.iconst 1, 1) := by decide +kernel
theorem dX1_takeBack_47 : decode cX1_takeBack 47 = .ok (.isub, 1) := by decide +kernel
theorem dX1_takeBack_48 : decode cX1_takeBack 48 = .ok (.putfield 18, 3) := by decide +kernel
theorem dX1_takeBack_51 : decode cX1_takeBack 51 = .ok (.iconst 1, 1) := by decide +kernel
theorem dX1_takeBack_52 : decode cX1_takeBack 52 = .ok (.ireturn, 1) := by decide +kernel
theorem dX1_slotAt_0 : decode cX1_slotAt 0 = .ok (.iload_n 1, 1) := by decide +kernel
theorem dX1_slotAt_1 : decode cX1_slotAt 1 = .ok (.ifCond .lt 21, 3) := by decide +kernel
theorem dX1_slotAt_4 : decode cX1_slotAt 4 = .ok (.iload_n 1, 1) := by decide +kernel
theorem dX1_slotAt_5 : decode cX1_slotAt 5 = .ok (.aload_n 0, 1) := by decide +kernel
theorem dX1_slotAt_6 : decode cX1_slotAt 6 = .ok (.getfield 11, 3) := by decide +kernel
theorem dX1_slotAt_9 : decode cX1_slotAt 9 = .ok (.arraylength, 1) := by decide +kernel
theorem dX1_slotAt_10 : decode cX1_slotAt 10 = .ok (.if_icmp .ge 12, 3) := by decide +kernel
theorem dX1_slotAt_13 : decode cX1_slotAt 13 = .ok (.aload_n 0, 1) := by decide +kernel
theorem dX1_slotAt_14 : decode cX1_slotAt 14 = .ok (.getfield 11, 3) := by decide +kernel
theorem dX1_slotAt_17 : decode cX1_slotAt 17 = .ok (.iload_n 1, 1) := by decide +kernel
theorem dX1_slotAt_18 : decode cX1_slotAt 18 = .ok (.aaload, 1) := by decide +kernel
theorem dX1_slotAt_19 : decode cX1_slotAt 19 = .ok (.goto 4, 3) := by decide +kernel
theorem dX1_slotAt_22 : decode cX1_slotAt 22 = .ok (.aconst_null, 1) := by decide +kernel
theorem dX1_slotAt_23 : decode cX1_slotAt 23 = .ok (.areturn, 1) := by decide +kernel
set_option maxRecDepth 20000 in
theorem ggX2_init_X3_init : GoodIn wsX2_init wsX3_init := goodIn_r _ [10, 11, 2, 3, 12, 13, 14, 15, 16, 17, 18, 19, 20, 21, 22] (by decide +kernel) (by decide +kernel)
set_option maxRecDepth 20000 in
theorem gX2_init_X3_init_n11 : GoodIn wsX2_init (wsX3_init) := ggX2_init_X3_init
theorem dX2_init_0 : decode cX2_init 0 = .ok (.aload_n 0, 1) := by decide +kernel
theorem dX2_init_1 : decode cX2_init 1 = .ok (.invokespecial 3, 3) := by decide +kernel
theorem dX2_init_4 : decode cX2_init 4 = .ok (.aload_n 0, 1) := by decide +kernel
theorem dX2_init_5 : decode cX2_init 5 = .ok (.new 9, 3) := by decide +kernel
theorem dX2_init_8 : decode cX2_init 8 = .ok (.dup, 1) := by decide +kernel
theorem dX2_init_9 : decode cX2_init 9 = .ok (.invokespecial 11, 3) := by decide +kernel
theorem dX2_init_12 : decode cX2_init 12 = .ok (.putfield 12, 3) := by decide +kernel
theorem dX2_init_15 : decode cX2_init 15 = .ok (.aload_n 0, 1) := by decide +kernel
theorem dX2_init_16 : decode cX2_init 16 = .ok (.aload_n 1, 1) := by decide +kernel
theorem dX2_init_17 : decode cX2_init 17 = .ok (.putfield 18, 3) := by decide +kernel
theorem dX2_init_20 : decode cX2_init 20 = .ok (.return_, 1) := by decide +kernel
theorem dX3_init_0 : decode cX3_init 0 = .ok (.aload_n 0, 1) := by decide +kernel
theorem dX3_init_1 : decode cX3_init 1 = .ok (.invokespecial 3, 3) := by decide +kernel
theorem dX3_init_4 : decode cX3_init 4 = .ok (.aload_n 0, 1) := by decide +kernel
theorem dX3_init_5 : decode cX3_init 5 = .ok (.bipush 20, 2) := by decide +kernel
theorem dX3_init_7 : decode cX3_init 7 = .ok (.newarray .int, 2) := by decide +kernel
theorem dX3_init_9 : decode cX3_init 9 = .ok (.putfield 9, 3) := by decide +kernel
theorem dX3_init_12 : decode cX3_init 12 = .ok (.aload_n 0, 1) := by decide +kernel
theorem dX3_init_13 : decode cX3_init 13 = .ok (.bipush 20, 2) := by decide +kernel
theorem dX3_init_15 : decode cX3_init 15 = .ok (.newarray .int, 2) := by decide +kernel
theorem dX3_init_17 : decode cX3_init 17 = .ok (.putfield 15, 3) := by decide +kernel
theorem dX3_init_20 : decode cX3_init 20 = .ok (.aload_n 0, 1) := by decide +kernel
theorem dX3_init_21 : decode cX3_init 21 = .ok (.bipush 20, 2) := by decide +kernel
theorem dX3_init_23 : decode cX3_init 23 = .ok (.newarray .int, 2) := by decide +kernel
theorem dX3_init_25 : decode cX3_init 25 = .ok (.putfield 18, 3) := by decide +kernel
theorem dX3_init_28 : decode cX3_init 28 = .ok (.aload_n 0, 1) := by decide +kernel
theorem dX3_init_29 : decode cX3_init 29 = .ok (.bipush 20, 2) := by decide +kernel
theorem dX3_init_31 : decode cX3_init 31 = .ok (.newarray .int, 2) := by decide +kernel
theorem dX3_init_33 : decode cX3_init 33 = .ok (.putfield 21, 3) := by decide +kernel
theorem dX3_init_36 : decode cX3_init 36 = .ok (.return_, 1) := by decide +kernel
theorem dX3_size_0 : decode cX3_size 0 = .ok (.aload_n 0, 1) := by decide +kernel
theorem dX3_size_1 : decode cX3_size 1 = .ok (.getfield 24, 3) := by decide +kernel
theorem dX3_size_4 : decode cX3_size 4 = .ok (.ireturn, 1) := by decide +kernel
theorem dX3_room_0 : decode cX3_room 0 = .ok (.bipush 20, 2) := by decide +kernel
theorem dX3_room_2 : decode cX3_room 2 = .ok (.aload_n 0, 1) := by decide +kernel
theorem dX3_room_3 : decode cX3_room 3 = .ok (.getfield 24, 3) := by decide +kernel
theorem dX3_room_6 : decode cX3_room 6 = .ok (.isub, 1) := by decide +kernel
theorem dX3_room_7 : decode cX3_room 7 = .ok (.ireturn, 1) := by decide +kernel
theorem dX3_has_0 : decode cX3_has 0 = .ok (.iload_n 1, 1) := by decide +kernel
theorem dX3_has_1 : decode cX3_has 1 = .ok (.ifCond .lt 15, 3) := by decide +kernel
theorem dX3_has_4 : decode cX3_has 4 = .ok (.iload_n 1, 1) := by decide +kernel
theorem dX3_has_5 : decode cX3_has 5 = .ok (.aload_n 0, 1) := by decide +kernel
theorem dX3_has_6 : decode cX3_has 6 = .ok (.getfield 24, 3) := by decide +kernel
theorem dX3_has_9 : decode cX3_has 9 = .ok (.if_icmp .ge 7, 3) := by decide +kernel
theorem dX3_has_12 : decode cX3_has 12 = .ok (.iconst 1, 1) := by decide +kernel
theorem dX3_has_13 : decode cX3_has 13 = .ok (.goto 4, 3) := by decide +kernel
theorem dX3_has_16 : decode cX3_has 16 = .ok (.iconst 0, 1) := by decide +kernel
theorem dX3_has_17 : decode cX3_has 17 = .ok (.ireturn, 1) := by decide +kernel
set_option maxRecDepth 20000 in
theorem ggX3_keyAt_X5_at : GoodIn wsX3_keyAt wsX5_at := goodIn_r _ [4] (by decide +kernel) (by decide +kernel)
set_option maxRecDepth 20000 in
theorem gX3_keyAt_X5_at_n28 : GoodIn wsX3_keyAt (wsX5_at) := ggX3_keyAt_X5_at
theorem dX3_keyAt_0 : decode cX3_keyAt 0 = .ok (.aload_n 0, 1) := by decide +kernel
theorem dX3_keyAt_1 : decode cX3_keyAt 1 = .ok (.getfield 9, 3) := by decide +kernel
theorem dX3_keyAt_4 : decode cX3_keyAt 4 = .ok (.iload_n 1, 1) := by decide +kernel
theorem dX3_keyAt_5 : decode cX3_keyAt 5 = .ok (.invokestatic 28, 3) := by decide +kernel
theorem dX3_keyAt_8 : decode cX3_keyAt 8 = .ok (.ireturn, 1) := by decide +kernel
set_option maxRecDepth 20000 in
theorem ggX3_valueAt_X5_at : GoodIn wsX3_valueAt wsX5_at := goodIn_r _ [4] (by decide +kernel) (by decide +kernel)
set_option maxRecDepth 20000 in
theorem gX3_valueAt_X5_at_n28 : GoodIn wsX3_valueAt (wsX5_at) := ggX3_valueAt_X5_at
theorem dX3_valueAt_0 : decode cX3_valueAt 0 = .ok (.aload_n 0, 1) := by decide +kernel
theorem dX3_valueAt_1 : decode cX3_valueAt 1 = .ok (.getfield 15, 3) := by decide +kernel
theorem dX3_valueAt_4 : decode cX3_valueAt 4 = .ok (.iload_n 1, 1) := by decide +kernel
theorem dX3_valueAt_5 : decode cX3_valueAt 5 = .ok (.invokestatic 28, 3) := by decide +kernel
theorem dX3_valueAt_8 : decode cX3_valueAt 8 = .ok (.ireturn, 1) := by decide +kernel
set_option maxRecDepth 20000 in
theorem ggX3_weightAt_X5_at : GoodIn wsX3_weightAt wsX5_at := goodIn_r _ [4] (by decide +kernel) (by decide +kernel)
set_option maxRecDepth 20000 in
theorem gX3_weightAt_X5_at_n28 : GoodIn wsX3_weightAt (wsX5_at) := ggX3_weightAt_X5_at
theorem dX3_weightAt_0 : decode cX3_weightAt 0 = .ok (.aload_n 0, 1) := by decide +kernel
theorem dX3_weightAt_1 : decode cX3_weightAt 1 = .ok (.getfield 18, 3) := by decide +kernel
theorem dX3_weightAt_4 : decode cX3_weightAt 4 = .ok (.iload_n 1, 1) := by decide +kernel
theorem dX3_weightAt_5 : decode cX3_weightAt 5 = .ok (.invokestatic 28, 3) := by decide +kernel
theorem dX3_weightAt_8 : decode cX3_weightAt 8 = .ok (.ireturn, 1) := by decide +kernel
set_option maxRecDepth 20000 in
theorem ggX3_targetAt_X5_at : GoodIn wsX3_targetAt wsX5_at := goodIn_r _ [4] (by decide +kernel) (by decide +kernel)
set_option maxRecDepth 20000 in
theorem gX3_targetAt_X5_at_n28 : GoodIn wsX3_targetAt (wsX5_at) := ggX3_targetAt_X5_at
theorem dX3_targetAt_0 : decode cX3_targetAt 0 = .ok (.aload_n 0, 1) := by decide +kernel
theorem dX3_targetAt_1 : decode cX3_targetAt 1 = .ok (.getfield 21, 3) := by decide +kernel
theorem dX3_targetAt_4 : decode cX3_targetAt 4 = .ok (.iload_n 1, 1) := by decide +kernel
theorem dX3_targetAt_5 : decode cX3_targetAt 5 = .ok (.invokestatic 28, 3) := by decide +kernel
theorem dX3_targetAt_8 : decode cX3_targetAt 8 = .ok (.ireturn, 1) := by decide +kernel
theorem dX3_prefersHeaviest_0 : decode cX3_prefersHeaviest 0 = .ok (.aload_n 0, 1) := by decide +kernel
theorem dX3_prefersHeaviest_1 : decode cX3_prefersHeaviest 1 = .ok (.getfield 32, 3) := by decide +kernel
theorem dX3_prefersHeaviest_4 : decode cX3_prefersHeaviest 4 = .ok (.ireturn, 1) := by decide +kernel
theorem dX3_setPreference_0 : decode cX3_setPreference 0 = .ok (.aload_n 0, 1) := by decide +kernel
theorem dX3_setPreference_1 : decode cX3_setPreference 1 = .ok (.iload_n 1, 1) := by decide +kernel
theorem dX3_setPreference_2 : decode cX3_setPreference 2 = .ok (.putfield 32, 3) := by decide +kernel
theorem dX3_setPreference_5 : decode cX3_setPreference 5 = .ok (.return_, 1) := by decide +kernel
set_option maxRecDepth 20000 in
theorem ggX3_copyFrom_X5_copy : GoodIn wsX3_copyFrom wsX5_copy := goodIn_r _ [9, 10, 11, 12, 13, 14, 15, 16, 17] (by decide +kernel) (by decide +kernel)
set_option maxRecDepth 20000 in
theorem gX3_copyFrom_X5_copy_n36 : GoodIn wsX3_copyFrom (wsX5_copy) := ggX3_copyFrom_X5_copy
theorem dX3_copyFrom_0 : decode cX3_copyFrom 0 = .ok (.aload_n 1, 1) := by decide +kernel
theorem dX3_copyFrom_1 : decode cX3_copyFrom 1 = .ok (.getfield 9, 3) := by decide +kernel
theorem dX3_copyFrom_4 : decode cX3_copyFrom 4 = .ok (.aload_n 0, 1) := by decide +kernel
theorem dX3_copyFrom_5 : decode cX3_copyFrom 5 = .ok (.getfield 9, 3) := by decide +kernel
theorem dX3_copyFrom_8 : decode cX3_copyFrom 8 = .ok (.invokestatic 36, 3) := by decide +kernel
theorem dX3_copyFrom_11 : decode cX3_copyFrom 11 = .ok (.aload_n 1, 1) := by decide +kernel
theorem dX3_copyFrom_12 : decode cX3_copyFrom 12 = .ok (.getfield 15, 3) := by decide +kernel
theorem dX3_copyFrom_15 : decode cX3_copyFrom 15 = .ok (.aload_n 0, 1) := by decide +kernel
theorem dX3_copyFrom_16 : decode cX3_copyFrom 16 = .ok (.getfield 15, 3) := by decide +kernel
theorem dX3_copyFrom_19 : decode cX3_copyFrom 19 = .ok (.invokestatic 36, 3) := by decide +kernel
theorem dX3_copyFrom_22 : decode cX3_copyFrom 22 = .ok (.aload_n 1, 1) := by decide +kernel
theorem dX3_copyFrom_23 : decode cX3_copyFrom 23 = .ok (.getfield 18, 3) := by decide +kernel
theorem dX3_copyFrom_26 : decode cX3_copyFrom 26 = .ok (.aload_n 0, 1) := by decide +kernel
theorem dX3_copyFrom_27 : decode cX3_copyFrom 27 = .ok (.getfield 18, 3) := by decide +kernel
theorem dX3_copyFrom_30 : decode cX3_copyFrom 30 = .ok (.invokestatic 36, 3) := by decide +kernel
theorem dX3_copyFrom_33 : decode cX3_copyFrom 33 = .ok (.aload_n 1, 1) := by decide +kernel
theorem dX3_copyFrom_34 : decode cX3_copyFrom 34 = .ok (.getfield 21, 3) := by decide +kernel
theorem dX3_copyFrom_37 : decode cX3_copyFrom 37 = .ok (.aload_n 0, 1) := by decide +kernel
theorem dX3_copyFrom_38 : decode cX3_copyFrom 38 = .ok (.getfield 21, 3) := by decide +kernel
theorem dX3_copyFrom_41 : decode cX3_copyFrom 41 = .ok (.invokestatic 36, 3) := by decide +kernel
theorem dX3_copyFrom_44 : decode cX3_copyFrom 44 = .ok (.aload_n 0, 1) := by decide +kernel
theorem dX3_copyFrom_45 : decode cX3_copyFrom 45 = .ok (.aload_n 1, 1) := by decide +kernel
theorem dX3_copyFrom_46 : decode cX3_copyFrom 46 = .ok (.getfield 24, 3) := by decide +kernel
theorem dX3_copyFrom_49 : decode cX3_copyFrom 49 = .ok (.putfield 24, 3) := by decide +kernel
theorem dX3_copyFrom_52 : decode cX3_copyFrom 52 = .ok (.aload_n 0, 1) := by decide +kernel
theorem dX3_copyFrom_53 : decode cX3_copyFrom 53 = .ok (.aload_n 1, 1) := by decide +kernel
theorem dX3_copyFrom_54 : decode cX3_copyFrom 54 = .ok (.getfield 32, 3) := by decide +kernel
theorem dX3_copyFrom_57 : decode cX3_copyFrom 57 = .ok (.putfield 32, 3) := by decide +kernel
theorem dX3_copyFrom_60 : decode cX3_copyFrom 60 = .ok (.return_, 1) := by decide +kernel
set_option maxRecDepth 20000 in
theorem ggX3_append_X3_room : GoodIn wsX3_append wsX3_room := goodIn_r _ [10, 2, 14, 15, 16, 17, 18, 19] (by decide +kernel) (by decide +kernel)
set_option maxRecDepth 20000 in
theorem gX3_append_X3_room : GoodIn wsX3_append (wsV RX3 40 RX3 yX3_room wsX3_room) := goodIn_app (goodIn_of _ (by decide +kernel)) ggX3_append_X3_room
set_option maxRecDepth 20000 in
theorem ggX3_append_X5_put : GoodIn wsX3_append wsX5_put := goodIn_r _ [13] (by decide +kernel) (by decide +kernel)
set_option maxRecDepth 20000 in
theorem gX3_append_X5_put_n44 : GoodIn wsX3_append (wsX5_put) := ggX3_append_X5_put
theorem dX3_append_0 : decode cX3_append 0 = .ok (.aload_n 0, 1) := by decide +kernel
theorem dX3_append_1 : decode cX3_append 1 = .ok (.invokevirtual 40, 3) := by decide +kernel
theorem dX3_append_4 : decode cX3_append 4 = .ok (.ifCond .le 62, 3) := by decide +kernel
theorem dX3_append_7 : decode cX3_append 7 = .ok (.aload_n 0, 1) := by decide +kernel
theorem dX3_append_8 : decode cX3_append 8 = .ok (.getfield 9, 3) := by decide +kernel
theorem dX3_append_11 : decode cX3_append 11 = .ok (.aload_n 0, 1) := by decide +kernel
theorem dX3_append_12 : decode cX3_append 12 = .ok (.getfield 24, 3) := by decide +kernel
theorem dX3_append_15 : decode cX3_append 15 = .ok (.iload_n 1, 1) := by decide +kernel
theorem dX3_append_16 : decode cX3_append 16 = .ok (.invokestatic 44, 3) := by decide +kernel
theorem dX3_append_19 : decode cX3_append 19 = .ok (.aload_n 0, 1) := by decide +kernel
theorem dX3_append_20 : decode cX3_append 20 = .ok (.getfield 15, 3) := by decide +kernel
theorem dX3_append_23 : decode cX3_append 23 = .ok (.aload_n 0, 1) := by decide +kernel
theorem dX3_append_24 : decode cX3_append 24 = .ok (.getfield 24, 3) := by decide +kernel
theorem dX3_append_27 : decode cX3_append 27 = .ok (.iload_n 2, 1) := by decide +kernel
theorem dX3_append_28 : decode cX3_append 28 = .ok (.invokestatic 44, 3) := by decide +kernel
theorem dX3_append_31 : decode cX3_append 31 = .ok (.aload_n 0, 1) := by decide +kernel
theorem dX3_append_32 : decode cX3_append 32 = .ok (.getfield 18, 3) := by decide +kernel
theorem dX3_append_35 : decode cX3_append 35 = .ok (.aload_n 0, 1) := by decide +kernel
theorem dX3_append_36 : decode cX3_append 36 = .ok (.getfield 24, 3) := by decide +kernel
theorem dX3_append_39 : decode cX3_append 39 = .ok (.iload_n 3, 1) := by decide +kernel
theorem dX3_append_40 : decode cX3_append 40 = .ok (.invokestatic 44, 3) := by decide +kernel
theorem dX3_append_43 : decode cX3_append 43 = .ok (.aload_n 0, 1) := by decide +kernel
theorem dX3_append_44 : decode cX3_append 44 = .ok (.getfield 21, 3) := by decide +kernel
theorem dX3_append_47 : decode cX3_append 47 = .ok (.aload_n 0, 1) := by decide +kernel
theorem dX3_append_48 : decode cX3_append 48 = .ok (.getfield 24, 3) := by decide +kernel
theorem dX3_append_51 : decode cX3_append 51 = .ok (.iload 4, 2) := by decide +kernel
theorem dX3_append_53 : decode cX3_append 53 = .ok (.invokestatic 44, 3) := by decide +kernel
theorem dX3_append_56 : decode cX3_append 56 = .ok (.aload_n 0, 1) := by decide +kernel
theorem dX3_append_57 : decode cX3_append 57 = .ok (.dup, 1) := by decide +kernel
theorem dX3_append_58 : decode cX3_append 58 = .ok (.getfield 24, 3) := by decide +kernel
theorem dX3_append_61 : decode cX3_append 61 = .ok (.iconst 1, 1) := by decide +kernel
theorem dX3_append_62 : decode cX3_append 62 = .ok (.iadd, 1) := by decide +kernel
theorem dX3_append_63 : decode cX3_append 63 = .ok (.putfield 24, 3) := by decide +kernel
theorem dX3_append_66 : decode cX3_append 66 = .ok (.return_, 1) := by decide +kernel
set_option maxRecDepth 20000 in
theorem ggX3_drop_X3_has : GoodIn wsX3_drop wsX3_has := goodIn_r _ [6, 1, 36, 37, 38, 39, 40, 41] (by decide +kernel) (by decide +kernel)
set_option maxRecDepth 20000 in
theorem gX3_drop_X3_has : GoodIn wsX3_drop (wsV RX3 65 RX3 yX3_has wsX3_has) := goodIn_app (goodIn_of _ (by decide +kernel)) ggX3_drop_X3_has
set_option maxRecDepth 20000 in
theorem ggX3_drop_X3_move : GoodIn wsX3_drop wsX3_move := goodIn_r _ [10, 11, 12, 13, 14, 15, 16, 17, 5, 18, 19, 20, 21, 22, 23, 24, 25, 26, 27, 28, 29, 30, 31, 32, 33, 34, 35, 36, 37, 38, 39, 40, 41] (by decide +kernel) (by decide +kernel)
set_option maxRecDepth 20000 in
theorem gX3_drop_X3_move : GoodIn wsX3_drop (wsV RX3 69 RX3 yX3_move wsX3_move) := goodIn_app (goodIn_of _ (by decide +kernel)) ggX3_drop_X3_move
theorem dX3_drop_0 : decode cX3_drop 0 = .ok (.aload_n 0, 1) := by decide +kernel
theorem dX3_drop_1 : decode cX3_drop 1 = .ok (.iload_n 1, 1) := by decide +kernel
theorem dX3_drop_2 : decode cX3_drop 2 = .ok (.invokevirtual 65, 3) := by decide +kernel
theorem dX3_drop_5 : decode cX3_drop 5 = .ok (.ifCond .eq 39, 3) := by decide +kernel
theorem dX3_drop_8 : decode cX3_drop 8 = .ok (.iload_n 1, 1) := by decide +kernel
theorem dX3_drop_9 : decode cX3_drop 9 = .ok (.iconst 1, 1) := by decide +kernel
theorem dX3_drop_10 : decode cX3_drop 10 = .ok (.iadd, 1) := by decide +kernel
theorem dX3_drop_11 : decode cX3_drop 11 = .ok (.istore_n 2, 1) := by decide +kernel
theorem dX3_drop_12 : decode cX3_drop 12 = .ok (.iload_n 2, 1) := by decide +kernel
theorem dX3_drop_13 : decode cX3_drop 13 = .ok (.aload_n 0, 1) := by decide +kernel
theorem dX3_drop_14 : decode cX3_drop 14 = .ok (.getfield 24, 3) := by decide +kernel
theorem dX3_drop_17 : decode cX3_drop 17 = .ok (.if_icmp .ge 17, 3) := by decide +kernel
theorem dX3_drop_20 : decode cX3_drop 20 = .ok (.aload_n 0, 1) := by decide +kernel
theorem dX3_drop_21 : decode cX3_drop 21 = .ok (.iload_n 2, 1) := by decide +kernel
theorem dX3_drop_22 : decode cX3_drop 22 = .ok (.iload_n 2, 1) := by decide +kernel
theorem dX3_drop_23 : decode cX3_drop 23 = .ok (.iconst 1, 1) := by decide +kernel
theorem dX3_drop_24 : decode cX3_drop 24 = .ok (.isub, 1) := by decide +kernel
theorem dX3_drop_25 : decode cX3_drop 25 = .ok (.invokevirtual 69, 3) := by decide +kernel
theorem dX3_drop_28 : decode cX3_drop 28 = .ok (.iinc 2 1, 3) := by decide +kernel
theorem dX3_drop_31 : decode cX3_drop 31 = .ok (.goto (-19), 3) := by decide +kernel
theorem dX3_drop_34 : decode cX3_drop 34 = .ok (.aload_n 0, 1) := by decide +kernel
theorem dX3_drop_35 : decode cX3_drop 35 = .ok (.dup, 1) := by decide +kernel
theorem dX3_drop_36 : decode cX3_drop 36 = .ok (.getfield 24, 3) := by decide +kernel
theorem dX3_drop_39 : decode cX3_drop 39 = .ok (.iconst 1, 1) := by decide +kernel
theorem dX3_drop_40 : decode cX3_drop 40 = .ok (.isub, 1) := by decide +kernel
theorem dX3_drop_41 : decode cX3_drop 41 = .ok (.putfield 24, 3) := by decide +kernel
theorem dX3_drop_44 : decode cX3_drop 44 = .ok (.return_, 1) := by decide +kernel
set_option maxRecDepth 20000 in
theorem ggX3_dropOthersLike_X3_has : GoodIn wsX3_dropOthersLike wsX3_has := goodIn_r _ [6, 1, 36, 37, 38, 39, 40, 41] (by decide +kernel) (by decide +kernel)
set_option maxRecDepth 20000 in
theorem gX3_dropOthersLike_X3_has : GoodIn wsX3_dropOthersLike (wsV RX3 65 RX3 yX3_has wsX3_has) := goodIn_app (goodIn_of _ (by decide +kernel)) ggX3_dropOthersLike_X3_has
set_option maxRecDepth 20000 in
theorem ggX3_dropOthersLike_X3_keyAt : GoodIn wsX3_dropOthersLike wsX3_keyAt := goodIn_r _ [10, 11, 12, 13, 14, 36, 37, 38, 39, 40, 41] (by decide +kernel) (by decide +kernel)
set_option maxRecDepth 20000 in
theorem gX3_dropOthersLike_X3_keyAt : GoodIn wsX3_dropOthersLike (wsV RX3 48 RX3 yX3_keyAt wsX3_keyAt) := goodIn_app (goodIn_of _ (by decide +kernel)) ggX3_dropOthersLike_X3_keyAt
set_option maxRecDepth 20000 in
theorem ggX3_dropOthersLike_X3_move : GoodIn wsX3_dropOthersLike wsX3_move := goodIn_r _ [18, 11, 19, 20, 21, 7, 8, 9, 5, 10, 12, 13, 14, 22, 23, 24, 25, 26, 27, 28, 29, 30, 31, 32, 33, 34, 35, 36, 37, 38, 39, 40, 41] (by decide +kernel) (by decide +kernel)
set_option maxRecDepth 20000 in
theorem gX3_dropOthersLike_X3_move : GoodIn wsX3_dropOthersLike (wsV RX3 69 RX3 yX3_move wsX3_move) := goodIn_app (goodIn_of _ (by decide +kernel)) ggX3_dropOthersLike_X3_move
theorem dX3_dropOthersLike_0 : decode cX3_dropOthersLike 0 = .ok (.aload_n 0, 1) := by decide +kernel
theorem dX3_dropOthersLike_1 : decode cX3_dropOthersLike 1 = .ok (.iload_n 1, 1) := by decide +kernel
theorem dX3_dropOthersLike_2 : decode cX3_dropOthersLike 2 = .ok (.invokevirtual 65, 3) := by decide +kernel
theorem dX3_dropOthersLike_5 : decode cX3_dropOthersLike 5 = .ok (.ifCond .eq 60, 3) := by decide +kernel
theorem dX3_dropOthersLike_8 : decode cX3_dropOthersLike 8 = .ok (.aload_n 0, 1) := by decide +kernel
theorem dX3_dropOthersLike_9 : decode cX3_dropOthersLike 9 = .ok (.iload_n 1, 1) := by decide +kernel
theorem dX3_dropOthersLike_10 : decode cX3_dropOthersLike 10 = .ok (.invokevirtual 48, 3) := by decide +kernel
theorem dX3_dropOthersLike_13 : decode cX3_dropOthersLike 13 = .ok (.istore_n 2, 1) := by decide +kernel
theorem dX3_dropOthersLike_14 : decode cX3_dropOthersLike 14 = .ok (.iconst 0, 1) := by decide +kernel
theorem dX3_dropOthersLike_15 : decode cX3_dropOthersLike 15 = .ok (.istore_n 3, 1) := by decide +kernel
theorem dX3_dropOthersLike_16 : decode cX3_dropOthersLike 16 = .ok (.iconst 0, 1) := by decide +kernel
theorem dX3_dropOthersLike_17 : decode cX3_dropOthersLike 17 = .ok (.istore 4, 2) := by decide +kernel
theorem dX3_dropOthersLike_19 : decode cX3_dropOthersLike 19 = .ok (.iload 4, 2) := by decide +kernel
theorem dX3_dropOthersLike_21 : decode cX3_dropOthersLike 21 = .ok (.aload_n 0, 1) := by decide +kernel
theorem dX3_dropOthersLike_22 : decode cX3_dropOthersLike 22 = .ok (.getfield 24, 3) := by decide +kernel
theorem dX3_dropOthersLike_25 : decode cX3_dropOthersLike 25 = .ok (.if_icmp .ge 35, 3) := by decide +kernel
theorem dX3_dropOthersLike_28 : decode cX3_dropOthersLike 28 = .ok (.iload 4, 2) := by decide +kernel
theorem dX3_dropOthersLike_30 : decode cX3_dropOthersLike 30 = .ok (.iload_n 1, 1) := by decide +kernel
theorem dX3_dropOthersLike_31 : decode cX3_dropOthersLike 31 = .ok (.if_icmp .eq 13, 3) := by decide +kernel
theorem dX3_dropOthersLike_34 : decode cX3_dropOthersLike 34 = .ok (.aload_n 0, 1) := by decide +kernel
theorem dX3_dropOthersLike_35 : decode cX3_dropOthersLike 35 = .ok (.iload 4, 2) := by decide +kernel
theorem dX3_dropOthersLike_37 : decode cX3_dropOthersLike 37 = .ok (.invokevirtual 48, 3) := by decide +kernel
theorem dX3_dropOthersLike_40 : decode cX3_dropOthersLike 40 = .ok (.iload_n 2, 1) := by decide +kernel
theorem dX3_dropOthersLike_41 : decode cX3_dropOthersLike 41 = .ok (.if_icmp .eq 13, 3) := by decide +kernel
theorem dX3_dropOthersLike_44 : decode cX3_dropOthersLike 44 = .ok (.aload_n 0, 1) := by decide +kernel
theorem dX3_dropOthersLike_45 : decode cX3_dropOthersLike 45 = .ok (.iload 4, 2) := by decide +kernel
theorem dX3_dropOthersLike_47 : decode cX3_dropOthersLike 47 = .ok (.iload_n 3, 1) := by decide +kernel
theorem dX3_dropOthersLike_48 : decode cX3_dropOthersLike 48 = .ok (.invokevirtual 69, 3) := by decide +kernel
theorem dX3_dropOthersLike_51 : decode cX3_dropOthersLike 51 = .ok (.iinc 3 1, 3) := by decide +kernel
theorem dX3_dropOthersLike_54 : decode cX3_dropOthersLike 54 = .ok (.iinc 4 1, 3) := by decide +kernel
theorem dX3_dropOthersLike_57 : decode cX3_dropOthersLike 57 = .ok (.goto (-38), 3) := by decide +kernel
theorem dX3_dropOthersLike_60 : decode cX3_dropOthersLike 60 = .ok (.aload_n 0, 1) := by decide +kernel
theorem dX3_dropOthersLike_61 : decode cX3_dropOthersLike 61 = .ok (.iload_n 3, 1) := by decide +kernel
theorem dX3_dropOthersLike_62 : decode cX3_dropOthersLike 62 = .ok (.putfield 24, 3) := by decide +kernel
theorem dX3_dropOthersLike_65 : decode cX3_dropOthersLike 65 = .ok (.return_, 1) := by decide +kernel
set_option maxRecDepth 20000 in
theorem ggX3_move_X3_keyAt : GoodIn wsX3_move wsX3_keyAt := goodIn_r _ [9, 1, 10, 11, 12, 27, 28, 29, 30, 31, 32] (by decide +kernel) (by decide +kernel)
set_option maxRecDepth 20000 in
theorem gX3_move_X3_keyAt : GoodIn wsX3_move (wsV RX3 48 RX3 yX3_keyAt wsX3_keyAt) := goodIn_app (goodIn_of _ (by decide +kernel)) ggX3_move_X3_keyAt
set_option maxRecDepth 20000 in
theorem ggX3_move_X5_put : GoodIn wsX3_move wsX5_put := goodIn_r _ [14] (by decide +kernel) (by decide +kernel)
set_option maxRecDepth 20000 in
theorem gX3_move_X5_put_n44 : GoodIn wsX3_move (wsX5_put) := ggX3_move_X5_put
set_option maxRecDepth 20000 in
theorem ggX3_move_X3_valueAt : GoodIn wsX3_move wsX3_valueAt := goodIn_r _ [18, 2, 10, 11, 12, 27, 28, 29, 30, 31, 32] (by decide +kernel) (by decide +kernel)
set_option maxRecDepth 20000 in
theorem gX3_move_X3_valueAt : GoodIn wsX3_move (wsV RX3 52 RX3 yX3_valueAt wsX3_valueAt) := goodIn_app (goodIn_of _ (by decide +kernel)) ggX3_move_X3_valueAt
set_option maxRecDepth 20000 in
theorem ggX3_move_X3_weightAt : GoodIn wsX3_move wsX3_weightAt := goodIn_r _ [22, 3, 10, 11, 12, 27, 28, 29, 30, 31, 32] (by decide +kernel) (by decide +kernel)
set_option maxRecDepth 20000 in
theorem gX3_move_X3_weightAt : GoodIn wsX3_move (wsV RX3 55 RX3 yX3_weightAt wsX3_weightAt) := goodIn_app (goodIn_of _ (by decide +kernel)) ggX3_move_X3_weightAt
set_option maxRecDepth 20000 in
theorem ggX3_move_X3_targetAt : GoodIn wsX3_move wsX3_targetAt := goodIn_r _ [26, 4, 10, 11, 12, 27, 28, 29, 30, 31, 32] (by decide +kernel) (by decide +kernel)
set_option maxRecDepth 20000 in
theorem gX3_move_X3_targetAt : GoodIn wsX3_move (wsV RX3 58 RX3 yX3_targetAt wsX3_targetAt) := goodIn_app (goodIn_of _ (by decide +kernel)) ggX3_move_X3_targetAt
theorem dX3_move_0 : decode cX3_move 0 = .ok (.aload_n 0, 1) := by decide +kernel
theorem dX3_move_1 : decode cX3_move 1 = .ok (.getfield 9, 3) := by decide +kernel
theorem dX3_move_4 : decode cX3_move 4 = .ok (.iload_n 2, 1) := by decide +kernel
theorem dX3_move_5 : decode cX3_move 5 = .ok (.aload_n 0, 1) := by decide +kernel
theorem dX3_move_6 : decode cX3_move 6 = .ok (.iload_n 1, 1) := by decide +kernel
theorem dX3_move_7 : decode cX3_move 7 = .ok (.invokevirtual 48, 3) := by decide +kernel
theorem dX3_move_10 : decode cX3_move 10 = .ok (.invokestatic 44, 3) := by decide +kernel
theorem dX3_move_13 : decode cX3_move 13 = .ok (.aload_n 0, 1) := by decide +kernel
theorem dX3_move_14 : decode cX3_move 14 = .ok (.getfield 15, 3) := by decide +kernel
theorem dX3_move_17 : decode cX3_move 17 = .ok (.iload_n 2, 1) := by decide +kernel
theorem dX3_move_18 : decode cX3_move 18 = .ok (.aload_n 0, 1) := by decide +kernel
