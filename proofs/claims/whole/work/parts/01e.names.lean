theorem dX6_mendAll_58 : decode cX6_mendAll 58 = .ok (.iload_n 3, 1) := by decide +kernel
theorem dX6_mendAll_59 : decode cX6_mendAll 59 = .ok (.invokevirtual 106, 3) := by decide +kernel
theorem dX6_mendAll_62 : decode cX6_mendAll 62 = .ok (.goto 9, 3) := by decide +kernel
theorem dX6_mendAll_65 : decode cX6_mendAll 65 = .ok (.aload_n 0, 1) := by decide +kernel
theorem dX6_mendAll_66 : decode cX6_mendAll 66 = .ok (.iload_n 3, 1) := by decide +kernel
theorem dX6_mendAll_67 : decode cX6_mendAll 67 = .ok (.iconst 1, 1) := by decide +kernel
theorem dX6_mendAll_68 : decode cX6_mendAll 68 = .ok (.invokevirtual 57, 3) := by decide +kernel
theorem dX6_mendAll_71 : decode cX6_mendAll 71 = .ok (.invokevirtual 95, 3) := by decide +kernel
theorem dX6_mendAll_74 : decode cX6_mendAll 74 = .ok (.iadd, 1) := by decide +kernel
theorem dX6_mendAll_75 : decode cX6_mendAll 75 = .ok (.istore_n 2, 1) := by decide +kernel
theorem dX6_mendAll_76 : decode cX6_mendAll 76 = .ok (.iinc 3 1, 3) := by decide +kernel
theorem dX6_mendAll_79 : decode cX6_mendAll 79 = .ok (.goto (-56), 3) := by decide +kernel
theorem dX6_mendAll_82 : decode cX6_mendAll 82 = .ok (.iload_n 2, 1) := by decide +kernel
theorem dX6_mendAll_83 : decode cX6_mendAll 83 = .ok (.ifCond .ne 8, 3) := by decide +kernel
theorem dX6_mendAll_86 : decode cX6_mendAll 86 = .ok (.bipush (-5), 2) := by decide +kernel
theorem dX6_mendAll_88 : decode cX6_mendAll 88 = .ok (.goto 8, 3) := by decide +kernel
theorem dX6_mendAll_91 : decode cX6_mendAll 91 = .ok (.aload_n 0, 1) := by decide +kernel
theorem dX6_mendAll_92 : decode cX6_mendAll 92 = .ok (.iload_n 2, 1) := by decide +kernel
theorem dX6_mendAll_93 : decode cX6_mendAll 93 = .ok (.invokevirtual 88, 3) := by decide +kernel
theorem dX6_mendAll_96 : decode cX6_mendAll 96 = .ok (.ireturn, 1) := by decide +kernel
set_option maxRecDepth 20000 in
theorem ggX6_prefer_X6_remember : GoodIn wsX6_prefer wsX6_remember := goodIn_r _ [6, 7, 1, 37, 38, 39, 40, 41, 42, 43, 44, 45, 46, 47, 48, 49, 50, 51, 52, 53, 54, 55, 56] (by decide +kernel) (by decide +kernel)
set_option maxRecDepth 20000 in
theorem gX6_prefer_X6_remember : GoodIn wsX6_prefer (wsV RX6 81 RX6 yX6_remember wsX6_remember) := goodIn_app (goodIn_of _ (by decide +kernel)) ggX6_prefer_X6_remember
set_option maxRecDepth 20000 in
theorem ggX6_prefer_X6_findsChoices : GoodIn wsX6_prefer wsX6_findsChoices := goodIn_r _ [11, 12, 1, 13, 14, 15, 16, 17, 5, 18, 19, 20, 21, 22, 23, 24, 25, 26, 37, 38, 39, 40, 41, 42, 43, 44, 45, 46, 47, 48, 49, 50, 51, 52, 53, 54, 55, 56] (by decide +kernel) (by decide +kernel)
set_option maxRecDepth 20000 in
theorem gX6_prefer_X6_findsChoices : GoodIn wsX6_prefer (wsV RX6 109 RX6 yX6_findsChoices wsX6_findsChoices) := goodIn_app (goodIn_of _ (by decide +kernel)) ggX6_prefer_X6_findsChoices
set_option maxRecDepth 20000 in
theorem ggX6_prefer_X6_mendings : GoodIn wsX6_prefer wsX6_mendings := goodIn_r _ [30, 12, 37, 38, 39, 40, 41, 42, 43, 44, 45, 46, 47, 48, 49, 50, 51, 52, 53, 54, 55, 56] (by decide +kernel) (by decide +kernel)
set_option maxRecDepth 20000 in
theorem gX6_prefer_X6_mendings : GoodIn wsX6_prefer (wsV RX6 112 RX6 yX6_mendings wsX6_mendings) := goodIn_app (goodIn_of _ (by decide +kernel)) ggX6_prefer_X6_mendings
set_option maxRecDepth 20000 in
theorem ggX6_prefer_X6_acted : GoodIn wsX6_prefer wsX6_acted := goodIn_r _ [34, 35, 36, 7, 37, 38, 39, 40, 41, 42, 43, 44, 45, 46, 47, 48, 49, 50, 51, 52, 53, 54, 55, 56] (by decide +kernel) (by decide +kernel)
set_option maxRecDepth 20000 in
theorem gX6_prefer_X6_acted : GoodIn wsX6_prefer (wsV RX6 88 RX6 yX6_acted wsX6_acted) := goodIn_app (goodIn_of _ (by decide +kernel)) ggX6_prefer_X6_acted
theorem dX6_prefer_0 : decode cX6_prefer 0 = .ok (.iload_n 1, 1) := by decide +kernel
theorem dX6_prefer_1 : decode cX6_prefer 1 = .ok (.ifCond .eq 7, 3) := by decide +kernel
theorem dX6_prefer_4 : decode cX6_prefer 4 = .ok (.iconst 1, 1) := by decide +kernel
theorem dX6_prefer_5 : decode cX6_prefer 5 = .ok (.goto 4, 3) := by decide +kernel
theorem dX6_prefer_8 : decode cX6_prefer 8 = .ok (.iconst 0, 1) := by decide +kernel
theorem dX6_prefer_9 : decode cX6_prefer 9 = .ok (.istore_n 2, 1) := by decide +kernel
theorem dX6_prefer_10 : decode cX6_prefer 10 = .ok (.aload_n 0, 1) := by decide +kernel
theorem dX6_prefer_11 : decode cX6_prefer 11 = .ok (.getfield 7, 3) := by decide +kernel
theorem dX6_prefer_14 : decode cX6_prefer 14 = .ok (.iconst 1, 1) := by decide +kernel
theorem dX6_prefer_15 : decode cX6_prefer 15 = .ok (.iaload, 1) := by decide +kernel
theorem dX6_prefer_16 : decode cX6_prefer 16 = .ok (.iload_n 2, 1) := by decide +kernel
theorem dX6_prefer_17 : decode cX6_prefer 17 = .ok (.if_icmp .ne 6, 3) := by decide +kernel
theorem dX6_prefer_20 : decode cX6_prefer 20 = .ok (.bipush (-5), 2) := by decide +kernel
theorem dX6_prefer_22 : decode cX6_prefer 22 = .ok (.ireturn, 1) := by decide +kernel
theorem dX6_prefer_23 : decode cX6_prefer 23 = .ok (.aload_n 0, 1) := by decide +kernel
theorem dX6_prefer_24 : decode cX6_prefer 24 = .ok (.invokevirtual 81, 3) := by decide +kernel
theorem dX6_prefer_27 : decode cX6_prefer 27 = .ok (.aload_n 0, 1) := by decide +kernel
theorem dX6_prefer_28 : decode cX6_prefer 28 = .ok (.getfield 7, 3) := by decide +kernel
theorem dX6_prefer_31 : decode cX6_prefer 31 = .ok (.iconst 1, 1) := by decide +kernel
theorem dX6_prefer_32 : decode cX6_prefer 32 = .ok (.iload_n 2, 1) := by decide +kernel
theorem dX6_prefer_33 : decode cX6_prefer 33 = .ok (.iastore, 1) := by decide +kernel
theorem dX6_prefer_34 : decode cX6_prefer 34 = .ok (.aload_n 0, 1) := by decide +kernel
theorem dX6_prefer_35 : decode cX6_prefer 35 = .ok (.invokevirtual 109, 3) := by decide +kernel
theorem dX6_prefer_38 : decode cX6_prefer 38 = .ok (.aload_n 0, 1) := by decide +kernel
theorem dX6_prefer_39 : decode cX6_prefer 39 = .ok (.aload_n 0, 1) := by decide +kernel
theorem dX6_prefer_40 : decode cX6_prefer 40 = .ok (.invokevirtual 112, 3) := by decide +kernel
theorem dX6_prefer_43 : decode cX6_prefer 43 = .ok (.invokevirtual 88, 3) := by decide +kernel
theorem dX6_prefer_46 : decode cX6_prefer 46 = .ok (.ireturn, 1) := by decide +kernel
theorem dX6_type_0 : decode cX6_type 0 = .ok (.aload_n 0, 1) := by decide +kernel
theorem dX6_type_1 : decode cX6_type 1 = .ok (.getfield 116, 3) := by decide +kernel
theorem dX6_type_4 : decode cX6_type 4 = .ok (.bipush 80, 2) := by decide +kernel
theorem dX6_type_6 : decode cX6_type 6 = .ok (.if_icmp .ne 6, 3) := by decide +kernel
theorem dX6_type_9 : decode cX6_type 9 = .ok (.bipush (-3), 2) := by decide +kernel
theorem dX6_type_11 : decode cX6_type 11 = .ok (.ireturn, 1) := by decide +kernel
theorem dX6_type_12 : decode cX6_type 12 = .ok (.aload_n 0, 1) := by decide +kernel
theorem dX6_type_13 : decode cX6_type 13 = .ok (.getfield 35, 3) := by decide +kernel
theorem dX6_type_16 : decode cX6_type 16 = .ok (.aload_n 0, 1) := by decide +kernel
theorem dX6_type_17 : decode cX6_type 17 = .ok (.getfield 116, 3) := by decide +kernel
theorem dX6_type_20 : decode cX6_type 20 = .ok (.iload_n 1, 1) := by decide +kernel
theorem dX6_type_21 : decode cX6_type 21 = .ok (.iastore, 1) := by decide +kernel
theorem dX6_type_22 : decode cX6_type 22 = .ok (.aload_n 0, 1) := by decide +kernel
theorem dX6_type_23 : decode cX6_type 23 = .ok (.dup, 1) := by decide +kernel
theorem dX6_type_24 : decode cX6_type 24 = .ok (.getfield 116, 3) := by decide +kernel
theorem dX6_type_27 : decode cX6_type 27 = .ok (.iconst 1, 1) := by decide +kernel
theorem dX6_type_28 : decode cX6_type 28 = .ok (.iadd, 1) := by decide +kernel
theorem dX6_type_29 : decode cX6_type 29 = .ok (.putfield 116, 3) := by decide +kernel
theorem dX6_type_32 : decode cX6_type 32 = .ok (.aload_n 0, 1) := by decide +kernel
theorem dX6_type_33 : decode cX6_type 33 = .ok (.getfield 116, 3) := by decide +kernel
theorem dX6_type_36 : decode cX6_type 36 = .ok (.ireturn, 1) := by decide +kernel
theorem dX6_clearText_0 : decode cX6_clearText 0 = .ok (.aload_n 0, 1) := by decide +kernel
theorem dX6_clearText_1 : decode cX6_clearText 1 = .ok (.getfield 116, 3) := by decide +kernel
theorem dX6_clearText_4 : decode cX6_clearText 4 = .ok (.istore_n 1, 1) := by decide +kernel
theorem dX6_clearText_5 : decode cX6_clearText 5 = .ok (.aload_n 0, 1) := by decide +kernel
theorem dX6_clearText_6 : decode cX6_clearText 6 = .ok (.iconst 0, 1) := by decide +kernel
theorem dX6_clearText_7 : decode cX6_clearText 7 = .ok (.putfield 116, 3) := by decide +kernel
theorem dX6_clearText_10 : decode cX6_clearText 10 = .ok (.iload_n 1, 1) := by decide +kernel
theorem dX6_clearText_11 : decode cX6_clearText 11 = .ok (.ireturn, 1) := by decide +kernel
set_option maxRecDepth 20000 in
theorem ggX6_isHere_X6_in : GoodIn wsX6_isHere wsX6_in := goodIn_r _ [7] (by decide +kernel) (by decide +kernel)
set_option maxRecDepth 20000 in
theorem gX6_isHere_X6_in : GoodIn wsX6_isHere (va_wsS RX6 47 yX6_in wsX6_in) := goodIn_app (goodIn_of _ (by decide +kernel)) ggX6_isHere_X6_in
theorem dX6_isHere_0 : decode cX6_isHere 0 = .ok (.aload_n 0, 1) := by decide +kernel
theorem dX6_isHere_1 : decode cX6_isHere 1 = .ok (.getfield 119, 3) := by decide +kernel
theorem dX6_isHere_4 : decode cX6_isHere 4 = .ok (.aload_n 0, 1) := by decide +kernel
theorem dX6_isHere_5 : decode cX6_isHere 5 = .ok (.getfield 116, 3) := by decide +kernel
theorem dX6_isHere_8 : decode cX6_isHere 8 = .ok (.if_icmp .ge 27, 3) := by decide +kernel
theorem dX6_isHere_11 : decode cX6_isHere 11 = .ok (.aload_n 0, 1) := by decide +kernel
theorem dX6_isHere_12 : decode cX6_isHere 12 = .ok (.getfield 35, 3) := by decide +kernel
theorem dX6_isHere_15 : decode cX6_isHere 15 = .ok (.aload_n 0, 1) := by decide +kernel
theorem dX6_isHere_16 : decode cX6_isHere 16 = .ok (.getfield 119, 3) := by decide +kernel
theorem dX6_isHere_19 : decode cX6_isHere 19 = .ok (.iaload, 1) := by decide +kernel
theorem dX6_isHere_20 : decode cX6_isHere 20 = .ok (.i2l, 1) := by decide +kernel
theorem dX6_isHere_21 : decode cX6_isHere 21 = .ok (.iload_n 1, 1) := by decide +kernel
theorem dX6_isHere_22 : decode cX6_isHere 22 = .ok (.i2l, 1) := by decide +kernel
theorem dX6_isHere_23 : decode cX6_isHere 23 = .ok (.iload_n 2, 1) := by decide +kernel
theorem dX6_isHere_24 : decode cX6_isHere 24 = .ok (.i2l, 1) := by decide +kernel
theorem dX6_isHere_25 : decode cX6_isHere 25 = .ok (.invokestatic 47, 3) := by decide +kernel
theorem dX6_isHere_28 : decode cX6_isHere 28 = .ok (.ifCond .eq 7, 3) := by decide +kernel
theorem dX6_isHere_31 : decode cX6_isHere 31 = .ok (.iconst 1, 1) := by decide +kernel
theorem dX6_isHere_32 : decode cX6_isHere 32 = .ok (.goto 4, 3) := by decide +kernel
theorem dX6_isHere_35 : decode cX6_isHere 35 = .ok (.iconst 0, 1) := by decide +kernel
theorem dX6_isHere_36 : decode cX6_isHere 36 = .ok (.ireturn, 1) := by decide +kernel
set_option maxRecDepth 20000 in
theorem ggX6_takesSign_X6_isHere : GoodIn wsX6_takesSign wsX6_isHere := goodIn_r _ [6, 1, 7, 8, 9, 10, 5, 11, 12, 13, 14, 15, 16, 17, 18, 19, 20, 21, 22, 23, 24, 25, 26, 27, 28, 29, 30, 31] (by decide +kernel) (by decide +kernel)
set_option maxRecDepth 20000 in
theorem gX6_takesSign_X6_isHere : GoodIn wsX6_takesSign (wsV RX6 122 RX6 yX6_isHere wsX6_isHere) := goodIn_app (goodIn_of _ (by decide +kernel)) ggX6_takesSign_X6_isHere
theorem dX6_takesSign_0 : decode cX6_takesSign 0 = .ok (.aload_n 0, 1) := by decide +kernel
theorem dX6_takesSign_1 : decode cX6_takesSign 1 = .ok (.iload_n 1, 1) := by decide +kernel
theorem dX6_takesSign_2 : decode cX6_takesSign 2 = .ok (.iload_n 1, 1) := by decide +kernel
theorem dX6_takesSign_3 : decode cX6_takesSign 3 = .ok (.invokevirtual 122, 3) := by decide +kernel
theorem dX6_takesSign_6 : decode cX6_takesSign 6 = .ok (.istore_n 2, 1) := by decide +kernel
theorem dX6_takesSign_7 : decode cX6_takesSign 7 = .ok (.aload_n 0, 1) := by decide +kernel
theorem dX6_takesSign_8 : decode cX6_takesSign 8 = .ok (.dup, 1) := by decide +kernel
theorem dX6_takesSign_9 : decode cX6_takesSign 9 = .ok (.getfield 119, 3) := by decide +kernel
theorem dX6_takesSign_12 : decode cX6_takesSign 12 = .ok (.iload_n 2, 1) := by decide +kernel
theorem dX6_takesSign_13 : decode cX6_takesSign 13 = .ok (.ifCond .eq 7, 3) := by decide +kernel
theorem dX6_takesSign_16 : decode cX6_takesSign 16 = .ok (.iconst 1, 1) := by decide +kernel
theorem dX6_takesSign_17 : decode cX6_takesSign 17 = .ok (.goto 4, 3) := by decide +kernel
theorem dX6_takesSign_20 : decode cX6_takesSign 20 = .ok (.iconst 0, 1) := by decide +kernel
theorem dX6_takesSign_21 : decode cX6_takesSign 21 = .ok (.iadd, 1) := by decide +kernel
theorem dX6_takesSign_22 : decode cX6_takesSign 22 = .ok (.putfield 119, 3) := by decide +kernel
theorem dX6_takesSign_25 : decode cX6_takesSign 25 = .ok (.iload_n 2, 1) := by decide +kernel
theorem dX6_takesSign_26 : decode cX6_takesSign 26 = .ok (.ireturn, 1) := by decide +kernel
set_option maxRecDepth 20000 in
theorem ggX6_reads_X6_isHere : GoodIn wsX6_reads wsX6_isHere := goodIn_r _ [9, 4, 10, 3, 11, 12, 8, 13, 14, 15, 16, 17, 18, 19, 20, 21, 22, 23, 24, 25, 26, 27, 28, 29, 30, 31, 32, 33] (by decide +kernel) (by decide +kernel)
set_option maxRecDepth 20000 in
theorem gX6_reads_X6_isHere : GoodIn wsX6_reads (wsV RX6 122 RX6 yX6_isHere wsX6_isHere) := goodIn_app (goodIn_of _ (by decide +kernel)) ggX6_reads_X6_isHere
theorem dX6_reads_0 : decode cX6_reads 0 = .ok (.aload_n 0, 1) := by decide +kernel
theorem dX6_reads_1 : decode cX6_reads 1 = .ok (.iload_n 1, 1) := by decide +kernel
theorem dX6_reads_2 : decode cX6_reads 2 = .ok (.iload_n 2, 1) := by decide +kernel
theorem dX6_reads_3 : decode cX6_reads 3 = .ok (.invokevirtual 122, 3) := by decide +kernel
theorem dX6_reads_6 : decode cX6_reads 6 = .ok (.ifCond .ne 5, 3) := by decide +kernel
theorem dX6_reads_9 : decode cX6_reads 9 = .ok (.iconst 0, 1) := by decide +kernel
theorem dX6_reads_10 : decode cX6_reads 10 = .ok (.ireturn, 1) := by decide +kernel
theorem dX6_reads_11 : decode cX6_reads 11 = .ok (.aload_n 0, 1) := by decide +kernel
theorem dX6_reads_12 : decode cX6_reads 12 = .ok (.getfield 38, 3) := by decide +kernel
theorem dX6_reads_15 : decode cX6_reads 15 = .ok (.iconst 4, 1) := by decide +kernel
theorem dX6_reads_16 : decode cX6_reads 16 = .ok (.aload_n 0, 1) := by decide +kernel
theorem dX6_reads_17 : decode cX6_reads 17 = .ok (.getfield 126, 3) := by decide +kernel
theorem dX6_reads_20 : decode cX6_reads 20 = .ok (.imul, 1) := by decide +kernel
theorem dX6_reads_21 : decode cX6_reads 21 = .ok (.iload_n 3, 1) := by decide +kernel
theorem dX6_reads_22 : decode cX6_reads 22 = .ok (.iadd, 1) := by decide +kernel
theorem dX6_reads_23 : decode cX6_reads 23 = .ok (.aload_n 0, 1) := by decide +kernel
theorem dX6_reads_24 : decode cX6_reads 24 = .ok (.getfield 35, 3) := by decide +kernel
theorem dX6_reads_27 : decode cX6_reads 27 = .ok (.aload_n 0, 1) := by decide +kernel
theorem dX6_reads_28 : decode cX6_reads 28 = .ok (.getfield 119, 3) := by decide +kernel
theorem dX6_reads_31 : decode cX6_reads 31 = .ok (.iaload, 1) := by decide +kernel
theorem dX6_reads_32 : decode cX6_reads 32 = .ok (.iload_n 1, 1) := by decide +kernel
theorem dX6_reads_33 : decode cX6_reads 33 = .ok (.isub, 1) := by decide +kernel
theorem dX6_reads_34 : decode cX6_reads 34 = .ok (.iastore, 1) := by decide +kernel
theorem dX6_reads_35 : decode cX6_reads 35 = .ok (.aload_n 0, 1) := by decide +kernel
theorem dX6_reads_36 : decode cX6_reads 36 = .ok (.dup, 1) := by decide +kernel
theorem dX6_reads_37 : decode cX6_reads 37 = .ok (.getfield 119, 3) := by decide +kernel
theorem dX6_reads_40 : decode cX6_reads 40 = .ok (.iconst 1, 1) := by decide +kernel
theorem dX6_reads_41 : decode cX6_reads 41 = .ok (.iadd, 1) := by decide +kernel
theorem dX6_reads_42 : decode cX6_reads 42 = .ok (.putfield 119, 3) := by decide +kernel
theorem dX6_reads_45 : decode cX6_reads 45 = .ok (.iconst 1, 1) := by decide +kernel
theorem dX6_reads_46 : decode cX6_reads 46 = .ok (.ireturn, 1) := by decide +kernel
set_option maxRecDepth 20000 in
theorem ggX6_readsRow_X6_reads : GoodIn wsX6_readsRow wsX6_reads := goodIn_r _ [9, 3, 4, 1, 2, 10, 11, 12, 8, 13, 14, 15, 16, 17, 22, 23, 24, 25, 26, 27, 28, 29, 30, 31, 32, 33, 34, 35, 36, 37, 38, 39, 40, 41] (by decide +kernel) (by decide +kernel)
set_option maxRecDepth 20000 in
theorem gX6_readsRow_X6_reads : GoodIn wsX6_readsRow (wsV RX6 129 RX6 yX6_reads wsX6_reads) := goodIn_app (goodIn_of _ (by decide +kernel)) ggX6_readsRow_X6_reads
set_option maxRecDepth 20000 in
theorem ggX6_readsRow_X6_takesSign : GoodIn wsX6_readsRow wsX6_takesSign := goodIn_r _ [21, 2, 10, 11, 12, 8, 13, 14, 1, 15, 16, 17, 22, 23, 24, 25, 26, 27, 28, 29, 30, 31, 32, 33, 34, 35, 36, 37, 38, 39, 40, 41] (by decide +kernel) (by decide +kernel)
set_option maxRecDepth 20000 in
theorem gX6_readsRow_X6_takesSign : GoodIn wsX6_readsRow (wsV RX6 133 RX6 yX6_takesSign wsX6_takesSign) := goodIn_app (goodIn_of _ (by decide +kernel)) ggX6_readsRow_X6_takesSign
set_option maxRecDepth 20000 in
theorem ggX6_readsRow_X6_isHere : GoodIn wsX6_readsRow wsX6_isHere := goodIn_r _ [13, 2, 14, 1, 15, 16, 8, 17, 22, 23, 24, 25, 26, 27, 28, 29, 30, 31, 32, 33, 34, 35, 36, 37, 38, 39, 40, 41] (by decide +kernel) (by decide +kernel)
set_option maxRecDepth 20000 in
theorem gX6_readsRow_X6_isHere : GoodIn wsX6_readsRow (wsV RX6 122 RX6 yX6_isHere wsX6_isHere) := goodIn_app (goodIn_of _ (by decide +kernel)) ggX6_readsRow_X6_isHere
theorem dX6_readsRow_0 : decode cX6_readsRow 0 = .ok (.aload_n 0, 1) := by decide +kernel
theorem dX6_readsRow_1 : decode cX6_readsRow 1 = .ok (.bipush 48, 2) := by decide +kernel
theorem dX6_readsRow_3 : decode cX6_readsRow 3 = .ok (.bipush 57, 2) := by decide +kernel
theorem dX6_readsRow_5 : decode cX6_readsRow 5 = .ok (.iconst 0, 1) := by decide +kernel
theorem dX6_readsRow_6 : decode cX6_readsRow 6 = .ok (.invokevirtual 129, 3) := by decide +kernel
theorem dX6_readsRow_9 : decode cX6_readsRow 9 = .ok (.ifCond .eq 24, 3) := by decide +kernel
theorem dX6_readsRow_12 : decode cX6_readsRow 12 = .ok (.aload_n 0, 1) := by decide +kernel
theorem dX6_readsRow_13 : decode cX6_readsRow 13 = .ok (.bipush 61, 2) := by decide +kernel
theorem dX6_readsRow_15 : decode cX6_readsRow 15 = .ok (.invokevirtual 133, 3) := by decide +kernel
theorem dX6_readsRow_18 : decode cX6_readsRow 18 = .ok (.ifCond .eq 15, 3) := by decide +kernel
theorem dX6_readsRow_21 : decode cX6_readsRow 21 = .ok (.aload_n 0, 1) := by decide +kernel
theorem dX6_readsRow_22 : decode cX6_readsRow 22 = .ok (.bipush 97, 2) := by decide +kernel
theorem dX6_readsRow_24 : decode cX6_readsRow 24 = .ok (.bipush 104, 2) := by decide +kernel
theorem dX6_readsRow_26 : decode cX6_readsRow 26 = .ok (.iconst 1, 1) := by decide +kernel
theorem dX6_readsRow_27 : decode cX6_readsRow 27 = .ok (.invokevirtual 129, 3) := by decide +kernel
theorem dX6_readsRow_30 : decode cX6_readsRow 30 = .ok (.ifCond .ne 5, 3) := by decide +kernel
theorem dX6_readsRow_33 : decode cX6_readsRow 33 = .ok (.iconst 0, 1) := by decide +kernel
theorem dX6_readsRow_34 : decode cX6_readsRow 34 = .ok (.ireturn, 1) := by decide +kernel
theorem dX6_readsRow_35 : decode cX6_readsRow 35 = .ok (.iconst 0, 1) := by decide +kernel
theorem dX6_readsRow_36 : decode cX6_readsRow 36 = .ok (.istore_n 1, 1) := by decide +kernel
theorem dX6_readsRow_37 : decode cX6_readsRow 37 = .ok (.aload_n 0, 1) := by decide +kernel
theorem dX6_readsRow_38 : decode cX6_readsRow 38 = .ok (.bipush 49, 2) := by decide +kernel
theorem dX6_readsRow_40 : decode cX6_readsRow 40 = .ok (.bipush 57, 2) := by decide +kernel
theorem dX6_readsRow_42 : decode cX6_readsRow 42 = .ok (.invokevirtual 122, 3) := by decide +kernel
theorem dX6_readsRow_45 : decode cX6_readsRow 45 = .ok (.ifCond .eq 65, 3) := by decide +kernel
theorem dX6_readsRow_48 : decode cX6_readsRow 48 = .ok (.aload_n 0, 1) := by decide +kernel
theorem dX6_readsRow_49 : decode cX6_readsRow 49 = .ok (.getfield 35, 3) := by decide +kernel
theorem dX6_readsRow_52 : decode cX6_readsRow 52 = .ok (.aload_n 0, 1) := by decide +kernel
theorem dX6_readsRow_53 : decode cX6_readsRow 53 = .ok (.getfield 119, 3) := by decide +kernel
theorem dX6_readsRow_56 : decode cX6_readsRow 56 = .ok (.iaload, 1) := by decide +kernel
theorem dX6_readsRow_57 : decode cX6_readsRow 57 = .ok (.bipush 48, 2) := by decide +kernel
theorem dX6_readsRow_59 : decode cX6_readsRow 59 = .ok (.isub, 1) := by decide +kernel
theorem dX6_readsRow_60 : decode cX6_readsRow 60 = .ok (.istore_n 1, 1) := by decide +kernel
theorem dX6_readsRow_61 : decode cX6_readsRow 61 = .ok (.aload_n 0, 1) := by decide +kernel
theorem dX6_readsRow_62 : decode cX6_readsRow 62 = .ok (.dup, 1) := by decide +kernel
theorem dX6_readsRow_63 : decode cX6_readsRow 63 = .ok (.getfield 119, 3) := by decide +kernel
theorem dX6_readsRow_66 : decode cX6_readsRow 66 = .ok (.iconst 1, 1) := by decide +kernel
theorem dX6_readsRow_67 : decode cX6_readsRow 67 = .ok (.iadd, 1) := by decide +kernel
theorem dX6_readsRow_68 : decode cX6_readsRow 68 = .ok (.putfield 119, 3) := by decide +kernel
theorem dX6_readsRow_71 : decode cX6_readsRow 71 = .ok (.aload_n 0, 1) := by decide +kernel
theorem dX6_readsRow_72 : decode cX6_readsRow 72 = .ok (.bipush 48, 2) := by decide +kernel
theorem dX6_readsRow_74 : decode cX6_readsRow 74 = .ok (.bipush 57, 2) := by decide +kernel
theorem dX6_readsRow_76 : decode cX6_readsRow 76 = .ok (.invokevirtual 122, 3) := by decide +kernel
theorem dX6_readsRow_79 : decode cX6_readsRow 79 = .ok (.ifCond .eq 31, 3) := by decide +kernel
theorem dX6_readsRow_82 : decode cX6_readsRow 82 = .ok (.bipush 10, 2) := by decide +kernel
theorem dX6_readsRow_84 : decode cX6_readsRow 84 = .ok (.iload_n 1, 1) := by decide +kernel
theorem dX6_readsRow_85 : decode cX6_readsRow 85 = .ok (.imul, 1) := by decide +kernel
theorem dX6_readsRow_86 : decode cX6_readsRow 86 = .ok (.aload_n 0, 1) := by decide +kernel
theorem dX6_readsRow_87 : decode cX6_readsRow 87 = .ok (.getfield 35, 3) := by decide +kernel
theorem dX6_readsRow_90 : decode cX6_readsRow 90 = .ok (.aload_n 0, 1) := by decide +kernel
theorem dX6_readsRow_91 : decode cX6_readsRow 91 = .ok (.getfield 119, 3) := by decide +kernel
theorem dX6_readsRow_94 : decode cX6_readsRow 94 = .ok (.iaload, 1) := by decide +kernel
theorem dX6_readsRow_95 : decode cX6_readsRow 95 = .ok (.iadd, 1) := by decide +kernel
theorem dX6_readsRow_96 : decode cX6_readsRow 96 = .ok (.bipush 48, 2) := by decide +kernel
theorem dX6_readsRow_98 : decode cX6_readsRow 98 = .ok (.isub, 1) := by decide +kernel
theorem dX6_readsRow_99 : decode cX6_readsRow 99 = .ok (.istore_n 1, 1) := by decide +kernel
theorem dX6_readsRow_100 : decode cX6_readsRow 100 = .ok (.aload_n 0, 1) := by decide +kernel
theorem dX6_readsRow_101 : decode cX6_readsRow 101 = .ok (.dup, 1) := by decide +kernel
theorem dX6_readsRow_102 : decode cX6_readsRow 102 = .ok (.getfield 119, 3) := by decide +kernel
theorem dX6_readsRow_105 : decode cX6_readsRow 105 = .ok (.iconst 1, 1) := by decide +kernel
theorem dX6_readsRow_106 : decode cX6_readsRow 106 = .ok (.iadd, 1) := by decide +kernel
theorem dX6_readsRow_107 : decode cX6_readsRow 107 = .ok (.putfield 119, 3) := by decide +kernel
theorem dX6_readsRow_110 : decode cX6_readsRow 110 = .ok (.aload_n 0, 1) := by decide +kernel
theorem dX6_readsRow_111 : decode cX6_readsRow 111 = .ok (.getfield 38, 3) := by decide +kernel
theorem dX6_readsRow_114 : decode cX6_readsRow 114 = .ok (.iconst 4, 1) := by decide +kernel
theorem dX6_readsRow_115 : decode cX6_readsRow 115 = .ok (.aload_n 0, 1) := by decide +kernel
theorem dX6_readsRow_116 : decode cX6_readsRow 116 = .ok (.getfield 126, 3) := by decide +kernel
theorem dX6_readsRow_119 : decode cX6_readsRow 119 = .ok (.imul, 1) := by decide +kernel
theorem dX6_readsRow_120 : decode cX6_readsRow 120 = .ok (.iconst 2, 1) := by decide +kernel
theorem dX6_readsRow_121 : decode cX6_readsRow 121 = .ok (.iadd, 1) := by decide +kernel
theorem dX6_readsRow_122 : decode cX6_readsRow 122 = .ok (.iload_n 1, 1) := by decide +kernel
theorem dX6_readsRow_123 : decode cX6_readsRow 123 = .ok (.iastore, 1) := by decide +kernel
theorem dX6_readsRow_124 : decode cX6_readsRow 124 = .ok (.aload_n 0, 1) := by decide +kernel
theorem dX6_readsRow_125 : decode cX6_readsRow 125 = .ok (.getfield 38, 3) := by decide +kernel
theorem dX6_readsRow_128 : decode cX6_readsRow 128 = .ok (.iconst 4, 1) := by decide +kernel
theorem dX6_readsRow_129 : decode cX6_readsRow 129 = .ok (.aload_n 0, 1) := by decide +kernel
theorem dX6_readsRow_130 : decode cX6_readsRow 130 = .ok (.getfield 126, 3) := by decide +kernel
theorem dX6_readsRow_133 : decode cX6_readsRow 133 = .ok (.imul, 1) := by decide +kernel
theorem dX6_readsRow_134 : decode cX6_readsRow 134 = .ok (.iconst 3, 1) := by decide +kernel
theorem dX6_readsRow_135 : decode cX6_readsRow 135 = .ok (.iadd, 1) := by decide +kernel
theorem dX6_readsRow_136 : decode cX6_readsRow 136 = .ok (.bipush (-5), 2) := by decide +kernel
theorem dX6_readsRow_138 : decode cX6_readsRow 138 = .ok (.iastore, 1) := by decide +kernel
theorem dX6_readsRow_139 : decode cX6_readsRow 139 = .ok (.aload_n 0, 1) := by decide +kernel
theorem dX6_readsRow_140 : decode cX6_readsRow 140 = .ok (.bipush 62, 2) := by decide +kernel
theorem dX6_readsRow_142 : decode cX6_readsRow 142 = .ok (.invokevirtual 133, 3) := by decide +kernel
theorem dX6_readsRow_145 : decode cX6_readsRow 145 = .ok (.ifCond .eq 17, 3) := by decide +kernel
theorem dX6_readsRow_148 : decode cX6_readsRow 148 = .ok (.aload_n 0, 1) := by decide +kernel
theorem dX6_readsRow_149 : decode cX6_readsRow 149 = .ok (.bipush 48, 2) := by decide +kernel
theorem dX6_readsRow_151 : decode cX6_readsRow 151 = .ok (.bipush 57, 2) := by decide +kernel
theorem dX6_readsRow_153 : decode cX6_readsRow 153 = .ok (.iconst 3, 1) := by decide +kernel
theorem dX6_readsRow_154 : decode cX6_readsRow 154 = .ok (.invokevirtual 129, 3) := by decide +kernel
theorem dX6_readsRow_157 : decode cX6_readsRow 157 = .ok (.ifCond .ne 5, 3) := by decide +kernel
theorem dX6_readsRow_160 : decode cX6_readsRow 160 = .ok (.iconst 0, 1) := by decide +kernel
theorem dX6_readsRow_161 : decode cX6_readsRow 161 = .ok (.ireturn, 1) := by decide +kernel
theorem dX6_readsRow_162 : decode cX6_readsRow 162 = .ok (.aload_n 0, 1) := by decide +kernel
theorem dX6_readsRow_163 : decode cX6_readsRow 163 = .ok (.dup, 1) := by decide +kernel
theorem dX6_readsRow_164 : decode cX6_readsRow 164 = .ok (.getfield 126, 3) := by decide +kernel
theorem dX6_readsRow_167 : decode cX6_readsRow 167 = .ok (.iconst 1, 1) := by decide +kernel
theorem dX6_readsRow_168 : decode cX6_readsRow 168 = .ok (.iadd, 1) := by decide +kernel
theorem dX6_readsRow_169 : decode cX6_readsRow 169 = .ok (.putfield 126, 3) := by decide +kernel
theorem dX6_readsRow_172 : decode cX6_readsRow 172 = .ok (.iconst 1, 1) := by decide +kernel
theorem dX6_readsRow_173 : decode cX6_readsRow 173 = .ok (.ireturn, 1) := by decide +kernel
set_option maxRecDepth 20000 in
theorem ggX6_fault_X6_readsRow : GoodIn wsX6_fault wsX6_readsRow := goodIn_r _ [8, 9, 1, 10, 2, 11, 12, 13, 7, 14, 15, 16, 17, 18, 3, 19, 20, 21, 22, 23, 24, 25, 26, 27, 28, 29, 30, 31, 32, 33, 34, 35, 36, 37, 38, 39, 40, 41, 42, 43, 44, 45] (by decide +kernel) (by decide +kernel)
set_option maxRecDepth 20000 in
theorem gX6_fault_X6_readsRow : GoodIn wsX6_fault (wsV RX6 136 RX6 yX6_readsRow wsX6_readsRow) := goodIn_app (goodIn_of _ (by decide +kernel)) ggX6_fault_X6_readsRow
set_option maxRecDepth 20000 in
theorem ggX6_fault_X6_takesSign : GoodIn wsX6_fault wsX6_takesSign := goodIn_r _ [25, 1, 15, 16, 17, 7, 18, 3, 9, 19, 20, 21, 26, 27, 28, 29, 30, 31, 32, 33, 34, 35, 36, 37, 38, 39, 40, 41, 42, 43, 44, 45] (by decide +kernel) (by decide +kernel)
set_option maxRecDepth 20000 in
theorem gX6_fault_X6_takesSign : GoodIn wsX6_fault (wsV RX6 133 RX6 yX6_takesSign wsX6_takesSign) := goodIn_app (goodIn_of _ (by decide +kernel)) ggX6_fault_X6_takesSign
theorem dX6_fault_0 : decode cX6_fault 0 = .ok (.aload_n 0, 1) := by decide +kernel
theorem dX6_fault_1 : decode cX6_fault 1 = .ok (.iconst 0, 1) := by decide +kernel
theorem dX6_fault_2 : decode cX6_fault 2 = .ok (.putfield 119, 3) := by decide +kernel
theorem dX6_fault_5 : decode cX6_fault 5 = .ok (.aload_n 0, 1) := by decide +kernel
theorem dX6_fault_6 : decode cX6_fault 6 = .ok (.iconst 0, 1) := by decide +kernel
theorem dX6_fault_7 : decode cX6_fault 7 = .ok (.putfield 126, 3) := by decide +kernel
theorem dX6_fault_10 : decode cX6_fault 10 = .ok (.iconst 1, 1) := by decide +kernel
theorem dX6_fault_11 : decode cX6_fault 11 = .ok (.istore_n 1, 1) := by decide +kernel
theorem dX6_fault_12 : decode cX6_fault 12 = .ok (.iload_n 1, 1) := by decide +kernel
theorem dX6_fault_13 : decode cX6_fault 13 = .ok (.ifCond .eq 25, 3) := by decide +kernel
theorem dX6_fault_16 : decode cX6_fault 16 = .ok (.aload_n 0, 1) := by decide +kernel
theorem dX6_fault_17 : decode cX6_fault 17 = .ok (.invokevirtual 136, 3) := by decide +kernel
theorem dX6_fault_20 : decode cX6_fault 20 = .ok (.ifCond .ne 8, 3) := by decide +kernel
theorem dX6_fault_23 : decode cX6_fault 23 = .ok (.aload_n 0, 1) := by decide +kernel
theorem dX6_fault_24 : decode cX6_fault 24 = .ok (.getfield 119, 3) := by decide +kernel
theorem dX6_fault_27 : decode cX6_fault 27 = .ok (.ireturn, 1) := by decide +kernel
theorem dX6_fault_28 : decode cX6_fault 28 = .ok (.aload_n 0, 1) := by decide +kernel
theorem dX6_fault_29 : decode cX6_fault 29 = .ok (.bipush 44, 2) := by decide +kernel
theorem dX6_fault_31 : decode cX6_fault 31 = .ok (.invokevirtual 133, 3) := by decide +kernel
theorem dX6_fault_34 : decode cX6_fault 34 = .ok (.istore_n 1, 1) := by decide +kernel
theorem dX6_fault_35 : decode cX6_fault 35 = .ok (.goto (-23), 3) := by decide +kernel
theorem dX6_fault_38 : decode cX6_fault 38 = .ok (.aload_n 0, 1) := by decide +kernel
theorem dX6_fault_39 : decode cX6_fault 39 = .ok (.getfield 119, 3) := by decide +kernel
theorem dX6_fault_42 : decode cX6_fault 42 = .ok (.aload_n 0, 1) := by decide +kernel
theorem dX6_fault_43 : decode cX6_fault 43 = .ok (.getfield 116, 3) := by decide +kernel
theorem dX6_fault_46 : decode cX6_fault 46 = .ok (.if_icmp .ne 8, 3) := by decide +kernel
theorem dX6_fault_49 : decode cX6_fault 49 = .ok (.bipush (-5), 2) := by decide +kernel
theorem dX6_fault_51 : decode cX6_fault 51 = .ok (.goto 7, 3) := by decide +kernel
theorem dX6_fault_54 : decode cX6_fault 54 = .ok (.aload_n 0, 1) := by decide +kernel
theorem dX6_fault_55 : decode cX6_fault 55 = .ok (.getfield 119, 3) := by decide +kernel
theorem dX6_fault_58 : decode cX6_fault 58 = .ok (.ireturn, 1) := by decide +kernel
set_option maxRecDepth 20000 in
theorem ggX6_readRows_X6_fault : GoodIn wsX6_readRows wsX6_fault := goodIn_r _ [8, 9, 2, 10, 11, 12, 13, 7, 14, 15, 3, 16, 17, 18, 19, 20, 21, 22, 23, 24, 25, 26, 27, 28, 29, 30, 46, 47, 48, 49, 50, 51, 52, 53, 54, 55, 56, 57, 58, 59, 60, 61, 62, 63, 64, 65] (by decide +kernel) (by decide +kernel)
set_option maxRecDepth 20000 in
theorem gX6_readRows_X6_fault : GoodIn wsX6_readRows (wsV RX6 140 RX6 yX6_fault wsX6_fault) := goodIn_app (goodIn_of _ (by decide +kernel)) ggX6_readRows_X6_fault
set_option maxRecDepth 20000 in
theorem ggX6_readRows_X6_remember : GoodIn wsX6_readRows wsX6_remember := goodIn_r _ [34, 35, 1, 46, 47, 48, 49, 50, 51, 52, 53, 54, 55, 56, 57, 58, 59, 60, 61, 62, 63, 64, 65] (by decide +kernel) (by decide +kernel)
set_option maxRecDepth 20000 in
theorem gX6_readRows_X6_remember : GoodIn wsX6_readRows (wsV RX6 81 RX6 yX6_remember wsX6_remember) := goodIn_app (goodIn_of _ (by decide +kernel)) ggX6_readRows_X6_remember
set_option maxRecDepth 20000 in
theorem ggX6_readRows_X6_puts : GoodIn wsX6_readRows wsX6_puts := goodIn_r _ [39, 1, 46, 47, 48, 49, 50, 51, 52, 53, 54, 55, 56, 57, 58, 59, 60, 61, 62, 63, 64, 65] (by decide +kernel) (by decide +kernel)
set_option maxRecDepth 20000 in
theorem gX6_readRows_X6_puts : GoodIn wsX6_readRows (wsV RX6 84 RX6 yX6_puts wsX6_puts) := goodIn_app (goodIn_of _ (by decide +kernel)) ggX6_readRows_X6_puts
set_option maxRecDepth 20000 in
theorem ggX6_readRows_X6_acted : GoodIn wsX6_readRows wsX6_acted := goodIn_r _ [43, 44, 45, 35, 46, 47, 48, 49, 50, 51, 52, 53, 54, 55, 56, 57, 58, 59, 60, 61, 62, 63, 64, 65] (by decide +kernel) (by decide +kernel)
set_option maxRecDepth 20000 in
theorem gX6_readRows_X6_acted : GoodIn wsX6_readRows (wsV RX6 88 RX6 yX6_acted wsX6_acted) := goodIn_app (goodIn_of _ (by decide +kernel)) ggX6_readRows_X6_acted
theorem dX6_readRows_0 : decode cX6_readRows 0 = .ok (.aload_n 0, 1) := by decide +kernel
theorem dX6_readRows_1 : decode cX6_readRows 1 = .ok (.invokevirtual 140, 3) := by decide +kernel
theorem dX6_readRows_4 : decode cX6_readRows 4 = .ok (.istore_n 1, 1) := by decide +kernel
theorem dX6_readRows_5 : decode cX6_readRows 5 = .ok (.iload_n 1, 1) := by decide +kernel
theorem dX6_readRows_6 : decode cX6_readRows 6 = .ok (.bipush (-5), 2) := by decide +kernel
theorem dX6_readRows_8 : decode cX6_readRows 8 = .ok (.if_icmp .eq 8, 3) := by decide +kernel
theorem dX6_readRows_11 : decode cX6_readRows 11 = .ok (.bipush (-100), 2) := by decide +kernel
theorem dX6_readRows_13 : decode cX6_readRows 13 = .ok (.iload_n 1, 1) := by decide +kernel
theorem dX6_readRows_14 : decode cX6_readRows 14 = .ok (.isub, 1) := by decide +kernel
theorem dX6_readRows_15 : decode cX6_readRows 15 = .ok (.ireturn, 1) := by decide +kernel
theorem dX6_readRows_16 : decode cX6_readRows 16 = .ok (.aload_n 0, 1) := by decide +kernel
theorem dX6_readRows_17 : decode cX6_readRows 17 = .ok (.getfield 7, 3) := by decide +kernel
theorem dX6_readRows_20 : decode cX6_readRows 20 = .ok (.iconst 0, 1) := by decide +kernel
theorem dX6_readRows_21 : decode cX6_readRows 21 = .ok (.iaload, 1) := by decide +kernel
theorem dX6_readRows_22 : decode cX6_readRows 22 = .ok (.aload_n 0, 1) := by decide +kernel
theorem dX6_readRows_23 : decode cX6_readRows 23 = .ok (.getfield 126, 3) := by decide +kernel
theorem dX6_readRows_26 : decode cX6_readRows 26 = .ok (.iadd, 1) := by decide +kernel
theorem dX6_readRows_27 : decode cX6_readRows 27 = .ok (.bipush 20, 2) := by decide +kernel
theorem dX6_readRows_29 : decode cX6_readRows 29 = .ok (.if_icmp .le 6, 3) := by decide +kernel
theorem dX6_readRows_32 : decode cX6_readRows 32 = .ok (.bipush (-3), 2) := by decide +kernel
theorem dX6_readRows_34 : decode cX6_readRows 34 = .ok (.ireturn, 1) := by decide +kernel
theorem dX6_readRows_35 : decode cX6_readRows 35 = .ok (.aload_n 0, 1) := by decide +kernel
theorem dX6_readRows_36 : decode cX6_readRows 36 = .ok (.invokevirtual 81, 3) := by decide +kernel
theorem dX6_readRows_39 : decode cX6_readRows 39 = .ok (.iconst 0, 1) := by decide +kernel
theorem dX6_readRows_40 : decode cX6_readRows 40 = .ok (.istore_n 2, 1) := by decide +kernel
theorem dX6_readRows_41 : decode cX6_readRows 41 = .ok (.iload_n 2, 1) := by decide +kernel
theorem dX6_readRows_42 : decode cX6_readRows 42 = .ok (.iconst 4, 1) := by decide +kernel
theorem dX6_readRows_43 : decode cX6_readRows 43 = .ok (.aload_n 0, 1) := by decide +kernel
theorem dX6_readRows_44 : decode cX6_readRows 44 = .ok (.getfield 126, 3) := by decide +kernel
theorem dX6_readRows_47 : decode cX6_readRows 47 = .ok (.imul, 1) := by decide +kernel
theorem dX6_readRows_48 : decode cX6_readRows 48 = .ok (.if_icmp .ge 43, 3) := by decide +kernel
theorem dX6_readRows_51 : decode cX6_readRows 51 = .ok (.aload_n 0, 1) := by decide +kernel
theorem dX6_readRows_52 : decode cX6_readRows 52 = .ok (.aload_n 0, 1) := by decide +kernel
theorem dX6_readRows_53 : decode cX6_readRows 53 = .ok (.getfield 38, 3) := by decide +kernel
theorem dX6_readRows_56 : decode cX6_readRows 56 = .ok (.iload_n 2, 1) := by decide +kernel
theorem dX6_readRows_57 : decode cX6_readRows 57 = .ok (.iaload, 1) := by decide +kernel
theorem dX6_readRows_58 : decode cX6_readRows 58 = .ok (.aload_n 0, 1) := by decide +kernel
theorem dX6_readRows_59 : decode cX6_readRows 59 = .ok (.getfield 38, 3) := by decide +kernel
theorem dX6_readRows_62 : decode cX6_readRows 62 = .ok (.iload_n 2, 1) := by decide +kernel
theorem dX6_readRows_63 : decode cX6_readRows 63 = .ok (.iconst 1, 1) := by decide +kernel
theorem dX6_readRows_64 : decode cX6_readRows 64 = .ok (.iadd, 1) := by decide +kernel
theorem dX6_readRows_65 : decode cX6_readRows 65 = .ok (.iaload, 1) := by decide +kernel
theorem dX6_readRows_66 : decode cX6_readRows 66 = .ok (.aload_n 0, 1) := by decide +kernel
theorem dX6_readRows_67 : decode cX6_readRows 67 = .ok (.getfield 38, 3) := by decide +kernel
theorem dX6_readRows_70 : decode cX6_readRows 70 = .ok (.iload_n 2, 1) := by decide +kernel
theorem dX6_readRows_71 : decode cX6_readRows 71 = .ok (.iconst 2, 1) := by decide +kernel
theorem dX6_readRows_72 : decode cX6_readRows 72 = .ok (.iadd, 1) := by decide +kernel
theorem dX6_readRows_73 : decode cX6_readRows 73 = .ok (.iaload, 1) := by decide +kernel
theorem dX6_readRows_74 : decode cX6_readRows 74 = .ok (.aload_n 0, 1) := by decide +kernel
theorem dX6_readRows_75 : decode cX6_readRows 75 = .ok (.getfield 38, 3) := by decide +kernel
theorem dX6_readRows_78 : decode cX6_readRows 78 = .ok (.iload_n 2, 1) := by decide +kernel
theorem dX6_readRows_79 : decode cX6_readRows 79 = .ok (.iconst 3, 1) := by decide +kernel
theorem dX6_readRows_80 : decode cX6_readRows 80 = .ok (.iadd, 1) := by decide +kernel
theorem dX6_readRows_81 : decode cX6_readRows 81 = .ok (.iaload, 1) := by decide +kernel
theorem dX6_readRows_82 : decode cX6_readRows 82 = .ok (.invokevirtual 84, 3) := by decide +kernel
theorem dX6_readRows_85 : decode cX6_readRows 85 = .ok (.iinc 2 4, 3) := by decide +kernel
theorem dX6_readRows_88 : decode cX6_readRows 88 = .ok (.goto (-47), 3) := by decide +kernel
theorem dX6_readRows_91 : decode cX6_readRows 91 = .ok (.aload_n 0, 1) := by decide +kernel
theorem dX6_readRows_92 : decode cX6_readRows 92 = .ok (.aload_n 0, 1) := by decide +kernel
theorem dX6_readRows_93 : decode cX6_readRows 93 = .ok (.getfield 7, 3) := by decide +kernel
theorem dX6_readRows_96 : decode cX6_readRows 96 = .ok (.iconst 0, 1) := by decide +kernel
theorem dX6_readRows_97 : decode cX6_readRows 97 = .ok (.iaload, 1) := by decide +kernel
theorem dX6_readRows_98 : decode cX6_readRows 98 = .ok (.invokevirtual 88, 3) := by decide +kernel
theorem dX6_readRows_101 : decode cX6_readRows 101 = .ok (.ireturn, 1) := by decide +kernel
theorem dX6_undo_0 : decode cX6_undo 0 = .ok (.aload_n 0, 1) := by decide +kernel
theorem dX6_undo_1 : decode cX6_undo 1 = .ok (.getfield 44, 3) := by decide +kernel
theorem dX6_undo_4 : decode cX6_undo 4 = .ok (.ifCond .ne 6, 3) := by decide +kernel
theorem dX6_undo_7 : decode cX6_undo 7 = .ok (.bipush (-5), 2) := by decide +kernel
theorem dX6_undo_9 : decode cX6_undo 9 = .ok (.ireturn, 1) := by decide +kernel
theorem dX6_undo_10 : decode cX6_undo 10 = .ok (.aload_n 0, 1) := by decide +kernel
theorem dX6_undo_11 : decode cX6_undo 11 = .ok (.dup, 1) := by decide +kernel
theorem dX6_undo_12 : decode cX6_undo 12 = .ok (.getfield 44, 3) := by decide +kernel
theorem dX6_undo_15 : decode cX6_undo 15 = .ok (.iconst 1, 1) := by decide +kernel
theorem dX6_undo_16 : decode cX6_undo 16 = .ok (.isub, 1) := by decide +kernel
theorem dX6_undo_17 : decode cX6_undo 17 = .ok (.putfield 44, 3) := by decide +kernel
theorem dX6_undo_20 : decode cX6_undo 20 = .ok (.iconst 0, 1) := by decide +kernel
theorem dX6_undo_21 : decode cX6_undo 21 = .ok (.istore_n 1, 1) := by decide +kernel
theorem dX6_undo_22 : decode cX6_undo 22 = .ok (.iload_n 1, 1) := by decide +kernel
theorem dX6_undo_23 : decode cX6_undo 23 = .ok (.bipush 82, 2) := by decide +kernel
theorem dX6_undo_25 : decode cX6_undo 25 = .ok (.if_icmp .ge 29, 3) := by decide +kernel
theorem dX6_undo_28 : decode cX6_undo 28 = .ok (.aload_n 0, 1) := by decide +kernel
theorem dX6_undo_29 : decode cX6_undo 29 = .ok (.getfield 7, 3) := by decide +kernel
theorem dX6_undo_32 : decode cX6_undo 32 = .ok (.iload_n 1, 1) := by decide +kernel
theorem dX6_undo_33 : decode cX6_undo 33 = .ok (.aload_n 0, 1) := by decide +kernel
theorem dX6_undo_34 : decode cX6_undo 34 = .ok (.getfield 16, 3) := by decide +kernel
theorem dX6_undo_37 : decode cX6_undo 37 = .ok (.bipush 82, 2) := by decide +kernel
theorem dX6_undo_39 : decode cX6_undo 39 = .ok (.aload_n 0, 1) := by decide +kernel
theorem dX6_undo_40 : decode cX6_undo 40 = .ok (.getfield 44, 3) := by decide +kernel
theorem dX6_undo_43 : decode cX6_undo 43 = .ok (.imul, 1) := by decide +kernel
theorem dX6_undo_44 : decode cX6_undo 44 = .ok (.iload_n 1, 1) := by decide +kernel
theorem dX6_undo_45 : decode cX6_undo 45 = .ok (.iadd, 1) := by decide +kernel
theorem dX6_undo_46 : decode cX6_undo 46 = .ok (.iaload, 1) := by decide +kernel
theorem dX6_undo_47 : decode cX6_undo 47 = .ok (.iastore, 1) := by decide +kernel
theorem dX6_undo_48 : decode cX6_undo 48 = .ok (.iinc 1 1, 3) := by decide +kernel
theorem dX6_undo_51 : decode cX6_undo 51 = .ok (.goto (-29), 3) := by decide +kernel
theorem dX6_undo_54 : decode cX6_undo 54 = .ok (.aload_n 0, 1) := by decide +kernel
theorem dX6_undo_55 : decode cX6_undo 55 = .ok (.getfield 44, 3) := by decide +kernel
theorem dX6_undo_58 : decode cX6_undo 58 = .ok (.ireturn, 1) := by decide +kernel
theorem dX6_keep_0 : decode cX6_keep 0 = .ok (.iconst 0, 1) := by decide +kernel
theorem dX6_keep_1 : decode cX6_keep 1 = .ok (.istore_n 1, 1) := by decide +kernel
theorem dX6_keep_2 : decode cX6_keep 2 = .ok (.iload_n 1, 1) := by decide +kernel
theorem dX6_keep_3 : decode cX6_keep 3 = .ok (.bipush 82, 2) := by decide +kernel
theorem dX6_keep_5 : decode cX6_keep 5 = .ok (.if_icmp .ge 21, 3) := by decide +kernel
theorem dX6_keep_8 : decode cX6_keep 8 = .ok (.aload_n 0, 1) := by decide +kernel
theorem dX6_keep_9 : decode cX6_keep 9 = .ok (.getfield 19, 3) := by decide +kernel
theorem dX6_keep_12 : decode cX6_keep 12 = .ok (.iload_n 1, 1) := by decide +kernel
theorem dX6_keep_13 : decode cX6_keep 13 = .ok (.aload_n 0, 1) := by decide +kernel
theorem dX6_keep_14 : decode cX6_keep 14 = .ok (.getfield 7, 3) := by decide +kernel
theorem dX6_keep_17 : decode cX6_keep 17 = .ok (.iload_n 1, 1) := by decide +kernel
theorem dX6_keep_18 : decode cX6_keep 18 = .ok (.iaload, 1) := by decide +kernel
theorem dX6_keep_19 : decode cX6_keep 19 = .ok (.iastore, 1) := by decide +kernel
theorem dX6_keep_20 : decode cX6_keep 20 = .ok (.iinc 1 1, 3) := by decide +kernel
theorem dX6_keep_23 : decode cX6_keep 23 = .ok (.goto (-21), 3) := by decide +kernel
theorem dX6_keep_26 : decode cX6_keep 26 = .ok (.aload_n 0, 1) := by decide +kernel
theorem dX6_keep_27 : decode cX6_keep 27 = .ok (.iconst 1, 1) := by decide +kernel
theorem dX6_keep_28 : decode cX6_keep 28 = .ok (.putfield 143, 3) := by decide +kernel
theorem dX6_keep_31 : decode cX6_keep 31 = .ok (.aload_n 0, 1) := by decide +kernel
theorem dX6_keep_32 : decode cX6_keep 32 = .ok (.getfield 7, 3) := by decide +kernel
theorem dX6_keep_35 : decode cX6_keep 35 = .ok (.iconst 0, 1) := by decide +kernel
theorem dX6_keep_36 : decode cX6_keep 36 = .ok (.iaload, 1) := by decide +kernel
theorem dX6_keep_37 : decode cX6_keep 37 = .ok (.ireturn, 1) := by decide +kernel
set_option maxRecDepth 20000 in
theorem ggX6_restore_X6_remember : GoodIn wsX6_restore wsX6_remember := goodIn_r _ [8, 9, 2, 16, 17, 18, 19, 20, 21, 22, 23, 24, 25, 26, 27, 28, 29, 30, 31, 32, 33, 34, 35] (by decide +kernel) (by decide +kernel)
set_option maxRecDepth 20000 in
theorem gX6_restore_X6_remember : GoodIn wsX6_restore (wsV RX6 81 RX6 yX6_remember wsX6_remember) := goodIn_app (goodIn_of _ (by decide +kernel)) ggX6_restore_X6_remember
set_option maxRecDepth 20000 in
theorem ggX6_restore_X6_acted : GoodIn wsX6_restore wsX6_acted := goodIn_r _ [13, 14, 15, 9, 16, 17, 18, 19, 20, 21, 22, 23, 24, 25, 26, 27, 28, 29, 30, 31, 32, 33, 34, 35] (by decide +kernel) (by decide +kernel)
set_option maxRecDepth 20000 in
theorem gX6_restore_X6_acted : GoodIn wsX6_restore (wsV RX6 88 RX6 yX6_acted wsX6_acted) := goodIn_app (goodIn_of _ (by decide +kernel)) ggX6_restore_X6_acted
theorem dX6_restore_0 : decode cX6_restore 0 = .ok (.aload_n 0, 1) := by decide +kernel
theorem dX6_restore_1 : decode cX6_restore 1 = .ok (.getfield 143, 3) := by decide +kernel
theorem dX6_restore_4 : decode cX6_restore 4 = .ok (.ifCond .ne 6, 3) := by decide +kernel
theorem dX6_restore_7 : decode cX6_restore 7 = .ok (.bipush (-5), 2) := by decide +kernel
theorem dX6_restore_9 : decode cX6_restore 9 = .ok (.ireturn, 1) := by decide +kernel
theorem dX6_restore_10 : decode cX6_restore 10 = .ok (.aload_n 0, 1) := by decide +kernel
theorem dX6_restore_11 : decode cX6_restore 11 = .ok (.invokevirtual 81, 3) := by decide +kernel
theorem dX6_restore_14 : decode cX6_restore 14 = .ok (.iconst 0, 1) := by decide +kernel
theorem dX6_restore_15 : decode cX6_restore 15 = .ok (.istore_n 1, 1) := by decide +kernel
theorem dX6_restore_16 : decode cX6_restore 16 = .ok (.iload_n 1, 1) := by decide +kernel
theorem dX6_restore_17 : decode cX6_restore 17 = .ok (.bipush 82, 2) := by decide +kernel
theorem dX6_restore_19 : decode cX6_restore 19 = .ok (.if_icmp .ge 21, 3) := by decide +kernel
theorem dX6_restore_22 : decode cX6_restore 22 = .ok (.aload_n 0, 1) := by decide +kernel
theorem dX6_restore_23 : decode cX6_restore 23 = .ok (.getfield 7, 3) := by decide +kernel
theorem dX6_restore_26 : decode cX6_restore 26 = .ok (.iload_n 1, 1) := by decide +kernel
theorem dX6_restore_27 : decode cX6_restore 27 = .ok (.aload_n 0, 1) := by decide +kernel
theorem dX6_restore_28 : decode cX6_restore 28 = .ok (.getfield 19, 3) := by decide +kernel
theorem dX6_restore_31 : decode cX6_restore 31 = .ok (.iload_n 1, 1) := by decide +kernel
theorem dX6_restore_32 : decode cX6_restore 32 = .ok (.iaload, 1) := by decide +kernel
theorem dX6_restore_33 : decode cX6_restore 33 = .ok (.iastore, 1) := by decide +kernel
theorem dX6_restore_34 : decode cX6_restore 34 = .ok (.iinc 1 1, 3) := by decide +kernel
theorem dX6_restore_37 : decode cX6_restore 37 = .ok (.goto (-21), 3) := by decide +kernel
theorem dX6_restore_40 : decode cX6_restore 40 = .ok (.aload_n 0, 1) := by decide +kernel
theorem dX6_restore_41 : decode cX6_restore 41 = .ok (.aload_n 0, 1) := by decide +kernel
theorem dX6_restore_42 : decode cX6_restore 42 = .ok (.getfield 7, 3) := by decide +kernel
theorem dX6_restore_45 : decode cX6_restore 45 = .ok (.iconst 0, 1) := by decide +kernel
theorem dX6_restore_46 : decode cX6_restore 46 = .ok (.iaload, 1) := by decide +kernel
theorem dX6_restore_47 : decode cX6_restore 47 = .ok (.invokevirtual 88, 3) := by decide +kernel
theorem dX6_restore_50 : decode cX6_restore 50 = .ok (.ireturn, 1) := by decide +kernel
set_option maxRecDepth 20000 in
theorem ggX6_isSure_X6_findsChoices : GoodIn wsX6_isSure wsX6_findsChoices := goodIn_r _ [6, 1, 7, 8, 9, 10, 11, 12, 5, 13, 14, 15, 16, 17, 18, 19, 20, 21, 22, 23, 24, 25, 26, 27, 28, 29, 30, 31, 32, 33, 34, 35, 36, 37, 38, 39, 40, 41] (by decide +kernel) (by decide +kernel)
set_option maxRecDepth 20000 in
theorem gX6_isSure_X6_findsChoices : GoodIn wsX6_isSure (wsV RX6 109 RX6 yX6_findsChoices wsX6_findsChoices) := goodIn_app (goodIn_of _ (by decide +kernel)) ggX6_isSure_X6_findsChoices
set_option maxRecDepth 20000 in
theorem ggX6_isSure_X6_canBeKept : GoodIn wsX6_isSure wsX6_canBeKept := goodIn_r _ [17, 7, 10, 11, 12, 5, 13, 18, 19, 20, 21, 22, 23, 24, 25, 26, 27, 28, 29, 30, 31, 32, 33, 34, 35, 36, 37, 38, 39, 40, 41] (by decide +kernel) (by decide +kernel)
set_option maxRecDepth 20000 in
theorem gX6_isSure_X6_canBeKept : GoodIn wsX6_isSure (wsV RX6 65 RX6 yX6_canBeKept wsX6_canBeKept) := goodIn_app (goodIn_of _ (by decide +kernel)) ggX6_isSure_X6_canBeKept
set_option maxRecDepth 20000 in
theorem ggX6_isSure_X6_of : GoodIn wsX6_isSure wsX6_of := goodIn_r _ [13, 7, 22, 23, 24, 25, 26, 27, 28, 29, 30, 31, 32, 33, 34, 35, 36, 37, 38, 39, 40, 41] (by decide +kernel) (by decide +kernel)
set_option maxRecDepth 20000 in
theorem gX6_isSure_X6_of : GoodIn wsX6_isSure (wsV RX6 53 RX6 yX6_of wsX6_of) := goodIn_app (goodIn_of _ (by decide +kernel)) ggX6_isSure_X6_of
theorem dX6_isSure_0 : decode cX6_isSure 0 = .ok (.aload_n 0, 1) := by decide +kernel
theorem dX6_isSure_1 : decode cX6_isSure 1 = .ok (.invokevirtual 109, 3) := by decide +kernel
theorem dX6_isSure_4 : decode cX6_isSure 4 = .ok (.aload_n 0, 1) := by decide +kernel
theorem dX6_isSure_5 : decode cX6_isSure 5 = .ok (.iload_n 1, 1) := by decide +kernel
theorem dX6_isSure_6 : decode cX6_isSure 6 = .ok (.invokevirtual 65, 3) := by decide +kernel
theorem dX6_isSure_9 : decode cX6_isSure 9 = .ok (.ifCond .eq 22, 3) := by decide +kernel
theorem dX6_isSure_12 : decode cX6_isSure 12 = .ok (.aload_n 0, 1) := by decide +kernel
theorem dX6_isSure_13 : decode cX6_isSure 13 = .ok (.getfield 25, 3) := by decide +kernel
theorem dX6_isSure_16 : decode cX6_isSure 16 = .ok (.aload_n 0, 1) := by decide +kernel
theorem dX6_isSure_17 : decode cX6_isSure 17 = .ok (.iload_n 1, 1) := by decide +kernel
theorem dX6_isSure_18 : decode cX6_isSure 18 = .ok (.iconst 0, 1) := by decide +kernel
theorem dX6_isSure_19 : decode cX6_isSure 19 = .ok (.invokevirtual 53, 3) := by decide +kernel
theorem dX6_isSure_22 : decode cX6_isSure 22 = .ok (.iaload, 1) := by decide +kernel
theorem dX6_isSure_23 : decode cX6_isSure 23 = .ok (.iconst 1, 1) := by decide +kernel
theorem dX6_isSure_24 : decode cX6_isSure 24 = .ok (.if_icmp .ne 7, 3) := by decide +kernel
theorem dX6_isSure_27 : decode cX6_isSure 27 = .ok (.iconst 1, 1) := by decide +kernel
theorem dX6_isSure_28 : decode cX6_isSure 28 = .ok (.goto 4, 3) := by decide +kernel
theorem dX6_isSure_31 : decode cX6_isSure 31 = .ok (.iconst 0, 1) := by decide +kernel
theorem dX6_isSure_32 : decode cX6_isSure 32 = .ok (.ireturn, 1) := by decide +kernel
set_option maxRecDepth 20000 in
theorem ggX6_row_X6_isRow : GoodIn wsX6_row wsX6_isRow := goodIn_r _ [5, 6, 7, 8, 4, 9, 33, 34, 35, 36, 37, 38, 39, 40, 41, 42, 43, 44, 45, 46, 47, 48, 49, 50, 51, 52] (by decide +kernel) (by decide +kernel)
set_option maxRecDepth 20000 in
theorem gX6_row_X6_isRow : GoodIn wsX6_row (wsV RX6 92 RX6 yX6_isRow wsX6_isRow) := goodIn_app (goodIn_of _ (by decide +kernel)) ggX6_row_X6_isRow
set_option maxRecDepth 20000 in
theorem ggX6_row_X6_of : GoodIn wsX6_row wsX6_of := goodIn_r _ [13, 6, 33, 34, 35, 36, 37, 38, 39, 40, 41, 42, 43, 44, 45, 46, 47, 48, 49, 50, 51, 52] (by decide +kernel) (by decide +kernel)
set_option maxRecDepth 20000 in
theorem gX6_row_X6_of : GoodIn wsX6_row (wsV RX6 53 RX6 yX6_of wsX6_of) := goodIn_app (goodIn_of _ (by decide +kernel)) ggX6_row_X6_of
set_option maxRecDepth 20000 in
theorem ggX6_row_X6_canBeKept : GoodIn wsX6_row wsX6_canBeKept := goodIn_r _ [17, 6, 10, 11, 12, 4, 13, 18, 19, 20, 21, 33, 34, 35, 36, 37, 38, 39, 40, 41, 42, 43, 44, 45, 46, 47, 48, 49, 50, 51, 52] (by decide +kernel) (by decide +kernel)
set_option maxRecDepth 20000 in
theorem gX6_row_X6_canBeKept : GoodIn wsX6_row (wsV RX6 65 RX6 yX6_canBeKept wsX6_canBeKept) := goodIn_app (goodIn_of _ (by decide +kernel)) ggX6_row_X6_canBeKept
set_option maxRecDepth 20000 in
theorem ggX6_row_X6_isSure : GoodIn wsX6_row wsX6_isSure := goodIn_r _ [25, 26, 27, 28, 29, 4, 30, 6, 31, 32, 10, 11, 12, 13, 14, 15, 16, 17, 18, 19, 20, 21, 33, 34, 35, 36, 37, 38, 39, 40, 41, 42, 43, 44, 45, 46, 47, 48, 49, 50, 51, 52] (by decide +kernel) (by decide +kernel)
set_option maxRecDepth 20000 in
theorem gX6_row_X6_isSure : GoodIn wsX6_row (wsV RX6 146 RX6 yX6_isSure wsX6_isSure) := goodIn_app (goodIn_of _ (by decide +kernel)) ggX6_row_X6_isSure
theorem dX6_row_0 : decode cX6_row 0 = .ok (.aload_n 0, 1) := by decide +kernel
theorem dX6_row_1 : decode cX6_row 1 = .ok (.iload_n 1, 1) := by decide +kernel
theorem dX6_row_2 : decode cX6_row 2 = .ok (.invokevirtual 92, 3) := by decide +kernel
theorem dX6_row_5 : decode cX6_row 5 = .ok (.ifCond .ne 5, 3) := by decide +kernel
theorem dX6_row_8 : decode cX6_row 8 = .ok (.iconst (-1), 1) := by decide +kernel
theorem dX6_row_9 : decode cX6_row 9 = .ok (.ireturn, 1) := by decide +kernel
theorem dX6_row_10 : decode cX6_row 10 = .ok (.iload_n 2, 1) := by decide +kernel
theorem dX6_row_11 : decode cX6_row 11 = .ok (.tableswitch 82 0 5 #[37, 44, 37, 37, 54, 68], 37) := by decide +kernel
theorem dX6_row_48 : decode cX6_row 48 = .ok (.aload_n 0, 1) := by decide +kernel
theorem dX6_row_49 : decode cX6_row 49 = .ok (.iload_n 1, 1) := by decide +kernel
theorem dX6_row_50 : decode cX6_row 50 = .ok (.iload_n 2, 1) := by decide +kernel
theorem dX6_row_51 : decode cX6_row 51 = .ok (.invokevirtual 53, 3) := by decide +kernel
theorem dX6_row_54 : decode cX6_row 54 = .ok (.ireturn, 1) := by decide +kernel
theorem dX6_row_55 : decode cX6_row 55 = .ok (.bipush 97, 2) := by decide +kernel
theorem dX6_row_57 : decode cX6_row 57 = .ok (.aload_n 0, 1) := by decide +kernel
theorem dX6_row_58 : decode cX6_row 58 = .ok (.iload_n 1, 1) := by decide +kernel
theorem dX6_row_59 : decode cX6_row 59 = .ok (.iconst 1, 1) := by decide +kernel
theorem dX6_row_60 : decode cX6_row 60 = .ok (.invokevirtual 53, 3) := by decide +kernel
theorem dX6_row_63 : decode cX6_row 63 = .ok (.iadd, 1) := by decide +kernel
theorem dX6_row_64 : decode cX6_row 64 = .ok (.ireturn, 1) := by decide +kernel
theorem dX6_row_65 : decode cX6_row 65 = .ok (.aload_n 0, 1) := by decide +kernel
theorem dX6_row_66 : decode cX6_row 66 = .ok (.iload_n 1, 1) := by decide +kernel
theorem dX6_row_67 : decode cX6_row 67 = .ok (.invokevirtual 65, 3) := by decide +kernel
theorem dX6_row_70 : decode cX6_row 70 = .ok (.ifCond .eq 7, 3) := by decide +kernel
theorem dX6_row_73 : decode cX6_row 73 = .ok (.iconst 1, 1) := by decide +kernel
theorem dX6_row_74 : decode cX6_row 74 = .ok (.goto 4, 3) := by decide +kernel
theorem dX6_row_77 : decode cX6_row 77 = .ok (.iconst 0, 1) := by decide +kernel
theorem dX6_row_78 : decode cX6_row 78 = .ok (.ireturn, 1) := by decide +kernel
theorem dX6_row_79 : decode cX6_row 79 = .ok (.aload_n 0, 1) := by decide +kernel
theorem dX6_row_80 : decode cX6_row 80 = .ok (.iload_n 1, 1) := by decide +kernel
theorem dX6_row_81 : decode cX6_row 81 = .ok (.invokevirtual 146, 3) := by decide +kernel
theorem dX6_row_84 : decode cX6_row 84 = .ok (.ifCond .eq 7, 3) := by decide +kernel
theorem dX6_row_87 : decode cX6_row 87 = .ok (.iconst 1, 1) := by decide +kernel
theorem dX6_row_88 : decode cX6_row 88 = .ok (.goto 4, 3) := by decide +kernel
theorem dX6_row_91 : decode cX6_row 91 = .ok (.iconst 0, 1) := by decide +kernel
theorem dX6_row_92 : decode cX6_row 92 = .ok (.ireturn, 1) := by decide +kernel
theorem dX6_row_93 : decode cX6_row 93 = .ok (.bipush (-2), 2) := by decide +kernel
theorem dX6_row_95 : decode cX6_row 95 = .ok (.ireturn, 1) := by decide +kernel
set_option maxRecDepth 20000 in
theorem ggX6_pointing_X6_of : GoodIn wsX6_pointing wsX6_of := goodIn_r _ [6, 1, 7, 8, 9, 10, 11, 12, 13, 14, 15, 16, 17, 18, 19, 20, 21, 22, 23, 24, 25, 26] (by decide +kernel) (by decide +kernel)
set_option maxRecDepth 20000 in
theorem gX6_pointing_X6_of : GoodIn wsX6_pointing (wsV RX6 53 RX6 yX6_of wsX6_of) := goodIn_app (goodIn_of _ (by decide +kernel)) ggX6_pointing_X6_of
theorem dX6_pointing_0 : decode cX6_pointing 0 = .ok (.iconst 0, 1) := by decide +kernel
theorem dX6_pointing_1 : decode cX6_pointing 1 = .ok (.istore_n 2, 1) := by decide +kernel
theorem dX6_pointing_2 : decode cX6_pointing 2 = .ok (.iconst 0, 1) := by decide +kernel
theorem dX6_pointing_3 : decode cX6_pointing 3 = .ok (.istore_n 3, 1) := by decide +kernel
theorem dX6_pointing_4 : decode cX6_pointing 4 = .ok (.iload_n 3, 1) := by decide +kernel
theorem dX6_pointing_5 : decode cX6_pointing 5 = .ok (.aload_n 0, 1) := by decide +kernel
theorem dX6_pointing_6 : decode cX6_pointing 6 = .ok (.getfield 7, 3) := by decide +kernel
theorem dX6_pointing_9 : decode cX6_pointing 9 = .ok (.iconst 0, 1) := by decide +kernel
theorem dX6_pointing_10 : decode cX6_pointing 10 = .ok (.iaload, 1) := by decide +kernel
theorem dX6_pointing_11 : decode cX6_pointing 11 = .ok (.if_icmp .ge 27, 3) := by decide +kernel
theorem dX6_pointing_14 : decode cX6_pointing 14 = .ok (.iload_n 2, 1) := by decide +kernel
theorem dX6_pointing_15 : decode cX6_pointing 15 = .ok (.aload_n 0, 1) := by decide +kernel
theorem dX6_pointing_16 : decode cX6_pointing 16 = .ok (.iload_n 3, 1) := by decide +kernel
theorem dX6_pointing_17 : decode cX6_pointing 17 = .ok (.iconst 3, 1) := by decide +kernel
theorem dX6_pointing_18 : decode cX6_pointing 18 = .ok (.invokevirtual 53, 3) := by decide +kernel
theorem dX6_pointing_21 : decode cX6_pointing 21 = .ok (.iload_n 1, 1) := by decide +kernel
theorem dX6_pointing_22 : decode cX6_pointing 22 = .ok (.if_icmp .ne 7, 3) := by decide +kernel
theorem dX6_pointing_25 : decode cX6_pointing 25 = .ok (.iconst 1, 1) := by decide +kernel
theorem dX6_pointing_26 : decode cX6_pointing 26 = .ok (.goto 4, 3) := by decide +kernel
theorem dX6_pointing_29 : decode cX6_pointing 29 = .ok (.iconst 0, 1) := by decide +kernel
theorem dX6_pointing_30 : decode cX6_pointing 30 = .ok (.iadd, 1) := by decide +kernel
theorem dX6_pointing_31 : decode cX6_pointing 31 = .ok (.istore_n 2, 1) := by decide +kernel
theorem dX6_pointing_32 : decode cX6_pointing 32 = .ok (.iinc 3 1, 3) := by decide +kernel
theorem dX6_pointing_35 : decode cX6_pointing 35 = .ok (.goto (-31), 3) := by decide +kernel
theorem dX6_pointing_38 : decode cX6_pointing 38 = .ok (.iload_n 2, 1) := by decide +kernel
theorem dX6_pointing_39 : decode cX6_pointing 39 = .ok (.ireturn, 1) := by decide +kernel
set_option maxRecDepth 20000 in
theorem ggX6_key_X6_isKey : GoodIn wsX6_key wsX6_isKey := goodIn_r _ [5, 6, 7, 8, 4, 9] (by decide +kernel) (by decide +kernel)
set_option maxRecDepth 20000 in
theorem gX6_key_X6_isKey : GoodIn wsX6_key (va_wsS RX6 73 yX6_isKey wsX6_isKey) := goodIn_app (goodIn_of _ (by decide +kernel)) ggX6_key_X6_isKey
set_option maxRecDepth 20000 in
theorem ggX6_key_X6_findsChoices : GoodIn wsX6_key wsX6_findsChoices := goodIn_r _ [13, 1, 14, 15, 16, 17, 18, 19, 4, 20, 21, 22, 23, 24, 25, 26, 27, 28, 37, 38, 39, 40, 41, 42, 43, 44, 45, 46, 47, 48, 49, 50, 51, 52, 53, 54, 55, 56] (by decide +kernel) (by decide +kernel)
set_option maxRecDepth 20000 in
theorem gX6_key_X6_findsChoices : GoodIn wsX6_key (wsV RX6 109 RX6 yX6_findsChoices wsX6_findsChoices) := goodIn_app (goodIn_of _ (by decide +kernel)) ggX6_key_X6_findsChoices
set_option maxRecDepth 20000 in
theorem ggX6_key_X6_rowsOf : GoodIn wsX6_key wsX6_rowsOf := goodIn_r _ [32, 14, 17, 18, 19, 4, 20, 37, 38, 39, 40, 41, 42, 43, 44, 45, 46, 47, 48, 49, 50, 51, 52, 53, 54, 55, 56] (by decide +kernel) (by decide +kernel)
set_option maxRecDepth 20000 in
theorem gX6_key_X6_rowsOf : GoodIn wsX6_key (wsV RX6 100 RX6 yX6_rowsOf wsX6_rowsOf) := goodIn_app (goodIn_of _ (by decide +kernel)) ggX6_key_X6_rowsOf
set_option maxRecDepth 20000 in
theorem ggX6_key_X6_outermost : GoodIn wsX6_key wsX6_outermost := goodIn_r _ [28, 14, 17, 18, 19, 4, 20, 37, 38, 39, 40, 41, 42, 43, 44, 45, 46, 47, 48, 49, 50, 51, 52, 53, 54, 55, 56] (by decide +kernel) (by decide +kernel)
set_option maxRecDepth 20000 in
theorem gX6_key_X6_outermost : GoodIn wsX6_key (wsV RX6 57 RX6 yX6_outermost wsX6_outermost) := goodIn_app (goodIn_of _ (by decide +kernel)) ggX6_key_X6_outermost
set_option maxRecDepth 20000 in
theorem ggX6_key_X6_pointing : GoodIn wsX6_key wsX6_pointing := goodIn_r _ [36, 14, 17, 18, 19, 4, 20, 37, 38, 39, 40, 41, 42, 43, 44, 45, 46, 47, 48, 49, 50, 51, 52, 53, 54, 55, 56] (by decide +kernel) (by decide +kernel)
set_option maxRecDepth 20000 in
theorem gX6_key_X6_pointing : GoodIn wsX6_key (wsV RX6 149 RX6 yX6_pointing wsX6_pointing) := goodIn_app (goodIn_of _ (by decide +kernel)) ggX6_key_X6_pointing
theorem dX6_key_0 : decode cX6_key 0 = .ok (.iload_n 1, 1) := by decide +kernel
theorem dX6_key_1 : decode cX6_key 1 = .ok (.invokestatic 73, 3) := by decide +kernel
theorem dX6_key_4 : decode cX6_key 4 = .ok (.ifCond .ne 5, 3) := by decide +kernel
theorem dX6_key_7 : decode cX6_key 7 = .ok (.iconst (-1), 1) := by decide +kernel
theorem dX6_key_8 : decode cX6_key 8 = .ok (.ireturn, 1) := by decide +kernel
theorem dX6_key_9 : decode cX6_key 9 = .ok (.aload_n 0, 1) := by decide +kernel
theorem dX6_key_10 : decode cX6_key 10 = .ok (.invokevirtual 109, 3) := by decide +kernel
theorem dX6_key_13 : decode cX6_key 13 = .ok (.iload_n 2, 1) := by decide +kernel
theorem dX6_key_14 : decode cX6_key 14 = .ok (.tableswitch 67 0 4 #[34, 40, 47, 54, 61], 34) := by decide +kernel
theorem dX6_key_48 : decode cX6_key 48 = .ok (.aload_n 0, 1) := by decide +kernel
theorem dX6_key_49 : decode cX6_key 49 = .ok (.iload_n 1, 1) := by decide +kernel
theorem dX6_key_50 : decode cX6_key 50 = .ok (.invokevirtual 100, 3) := by decide +kernel
theorem dX6_key_53 : decode cX6_key 53 = .ok (.ireturn, 1) := by decide +kernel
theorem dX6_key_54 : decode cX6_key 54 = .ok (.aload_n 0, 1) := by decide +kernel
theorem dX6_key_55 : decode cX6_key 55 = .ok (.getfield 25, 3) := by decide +kernel
theorem dX6_key_58 : decode cX6_key 58 = .ok (.iload_n 1, 1) := by decide +kernel
theorem dX6_key_59 : decode cX6_key 59 = .ok (.iaload, 1) := by decide +kernel
theorem dX6_key_60 : decode cX6_key 60 = .ok (.ireturn, 1) := by decide +kernel
theorem dX6_key_61 : decode cX6_key 61 = .ok (.aload_n 0, 1) := by decide +kernel
theorem dX6_key_62 : decode cX6_key 62 = .ok (.iload_n 1, 1) := by decide +kernel
theorem dX6_key_63 : decode cX6_key 63 = .ok (.iconst 0, 1) := by decide +kernel
theorem dX6_key_64 : decode cX6_key 64 = .ok (.invokevirtual 57, 3) := by decide +kernel
theorem dX6_key_67 : decode cX6_key 67 = .ok (.ireturn, 1) := by decide +kernel
theorem dX6_key_68 : decode cX6_key 68 = .ok (.aload_n 0, 1) := by decide +kernel
theorem dX6_key_69 : decode cX6_key 69 = .ok (.iload_n 1, 1) := by decide +kernel
theorem dX6_key_70 : decode cX6_key 70 = .ok (.iconst 1, 1) := by decide +kernel
theorem dX6_key_71 : decode cX6_key 71 = .ok (.invokevirtual 57, 3) := by decide +kernel
theorem dX6_key_74 : decode cX6_key 74 = .ok (.ireturn, 1) := by decide +kernel
theorem dX6_key_75 : decode cX6_key 75 = .ok (.aload_n 0, 1) := by decide +kernel
theorem dX6_key_76 : decode cX6_key 76 = .ok (.iload_n 1, 1) := by decide +kernel
theorem dX6_key_77 : decode cX6_key 77 = .ok (.invokevirtual 149, 3) := by decide +kernel
theorem dX6_key_80 : decode cX6_key 80 = .ok (.ireturn, 1) := by decide +kernel
theorem dX6_key_81 : decode cX6_key 81 = .ok (.bipush (-2), 2) := by decide +kernel
theorem dX6_key_83 : decode cX6_key 83 = .ok (.ireturn, 1) := by decide +kernel
set_option maxRecDepth 20000 in
theorem ggX6_begins_X6_findsChoices : GoodIn wsX6_begins wsX6_findsChoices := goodIn_r _ [9, 10, 11, 12, 13, 14, 15, 16, 8, 17, 18, 19, 20, 21, 22, 23, 24, 25, 26, 27, 28, 29, 30, 31, 32, 33, 34, 35, 36, 37, 38, 39, 40, 41, 42, 43, 44, 45] (by decide +kernel) (by decide +kernel)
set_option maxRecDepth 20000 in
theorem gX6_begins_X6_findsChoices : GoodIn wsX6_begins (wsV RX6 109 RX6 yX6_findsChoices wsX6_findsChoices) := goodIn_app (goodIn_of _ (by decide +kernel)) ggX6_begins_X6_findsChoices
theorem dX6_begins_0 : decode cX6_begins 0 = .ok (.aload_n 0, 1) := by decide +kernel
theorem dX6_begins_1 : decode cX6_begins 1 = .ok (.invokevirtual 109, 3) := by decide +kernel
theorem dX6_begins_4 : decode cX6_begins 4 = .ok (.aload_n 0, 1) := by decide +kernel
theorem dX6_begins_5 : decode cX6_begins 5 = .ok (.iconst 0, 1) := by decide +kernel
theorem dX6_begins_6 : decode cX6_begins 6 = .ok (.putfield 152, 3) := by decide +kernel
theorem dX6_begins_9 : decode cX6_begins 9 = .ok (.aload_n 0, 1) := by decide +kernel
theorem dX6_begins_10 : decode cX6_begins 10 = .ok (.bipush (-5), 2) := by decide +kernel
theorem dX6_begins_12 : decode cX6_begins 12 = .ok (.putfield 155, 3) := by decide +kernel
theorem dX6_begins_15 : decode cX6_begins 15 = .ok (.aload_n 0, 1) := by decide +kernel
theorem dX6_begins_16 : decode cX6_begins 16 = .ok (.bipush (-5), 2) := by decide +kernel
theorem dX6_begins_18 : decode cX6_begins 18 = .ok (.putfield 158, 3) := by decide +kernel
theorem dX6_begins_21 : decode cX6_begins 21 = .ok (.aload_n 0, 1) := by decide +kernel
theorem dX6_begins_22 : decode cX6_begins 22 = .ok (.bipush (-5), 2) := by decide +kernel
theorem dX6_begins_24 : decode cX6_begins 24 = .ok (.putfield 161, 3) := by decide +kernel
theorem dX6_begins_27 : decode cX6_begins 27 = .ok (.return_, 1) := by decide +kernel
theorem dX6_counts_0 : decode cX6_counts 0 = .ok (.aload_n 0, 1) := by decide +kernel
theorem dX6_counts_1 : decode cX6_counts 1 = .ok (.dup, 1) := by decide +kernel
theorem dX6_counts_2 : decode cX6_counts 2 = .ok (.getfield 152, 3) := by decide +kernel
theorem dX6_counts_5 : decode cX6_counts 5 = .ok (.iload_n 2, 1) := by decide +kernel
theorem dX6_counts_6 : decode cX6_counts 6 = .ok (.ifCond .eq 7, 3) := by decide +kernel
theorem dX6_counts_9 : decode cX6_counts 9 = .ok (.iconst 1, 1) := by decide +kernel
theorem dX6_counts_10 : decode cX6_counts 10 = .ok (.goto 4, 3) := by decide +kernel
theorem dX6_counts_13 : decode cX6_counts 13 = .ok (.iconst 0, 1) := by decide +kernel
theorem dX6_counts_14 : decode cX6_counts 14 = .ok (.iadd, 1) := by decide +kernel
theorem dX6_counts_15 : decode cX6_counts 15 = .ok (.putfield 152, 3) := by decide +kernel
theorem dX6_counts_18 : decode cX6_counts 18 = .ok (.aload_n 0, 1) := by decide +kernel
theorem dX6_counts_19 : decode cX6_counts 19 = .ok (.iload_n 2, 1) := by decide +kernel
theorem dX6_counts_20 : decode cX6_counts 20 = .ok (.ifCond .ne 12, 3) := by decide +kernel
theorem dX6_counts_23 : decode cX6_counts 23 = .ok (.aload_n 0, 1) := by decide +kernel
theorem dX6_counts_24 : decode cX6_counts 24 = .ok (.getfield 161, 3) := by decide +kernel
theorem dX6_counts_27 : decode cX6_counts 27 = .ok (.bipush (-5), 2) := by decide +kernel
theorem dX6_counts_29 : decode cX6_counts 29 = .ok (.if_icmp .eq 10, 3) := by decide +kernel
theorem dX6_counts_32 : decode cX6_counts 32 = .ok (.aload_n 0, 1) := by decide +kernel
theorem dX6_counts_33 : decode cX6_counts 33 = .ok (.getfield 161, 3) := by decide +kernel
theorem dX6_counts_36 : decode cX6_counts 36 = .ok (.goto 4, 3) := by decide +kernel
theorem dX6_counts_39 : decode cX6_counts 39 = .ok (.iload_n 1, 1) := by decide +kernel
theorem dX6_counts_40 : decode cX6_counts 40 = .ok (.putfield 161, 3) := by decide +kernel
theorem dX6_counts_43 : decode cX6_counts 43 = .ok (.aload_n 0, 1) := by decide +kernel
theorem dX6_counts_44 : decode cX6_counts 44 = .ok (.iload_n 2, 1) := by decide +kernel
theorem dX6_counts_45 : decode cX6_counts 45 = .ok (.ifCond .eq 24, 3) := by decide +kernel
theorem dX6_counts_48 : decode cX6_counts 48 = .ok (.aload_n 0, 1) := by decide +kernel
theorem dX6_counts_49 : decode cX6_counts 49 = .ok (.getfield 155, 3) := by decide +kernel
theorem dX6_counts_52 : decode cX6_counts 52 = .ok (.bipush (-5), 2) := by decide +kernel
theorem dX6_counts_54 : decode cX6_counts 54 = .ok (.if_icmp .eq 11, 3) := by decide +kernel
theorem dX6_counts_57 : decode cX6_counts 57 = .ok (.iload_n 3, 1) := by decide +kernel
theorem dX6_counts_58 : decode cX6_counts 58 = .ok (.aload_n 0, 1) := by decide +kernel
theorem dX6_counts_59 : decode cX6_counts 59 = .ok (.getfield 155, 3) := by decide +kernel
theorem dX6_counts_62 : decode cX6_counts 62 = .ok (.if_icmp .ge 7, 3) := by decide +kernel
theorem dX6_counts_65 : decode cX6_counts 65 = .ok (.iload_n 3, 1) := by decide +kernel
theorem dX6_counts_66 : decode cX6_counts 66 = .ok (.goto 7, 3) := by decide +kernel
theorem dX6_counts_69 : decode cX6_counts 69 = .ok (.aload_n 0, 1) := by decide +kernel
theorem dX6_counts_70 : decode cX6_counts 70 = .ok (.getfield 155, 3) := by decide +kernel
theorem dX6_counts_73 : decode cX6_counts 73 = .ok (.putfield 155, 3) := by decide +kernel
theorem dX6_counts_76 : decode cX6_counts 76 = .ok (.aload_n 0, 1) := by decide +kernel
theorem dX6_counts_77 : decode cX6_counts 77 = .ok (.iload_n 3, 1) := by decide +kernel
theorem dX6_counts_78 : decode cX6_counts 78 = .ok (.aload_n 0, 1) := by decide +kernel
theorem dX6_counts_79 : decode cX6_counts 79 = .ok (.getfield 158, 3) := by decide +kernel
theorem dX6_counts_82 : decode cX6_counts 82 = .ok (.if_icmp .le 7, 3) := by decide +kernel
theorem dX6_counts_85 : decode cX6_counts 85 = .ok (.iload_n 3, 1) := by decide +kernel
theorem dX6_counts_86 : decode cX6_counts 86 = .ok (.goto 7, 3) := by decide +kernel
theorem dX6_counts_89 : decode cX6_counts 89 = .ok (.aload_n 0, 1) := by decide +kernel
theorem dX6_counts_90 : decode cX6_counts 90 = .ok (.getfield 158, 3) := by decide +kernel
theorem dX6_counts_93 : decode cX6_counts 93 = .ok (.putfield 158, 3) := by decide +kernel
theorem dX6_counts_96 : decode cX6_counts 96 = .ok (.return_, 1) := by decide +kernel
set_option maxRecDepth 20000 in
theorem ggX6_asksValue_X6_begins : GoodIn wsX6_asksValue wsX6_begins := goodIn_r _ [6, 7, 1, 8, 9, 10, 11, 12, 5, 13, 14, 15, 16, 17, 18, 19, 20, 21, 22, 23, 24, 25, 26, 27, 28, 29, 47, 48, 49, 50, 51, 52, 53, 54, 55, 56, 57, 58, 59, 60, 61, 62, 63, 64, 65, 66] (by decide +kernel) (by decide +kernel)
set_option maxRecDepth 20000 in
theorem gX6_asksValue_X6_begins : GoodIn wsX6_asksValue (wsV RX6 164 RX6 yX6_begins wsX6_begins) := goodIn_app (goodIn_of _ (by decide +kernel)) ggX6_asksValue_X6_begins
set_option maxRecDepth 20000 in
theorem ggX6_asksValue_X6_mendings : GoodIn wsX6_asksValue wsX6_mendings := goodIn_r _ [33, 14, 47, 48, 49, 50, 51, 52, 53, 54, 55, 56, 57, 58, 59, 60, 61, 62, 63, 64, 65, 66] (by decide +kernel) (by decide +kernel)
set_option maxRecDepth 20000 in
theorem gX6_asksValue_X6_mendings : GoodIn wsX6_asksValue (wsV RX6 112 RX6 yX6_mendings wsX6_mendings) := goodIn_app (goodIn_of _ (by decide +kernel)) ggX6_asksValue_X6_mendings
set_option maxRecDepth 20000 in
theorem ggX6_asksValue_X6_takes : GoodIn wsX6_asksValue wsX6_takes := goodIn_r _ [37, 14, 38, 17, 47, 48, 49, 50, 51, 52, 53, 54, 55, 56, 57, 58, 59, 60, 61, 62, 63, 64, 65, 66] (by decide +kernel) (by decide +kernel)
set_option maxRecDepth 20000 in
theorem gX6_asksValue_X6_takes : GoodIn wsX6_asksValue (wsV RX6 167 RX6 yX6_takes wsX6_takes) := goodIn_app (goodIn_of _ (by decide +kernel)) ggX6_asksValue_X6_takes
set_option maxRecDepth 20000 in
theorem ggX6_asksValue_X6_kept : GoodIn wsX6_asksValue wsX6_kept := goodIn_r _ [42, 38, 18, 19, 20, 5, 21, 15, 47, 48, 49, 50, 51, 52, 53, 54, 55, 56, 57, 58, 59, 60, 61, 62, 63, 64, 65, 66] (by decide +kernel) (by decide +kernel)
set_option maxRecDepth 20000 in
theorem gX6_asksValue_X6_kept : GoodIn wsX6_asksValue (wsV RX6 170 RX6 yX6_kept wsX6_kept) := goodIn_app (goodIn_of _ (by decide +kernel)) ggX6_asksValue_X6_kept
set_option maxRecDepth 20000 in
theorem ggX6_asksValue_X6_counts : GoodIn wsX6_asksValue wsX6_counts := goodIn_r _ [46, 7, 9, 1, 8, 47, 48, 49, 50, 51, 52, 53, 54, 55, 56, 57, 58, 59, 60, 61, 62, 63, 64, 65, 66] (by decide +kernel) (by decide +kernel)
set_option maxRecDepth 20000 in
theorem gX6_asksValue_X6_counts : GoodIn wsX6_asksValue (wsV RX6 172 RX6 yX6_counts wsX6_counts) := goodIn_app (goodIn_of _ (by decide +kernel)) ggX6_asksValue_X6_counts
theorem dX6_asksValue_0 : decode cX6_asksValue 0 = .ok (.aload_n 0, 1) := by decide +kernel
theorem dX6_asksValue_1 : decode cX6_asksValue 1 = .ok (.invokevirtual 164, 3) := by decide +kernel
theorem dX6_asksValue_4 : decode cX6_asksValue 4 = .ok (.bipush 10, 2) := by decide +kernel
theorem dX6_asksValue_6 : decode cX6_asksValue 6 = .ok (.istore_n 2, 1) := by decide +kernel
theorem dX6_asksValue_7 : decode cX6_asksValue 7 = .ok (.iconst 0, 1) := by decide +kernel
theorem dX6_asksValue_8 : decode cX6_asksValue 8 = .ok (.istore_n 3, 1) := by decide +kernel
theorem dX6_asksValue_9 : decode cX6_asksValue 9 = .ok (.iload_n 3, 1) := by decide +kernel
theorem dX6_asksValue_10 : decode cX6_asksValue 10 = .ok (.aload_n 0, 1) := by decide +kernel
theorem dX6_asksValue_11 : decode cX6_asksValue 11 = .ok (.invokevirtual 112, 3) := by decide +kernel
theorem dX6_asksValue_14 : decode cX6_asksValue 14 = .ok (.if_icmp .ge 51, 3) := by decide +kernel
theorem dX6_asksValue_17 : decode cX6_asksValue 17 = .ok (.aload_n 0, 1) := by decide +kernel
theorem dX6_asksValue_18 : decode cX6_asksValue 18 = .ok (.iload_n 3, 1) := by decide +kernel
theorem dX6_asksValue_19 : decode cX6_asksValue 19 = .ok (.invokevirtual 167, 3) := by decide +kernel
theorem dX6_asksValue_22 : decode cX6_asksValue 22 = .ok (.aload_n 0, 1) := by decide +kernel
theorem dX6_asksValue_23 : decode cX6_asksValue 23 = .ok (.iload_n 1, 1) := by decide +kernel
theorem dX6_asksValue_24 : decode cX6_asksValue 24 = .ok (.invokevirtual 170, 3) := by decide +kernel
theorem dX6_asksValue_27 : decode cX6_asksValue 27 = .ok (.istore 4, 2) := by decide +kernel
theorem dX6_asksValue_29 : decode cX6_asksValue 29 = .ok (.aload_n 0, 1) := by decide +kernel
theorem dX6_asksValue_30 : decode cX6_asksValue 30 = .ok (.iload_n 3, 1) := by decide +kernel
theorem dX6_asksValue_31 : decode cX6_asksValue 31 = .ok (.iload 4, 2) := by decide +kernel
theorem dX6_asksValue_33 : decode cX6_asksValue 33 = .ok (.ifCond .le 7, 3) := by decide +kernel
theorem dX6_asksValue_36 : decode cX6_asksValue 36 = .ok (.iconst 1, 1) := by decide +kernel
theorem dX6_asksValue_37 : decode cX6_asksValue 37 = .ok (.goto 4, 3) := by decide +kernel
theorem dX6_asksValue_40 : decode cX6_asksValue 40 = .ok (.iconst 0, 1) := by decide +kernel
theorem dX6_asksValue_41 : decode cX6_asksValue 41 = .ok (.iload 4, 2) := by decide +kernel
theorem dX6_asksValue_43 : decode cX6_asksValue 43 = .ok (.invokevirtual 172, 3) := by decide +kernel
theorem dX6_asksValue_46 : decode cX6_asksValue 46 = .ok (.iload 4, 2) := by decide +kernel
theorem dX6_asksValue_48 : decode cX6_asksValue 48 = .ok (.iload_n 2, 1) := by decide +kernel
theorem dX6_asksValue_49 : decode cX6_asksValue 49 = .ok (.if_icmp .ge 8, 3) := by decide +kernel
theorem dX6_asksValue_52 : decode cX6_asksValue 52 = .ok (.iload 4, 2) := by decide +kernel
theorem dX6_asksValue_54 : decode cX6_asksValue 54 = .ok (.goto 4, 3) := by decide +kernel
theorem dX6_asksValue_57 : decode cX6_asksValue 57 = .ok (.iload_n 2, 1) := by decide +kernel
theorem dX6_asksValue_58 : decode cX6_asksValue 58 = .ok (.istore_n 2, 1) := by decide +kernel
theorem dX6_asksValue_59 : decode cX6_asksValue 59 = .ok (.iinc 3 1, 3) := by decide +kernel
theorem dX6_asksValue_62 : decode cX6_asksValue 62 = .ok (.goto (-53), 3) := by decide +kernel
theorem dX6_asksValue_65 : decode cX6_asksValue 65 = .ok (.aload_n 0, 1) := by decide +kernel
theorem dX6_asksValue_66 : decode cX6_asksValue 66 = .ok (.iload_n 2, 1) := by decide +kernel
theorem dX6_asksValue_67 : decode cX6_asksValue 67 = .ok (.putfield 155, 3) := by decide +kernel
theorem dX6_asksValue_70 : decode cX6_asksValue 70 = .ok (.return_, 1) := by decide +kernel
set_option maxRecDepth 20000 in
theorem ggX6_asksWay_X6_begins : GoodIn wsX6_asksWay wsX6_begins := goodIn_r _ [5, 6, 7, 8, 9, 10, 11, 12, 4, 13, 14, 15, 16, 17, 18, 19, 20, 21, 22, 23, 24, 25, 26, 27, 28, 29, 47, 48, 49, 50, 51, 52, 53, 54, 55, 56, 57, 58, 59, 60, 61, 62, 63, 64, 65, 66] (by decide +kernel) (by decide +kernel)
set_option maxRecDepth 20000 in
theorem gX6_asksWay_X6_begins : GoodIn wsX6_asksWay (wsV RX6 164 RX6 yX6_begins wsX6_begins) := goodIn_app (goodIn_of _ (by decide +kernel)) ggX6_asksWay_X6_begins
set_option maxRecDepth 20000 in
theorem ggX6_asksWay_X6_mendings : GoodIn wsX6_asksWay wsX6_mendings := goodIn_r _ [33, 14, 47, 48, 49, 50, 51, 52, 53, 54, 55, 56, 57, 58, 59, 60, 61, 62, 63, 64, 65, 66] (by decide +kernel) (by decide +kernel)
set_option maxRecDepth 20000 in
theorem gX6_asksWay_X6_mendings : GoodIn wsX6_asksWay (wsV RX6 112 RX6 yX6_mendings wsX6_mendings) := goodIn_app (goodIn_of _ (by decide +kernel)) ggX6_asksWay_X6_mendings
set_option maxRecDepth 20000 in
theorem ggX6_asksWay_X6_takes : GoodIn wsX6_asksWay wsX6_takes := goodIn_r _ [37, 14, 38, 17, 47, 48, 49, 50, 51, 52, 53, 54, 55, 56, 57, 58, 59, 60, 61, 62, 63, 64, 65, 66] (by decide +kernel) (by decide +kernel)
set_option maxRecDepth 20000 in
theorem gX6_asksWay_X6_takes : GoodIn wsX6_asksWay (wsV RX6 167 RX6 yX6_takes wsX6_takes) := goodIn_app (goodIn_of _ (by decide +kernel)) ggX6_asksWay_X6_takes
set_option maxRecDepth 20000 in
theorem ggX6_asksWay_X6_wayLong : GoodIn wsX6_asksWay wsX6_wayLong := goodIn_r _ [42, 38, 18, 19, 20, 4, 21, 15, 47, 48, 49, 50, 51, 52, 53, 54, 55, 56, 57, 58, 59, 60, 61, 62, 63, 64, 65, 66] (by decide +kernel) (by decide +kernel)
set_option maxRecDepth 20000 in
theorem gX6_asksWay_X6_wayLong : GoodIn wsX6_asksWay (wsV RX6 176 RX6 yX6_wayLong wsX6_wayLong) := goodIn_app (goodIn_of _ (by decide +kernel)) ggX6_asksWay_X6_wayLong
set_option maxRecDepth 20000 in
theorem ggX6_asksWay_X6_counts : GoodIn wsX6_asksWay wsX6_counts := goodIn_r _ [46, 6, 9, 7, 8, 47, 48, 49, 50, 51, 52, 53, 54, 55, 56, 57, 58, 59, 60, 61, 62, 63, 64, 65, 66] (by decide +kernel) (by decide +kernel)
set_option maxRecDepth 20000 in
theorem gX6_asksWay_X6_counts : GoodIn wsX6_asksWay (wsV RX6 172 RX6 yX6_counts wsX6_counts) := goodIn_app (goodIn_of _ (by decide +kernel)) ggX6_asksWay_X6_counts
theorem dX6_asksWay_0 : decode cX6_asksWay 0 = .ok (.aload_n 0, 1) := by decide +kernel
theorem dX6_asksWay_1 : decode cX6_asksWay 1 = .ok (.invokevirtual 164, 3) := by decide +kernel
theorem dX6_asksWay_4 : decode cX6_asksWay 4 = .ok (.iconst 0, 1) := by decide +kernel
theorem dX6_asksWay_5 : decode cX6_asksWay 5 = .ok (.istore_n 3, 1) := by decide +kernel
theorem dX6_asksWay_6 : decode cX6_asksWay 6 = .ok (.iload_n 3, 1) := by decide +kernel
theorem dX6_asksWay_7 : decode cX6_asksWay 7 = .ok (.aload_n 0, 1) := by decide +kernel
theorem dX6_asksWay_8 : decode cX6_asksWay 8 = .ok (.invokevirtual 112, 3) := by decide +kernel
theorem dX6_asksWay_11 : decode cX6_asksWay 11 = .ok (.if_icmp .ge 41, 3) := by decide +kernel
theorem dX6_asksWay_14 : decode cX6_asksWay 14 = .ok (.aload_n 0, 1) := by decide +kernel
theorem dX6_asksWay_15 : decode cX6_asksWay 15 = .ok (.iload_n 3, 1) := by decide +kernel
theorem dX6_asksWay_16 : decode cX6_asksWay 16 = .ok (.invokevirtual 167, 3) := by decide +kernel
theorem dX6_asksWay_19 : decode cX6_asksWay 19 = .ok (.aload_n 0, 1) := by decide +kernel
theorem dX6_asksWay_20 : decode cX6_asksWay 20 = .ok (.iload_n 1, 1) := by decide +kernel
theorem dX6_asksWay_21 : decode cX6_asksWay 21 = .ok (.iload_n 2, 1) := by decide +kernel
theorem dX6_asksWay_22 : decode cX6_asksWay 22 = .ok (.invokevirtual 176, 3) := by decide +kernel
theorem dX6_asksWay_25 : decode cX6_asksWay 25 = .ok (.istore 4, 2) := by decide +kernel
theorem dX6_asksWay_27 : decode cX6_asksWay 27 = .ok (.aload_n 0, 1) := by decide +kernel
theorem dX6_asksWay_28 : decode cX6_asksWay 28 = .ok (.iload_n 3, 1) := by decide +kernel
theorem dX6_asksWay_29 : decode cX6_asksWay 29 = .ok (.iload 4, 2) := by decide +kernel
theorem dX6_asksWay_31 : decode cX6_asksWay 31 = .ok (.bipush (-5), 2) := by decide +kernel
theorem dX6_asksWay_33 : decode cX6_asksWay 33 = .ok (.if_icmp .eq 7, 3) := by decide +kernel
theorem dX6_asksWay_36 : decode cX6_asksWay 36 = .ok (.iconst 1, 1) := by decide +kernel
theorem dX6_asksWay_37 : decode cX6_asksWay 37 = .ok (.goto 4, 3) := by decide +kernel
theorem dX6_asksWay_40 : decode cX6_asksWay 40 = .ok (.iconst 0, 1) := by decide +kernel
theorem dX6_asksWay_41 : decode cX6_asksWay 41 = .ok (.iload 4, 2) := by decide +kernel
theorem dX6_asksWay_43 : decode cX6_asksWay 43 = .ok (.invokevirtual 172, 3) := by decide +kernel
theorem dX6_asksWay_46 : decode cX6_asksWay 46 = .ok (.iinc 3 1, 3) := by decide +kernel
theorem dX6_asksWay_49 : decode cX6_asksWay 49 = .ok (.goto (-43), 3) := by decide +kernel
theorem dX6_asksWay_52 : decode cX6_asksWay 52 = .ok (.return_, 1) := by decide +kernel
set_option maxRecDepth 20000 in
theorem ggX6_value_X6_isValue : GoodIn wsX6_value wsX6_isValue := goodIn_r _ [9, 10, 11, 12, 13, 8, 14] (by decide +kernel) (by decide +kernel)
set_option maxRecDepth 20000 in
theorem gX6_value_X6_isValue : GoodIn wsX6_value (va_wsS RX6 76 yX6_isValue wsX6_isValue) := goodIn_app (goodIn_of _ (by decide +kernel)) ggX6_value_X6_isValue
set_option maxRecDepth 20000 in
theorem ggX6_value_X6_in : GoodIn wsX6_value wsX6_in := goodIn_r _ [14] (by decide +kernel) (by decide +kernel)
set_option maxRecDepth 20000 in
theorem gX6_value_X6_in : GoodIn wsX6_value (va_wsS RX6 47 yX6_in wsX6_in) := goodIn_app (goodIn_of _ (by decide +kernel)) ggX6_value_X6_in
set_option maxRecDepth 20000 in
theorem ggX6_value_X6_asksValue : GoodIn wsX6_value wsX6_asksValue := goodIn_r _ [18, 4, 19, 20, 21, 8, 22, 3, 5, 2, 23, 24, 25, 26, 27, 28, 29, 30, 31, 32, 33, 34, 35, 36, 37, 38, 39, 40, 41, 42, 43, 44, 45, 46, 47, 48, 49, 50, 51, 52, 53, 54, 55, 56, 57, 58, 59, 60, 61, 62, 63, 64, 65, 66, 67, 68, 69, 70, 71, 72, 73, 74, 75, 76, 77, 78, 79] (by decide +kernel) (by decide +kernel)
set_option maxRecDepth 20000 in
theorem gX6_value_X6_asksValue : GoodIn wsX6_value (wsV RX6 181 RX6 yX6_asksValue wsX6_asksValue) := goodIn_app (goodIn_of _ (by decide +kernel)) ggX6_value_X6_asksValue
theorem dX6_value_0 : decode cX6_value 0 = .ok (.iload_n 1, 1) := by decide +kernel
theorem dX6_value_1 : decode cX6_value 1 = .ok (.invokestatic 76, 3) := by decide +kernel
theorem dX6_value_4 : decode cX6_value 4 = .ok (.ifCond .eq 15, 3) := by decide +kernel
theorem dX6_value_7 : decode cX6_value 7 = .ok (.iload_n 2, 1) := by decide +kernel
theorem dX6_value_8 : decode cX6_value 8 = .ok (.i2l, 1) := by decide +kernel
theorem dX6_value_9 : decode cX6_value 9 = .ok (.lconst 0, 1) := by decide +kernel
theorem dX6_value_10 : decode cX6_value 10 = .ok (.ldc2_w 179, 3) := by decide +kernel
theorem dX6_value_13 : decode cX6_value 13 = .ok (.invokestatic 47, 3) := by decide +kernel
theorem dX6_value_16 : decode cX6_value 16 = .ok (.ifCond .ne 6, 3) := by decide +kernel
theorem dX6_value_19 : decode cX6_value 19 = .ok (.bipush (-2), 2) := by decide +kernel
theorem dX6_value_21 : decode cX6_value 21 = .ok (.ireturn, 1) := by decide +kernel
theorem dX6_value_22 : decode cX6_value 22 = .ok (.aload_n 0, 1) := by decide +kernel
theorem dX6_value_23 : decode cX6_value 23 = .ok (.iload_n 1, 1) := by decide +kernel
theorem dX6_value_24 : decode cX6_value 24 = .ok (.bipush 97, 2) := by decide +kernel
theorem dX6_value_26 : decode cX6_value 26 = .ok (.isub, 1) := by decide +kernel
theorem dX6_value_27 : decode cX6_value 27 = .ok (.invokevirtual 181, 3) := by decide +kernel
theorem dX6_value_30 : decode cX6_value 30 = .ok (.iload_n 2, 1) := by decide +kernel
theorem dX6_value_31 : decode cX6_value 31 = .ok (.ifCond .ne 20, 3) := by decide +kernel
theorem dX6_value_34 : decode cX6_value 34 = .ok (.aload_n 0, 1) := by decide +kernel
theorem dX6_value_35 : decode cX6_value 35 = .ok (.getfield 161, 3) := by decide +kernel
theorem dX6_value_38 : decode cX6_value 38 = .ok (.bipush (-5), 2) := by decide +kernel
theorem dX6_value_40 : decode cX6_value 40 = .ok (.if_icmp .ne 7, 3) := by decide +kernel
theorem dX6_value_43 : decode cX6_value 43 = .ok (.iconst 1, 1) := by decide +kernel
theorem dX6_value_44 : decode cX6_value 44 = .ok (.goto 55, 3) := by decide +kernel
theorem dX6_value_47 : decode cX6_value 47 = .ok (.iconst 0, 1) := by decide +kernel
theorem dX6_value_48 : decode cX6_value 48 = .ok (.goto 51, 3) := by decide +kernel
theorem dX6_value_51 : decode cX6_value 51 = .ok (.iload_n 2, 1) := by decide +kernel
theorem dX6_value_52 : decode cX6_value 52 = .ok (.iconst 1, 1) := by decide +kernel
theorem dX6_value_53 : decode cX6_value 53 = .ok (.if_icmp .ne 18, 3) := by decide +kernel
theorem dX6_value_56 : decode cX6_value 56 = .ok (.aload_n 0, 1) := by decide +kernel
theorem dX6_value_57 : decode cX6_value 57 = .ok (.getfield 152, 3) := by decide +kernel
theorem dX6_value_60 : decode cX6_value 60 = .ok (.ifCond .le 7, 3) := by decide +kernel
theorem dX6_value_63 : decode cX6_value 63 = .ok (.iconst 1, 1) := by decide +kernel
theorem dX6_value_64 : decode cX6_value 64 = .ok (.goto 35, 3) := by decide +kernel
theorem dX6_value_67 : decode cX6_value 67 = .ok (.iconst 0, 1) := by decide +kernel
theorem dX6_value_68 : decode cX6_value 68 = .ok (.goto 31, 3) := by decide +kernel
theorem dX6_value_71 : decode cX6_value 71 = .ok (.iload_n 2, 1) := by decide +kernel
theorem dX6_value_72 : decode cX6_value 72 = .ok (.iconst 2, 1) := by decide +kernel
theorem dX6_value_73 : decode cX6_value 73 = .ok (.if_icmp .ne 10, 3) := by decide +kernel
theorem dX6_value_76 : decode cX6_value 76 = .ok (.aload_n 0, 1) := by decide +kernel
theorem dX6_value_77 : decode cX6_value 77 = .ok (.getfield 152, 3) := by decide +kernel
theorem dX6_value_80 : decode cX6_value 80 = .ok (.goto 19, 3) := by decide +kernel
theorem dX6_value_83 : decode cX6_value 83 = .ok (.iload_n 2, 1) := by decide +kernel
theorem dX6_value_84 : decode cX6_value 84 = .ok (.iconst 3, 1) := by decide +kernel
theorem dX6_value_85 : decode cX6_value 85 = .ok (.if_icmp .ne 10, 3) := by decide +kernel
theorem dX6_value_88 : decode cX6_value 88 = .ok (.aload_n 0, 1) := by decide +kernel
theorem dX6_value_89 : decode cX6_value 89 = .ok (.getfield 155, 3) := by decide +kernel
theorem dX6_value_92 : decode cX6_value 92 = .ok (.goto 7, 3) := by decide +kernel
theorem dX6_value_95 : decode cX6_value 95 = .ok (.aload_n 0, 1) := by decide +kernel
theorem dX6_value_96 : decode cX6_value 96 = .ok (.getfield 158, 3) := by decide +kernel
theorem dX6_value_99 : decode cX6_value 99 = .ok (.ireturn, 1) := by decide +kernel
set_option maxRecDepth 20000 in
theorem ggX6_way_X6_isKey : GoodIn wsX6_way wsX6_isKey := goodIn_r _ [8, 9, 10, 11, 7, 12] (by decide +kernel) (by decide +kernel)
set_option maxRecDepth 20000 in
theorem gX6_way_X6_isKey : GoodIn wsX6_way (va_wsS RX6 73 yX6_isKey wsX6_isKey) := goodIn_app (goodIn_of _ (by decide +kernel)) ggX6_way_X6_isKey
set_option maxRecDepth 20000 in
theorem ggX6_way_X6_in : GoodIn wsX6_way wsX6_in := goodIn_r _ [12] (by decide +kernel) (by decide +kernel)
set_option maxRecDepth 20000 in
theorem gX6_way_X6_in : GoodIn wsX6_way (va_wsS RX6 47 yX6_in wsX6_in) := goodIn_app (goodIn_of _ (by decide +kernel)) ggX6_way_X6_in
set_option maxRecDepth 20000 in
theorem ggX6_way_X6_asksWay : GoodIn wsX6_way wsX6_asksWay := goodIn_r _ [16, 17, 18, 19, 7, 20, 3, 4, 21, 2, 22, 23, 24, 25, 26, 27, 28, 29, 30, 31, 32, 33, 34, 35, 36, 37, 38, 39, 40, 41, 42, 43, 44, 45, 46, 47, 48, 49, 50, 51, 52, 53, 54, 55, 56, 57, 58, 59, 60, 61, 62, 63, 64, 65, 66, 67, 68, 69, 70, 71, 72, 73, 74, 75, 76, 77, 78] (by decide +kernel) (by decide +kernel)
set_option maxRecDepth 20000 in
theorem gX6_way_X6_asksWay : GoodIn wsX6_way (wsV RX6 184 RX6 yX6_asksWay wsX6_asksWay) := goodIn_app (goodIn_of _ (by decide +kernel)) ggX6_way_X6_asksWay
theorem dX6_way_0 : decode cX6_way 0 = .ok (.iload_n 1, 1) := by decide +kernel
theorem dX6_way_1 : decode cX6_way 1 = .ok (.invokestatic 73, 3) := by decide +kernel
theorem dX6_way_4 : decode cX6_way 4 = .ok (.ifCond .eq 10, 3) := by decide +kernel
theorem dX6_way_7 : decode cX6_way 7 = .ok (.iload_n 2, 1) := by decide +kernel
theorem dX6_way_8 : decode cX6_way 8 = .ok (.invokestatic 73, 3) := by decide +kernel
theorem dX6_way_11 : decode cX6_way 11 = .ok (.ifCond .ne 5, 3) := by decide +kernel
theorem dX6_way_14 : decode cX6_way 14 = .ok (.iconst (-1), 1) := by decide +kernel
theorem dX6_way_15 : decode cX6_way 15 = .ok (.ireturn, 1) := by decide +kernel
theorem dX6_way_16 : decode cX6_way 16 = .ok (.iload_n 3, 1) := by decide +kernel
theorem dX6_way_17 : decode cX6_way 17 = .ok (.i2l, 1) := by decide +kernel
theorem dX6_way_18 : decode cX6_way 18 = .ok (.lconst 0, 1) := by decide +kernel
theorem dX6_way_19 : decode cX6_way 19 = .ok (.ldc2_w 179, 3) := by decide +kernel
theorem dX6_way_22 : decode cX6_way 22 = .ok (.invokestatic 47, 3) := by decide +kernel
theorem dX6_way_25 : decode cX6_way 25 = .ok (.ifCond .ne 6, 3) := by decide +kernel
theorem dX6_way_28 : decode cX6_way 28 = .ok (.bipush (-2), 2) := by decide +kernel
theorem dX6_way_30 : decode cX6_way 30 = .ok (.ireturn, 1) := by decide +kernel
theorem dX6_way_31 : decode cX6_way 31 = .ok (.aload_n 0, 1) := by decide +kernel
theorem dX6_way_32 : decode cX6_way 32 = .ok (.iload_n 1, 1) := by decide +kernel
theorem dX6_way_33 : decode cX6_way 33 = .ok (.iload_n 2, 1) := by decide +kernel
theorem dX6_way_34 : decode cX6_way 34 = .ok (.invokevirtual 184, 3) := by decide +kernel
theorem dX6_way_37 : decode cX6_way 37 = .ok (.iload_n 3, 1) := by decide +kernel
theorem dX6_way_38 : decode cX6_way 38 = .ok (.ifCond .ne 20, 3) := by decide +kernel
theorem dX6_way_41 : decode cX6_way 41 = .ok (.aload_n 0, 1) := by decide +kernel
theorem dX6_way_42 : decode cX6_way 42 = .ok (.getfield 161, 3) := by decide +kernel
theorem dX6_way_45 : decode cX6_way 45 = .ok (.bipush (-5), 2) := by decide +kernel
theorem dX6_way_47 : decode cX6_way 47 = .ok (.if_icmp .ne 7, 3) := by decide +kernel
theorem dX6_way_50 : decode cX6_way 50 = .ok (.iconst 1, 1) := by decide +kernel
theorem dX6_way_51 : decode cX6_way 51 = .ok (.goto 55, 3) := by decide +kernel
theorem dX6_way_54 : decode cX6_way 54 = .ok (.iconst 0, 1) := by decide +kernel
theorem dX6_way_55 : decode cX6_way 55 = .ok (.goto 51, 3) := by decide +kernel
theorem dX6_way_58 : decode cX6_way 58 = .ok (.iload_n 3, 1) := by decide +kernel
theorem dX6_way_59 : decode cX6_way 59 = .ok (.iconst 1, 1) := by decide +kernel
theorem dX6_way_60 : decode cX6_way 60 = .ok (.if_icmp .ne 18, 3) := by decide +kernel
theorem dX6_way_63 : decode cX6_way 63 = .ok (.aload_n 0, 1) := by decide +kernel
theorem dX6_way_64 : decode cX6_way 64 = .ok (.getfield 152, 3) := by decide +kernel
theorem dX6_way_67 : decode cX6_way 67 = .ok (.ifCond .le 7, 3) := by decide +kernel
theorem dX6_way_70 : decode cX6_way 70 = .ok (.iconst 1, 1) := by decide +kernel
theorem dX6_way_71 : decode cX6_way 71 = .ok (.goto 35, 3) := by decide +kernel
theorem dX6_way_74 : decode cX6_way 74 = .ok (.iconst 0, 1) := by decide +kernel
theorem dX6_way_75 : decode cX6_way 75 = .ok (.goto 31, 3) := by decide +kernel
theorem dX6_way_78 : decode cX6_way 78 = .ok (.iload_n 3, 1) := by decide +kernel
theorem dX6_way_79 : decode cX6_way 79 = .ok (.iconst 2, 1) := by decide +kernel
theorem dX6_way_80 : decode cX6_way 80 = .ok (.if_icmp .ne 10, 3) := by decide +kernel
theorem dX6_way_83 : decode cX6_way 83 = .ok (.aload_n 0, 1) := by decide +kernel
theorem dX6_way_84 : decode cX6_way 84 = .ok (.getfield 152, 3) := by decide +kernel
theorem dX6_way_87 : decode cX6_way 87 = .ok (.goto 19, 3) := by decide +kernel
theorem dX6_way_90 : decode cX6_way 90 = .ok (.iload_n 3, 1) := by decide +kernel
theorem dX6_way_91 : decode cX6_way 91 = .ok (.iconst 3, 1) := by decide +kernel
theorem dX6_way_92 : decode cX6_way 92 = .ok (.if_icmp .ne 10, 3) := by decide +kernel
theorem dX6_way_95 : decode cX6_way 95 = .ok (.aload_n 0, 1) := by decide +kernel
theorem dX6_way_96 : decode cX6_way 96 = .ok (.getfield 161, 3) := by decide +kernel
theorem dX6_way_99 : decode cX6_way 99 = .ok (.goto 7, 3) := by decide +kernel
theorem dX6_way_102 : decode cX6_way 102 = .ok (.aload_n 0, 1) := by decide +kernel
theorem dX6_way_103 : decode cX6_way 103 = .ok (.getfield 155, 3) := by decide +kernel
theorem dX6_way_106 : decode cX6_way 106 = .ok (.ireturn, 1) := by decide +kernel
set_option maxRecDepth 20000 in
theorem ggX6_kept__X6_isKey : GoodIn wsX6_kept_ wsX6_isKey := goodIn_r _ [5, 6, 7, 8, 4, 9] (by decide +kernel) (by decide +kernel)
set_option maxRecDepth 20000 in
theorem gX6_kept__X6_isKey : GoodIn wsX6_kept_ (va_wsS RX6 73 yX6_isKey wsX6_isKey) := goodIn_app (goodIn_of _ (by decide +kernel)) ggX6_kept__X6_isKey
set_option maxRecDepth 20000 in
theorem ggX6_kept__X6_findsChoices : GoodIn wsX6_kept_ wsX6_findsChoices := goodIn_r _ [13, 14, 15, 16, 17, 18, 19, 20, 4, 21, 22, 23, 24, 25, 26, 27, 28, 29, 38, 39, 40, 41, 42, 43, 44, 45, 46, 47, 48, 49, 50, 51, 52, 53, 54, 55, 56, 57] (by decide +kernel) (by decide +kernel)
set_option maxRecDepth 20000 in
theorem gX6_kept__X6_findsChoices : GoodIn wsX6_kept_ (wsV RX6 109 RX6 yX6_findsChoices wsX6_findsChoices) := goodIn_app (goodIn_of _ (by decide +kernel)) ggX6_kept__X6_findsChoices
set_option maxRecDepth 20000 in
theorem ggX6_kept__X6_mendings : GoodIn wsX6_kept_ wsX6_mendings := goodIn_r _ [33, 14, 38, 39, 40, 41, 42, 43, 44, 45, 46, 47, 48, 49, 50, 51, 52, 53, 54, 55, 56, 57] (by decide +kernel) (by decide +kernel)
set_option maxRecDepth 20000 in
theorem gX6_kept__X6_mendings : GoodIn wsX6_kept_ (wsV RX6 112 RX6 yX6_mendings wsX6_mendings) := goodIn_app (goodIn_of _ (by decide +kernel)) ggX6_kept__X6_mendings
set_option maxRecDepth 20000 in
theorem ggX6_kept__X6_in : GoodIn wsX6_kept_ wsX6_in := goodIn_r _ [9] (by decide +kernel) (by decide +kernel)
set_option maxRecDepth 20000 in
theorem gX6_kept__X6_in : GoodIn wsX6_kept_ (va_wsS RX6 47 yX6_in wsX6_in) := goodIn_app (goodIn_of _ (by decide +kernel)) ggX6_kept__X6_in
set_option maxRecDepth 20000 in
theorem ggX6_kept__X6_takes : GoodIn wsX6_kept_ wsX6_takes := goodIn_r _ [37, 14, 1, 17, 38, 39, 40, 41, 42, 43, 44, 45, 46, 47, 48, 49, 50, 51, 52, 53, 54, 55, 56, 57] (by decide +kernel) (by decide +kernel)
set_option maxRecDepth 20000 in
theorem gX6_kept__X6_takes : GoodIn wsX6_kept_ (wsV RX6 167 RX6 yX6_takes wsX6_takes) := goodIn_app (goodIn_of _ (by decide +kernel)) ggX6_kept__X6_takes
theorem dX6_kept__0 : decode cX6_kept_ 0 = .ok (.iload_n 2, 1) := by decide +kernel
theorem dX6_kept__1 : decode cX6_kept_ 1 = .ok (.invokestatic 73, 3) := by decide +kernel
theorem dX6_kept__4 : decode cX6_kept_ 4 = .ok (.ifCond .ne 5, 3) := by decide +kernel
theorem dX6_kept__7 : decode cX6_kept_ 7 = .ok (.iconst (-1), 1) := by decide +kernel
theorem dX6_kept__8 : decode cX6_kept_ 8 = .ok (.ireturn, 1) := by decide +kernel
theorem dX6_kept__9 : decode cX6_kept_ 9 = .ok (.aload_n 0, 1) := by decide +kernel
theorem dX6_kept__10 : decode cX6_kept_ 10 = .ok (.invokevirtual 109, 3) := by decide +kernel
theorem dX6_kept__13 : decode cX6_kept_ 13 = .ok (.iload_n 1, 1) := by decide +kernel
theorem dX6_kept__14 : decode cX6_kept_ 14 = .ok (.i2l, 1) := by decide +kernel
theorem dX6_kept__15 : decode cX6_kept_ 15 = .ok (.lconst 0, 1) := by decide +kernel
theorem dX6_kept__16 : decode cX6_kept_ 16 = .ok (.aload_n 0, 1) := by decide +kernel
theorem dX6_kept__17 : decode cX6_kept_ 17 = .ok (.invokevirtual 112, 3) := by decide +kernel
theorem dX6_kept__20 : decode cX6_kept_ 20 = .ok (.i2l, 1) := by decide +kernel
theorem dX6_kept__21 : decode cX6_kept_ 21 = .ok (.lconst 1, 1) := by decide +kernel
theorem dX6_kept__22 : decode cX6_kept_ 22 = .ok (.lsub, 1) := by decide +kernel
theorem dX6_kept__23 : decode cX6_kept_ 23 = .ok (.invokestatic 47, 3) := by decide +kernel
theorem dX6_kept__26 : decode cX6_kept_ 26 = .ok (.ifCond .ne 6, 3) := by decide +kernel
theorem dX6_kept__29 : decode cX6_kept_ 29 = .ok (.bipush (-2), 2) := by decide +kernel
theorem dX6_kept__31 : decode cX6_kept_ 31 = .ok (.ireturn, 1) := by decide +kernel
theorem dX6_kept__32 : decode cX6_kept_ 32 = .ok (.aload_n 0, 1) := by decide +kernel
theorem dX6_kept__33 : decode cX6_kept_ 33 = .ok (.iload_n 1, 1) := by decide +kernel
theorem dX6_kept__34 : decode cX6_kept_ 34 = .ok (.invokevirtual 167, 3) := by decide +kernel
theorem dX6_kept__37 : decode cX6_kept_ 37 = .ok (.aload_n 0, 1) := by decide +kernel
theorem dX6_kept__38 : decode cX6_kept_ 38 = .ok (.getfield 28, 3) := by decide +kernel
theorem dX6_kept__41 : decode cX6_kept_ 41 = .ok (.iload_n 2, 1) := by decide +kernel
theorem dX6_kept__42 : decode cX6_kept_ 42 = .ok (.iaload, 1) := by decide +kernel
theorem dX6_kept__43 : decode cX6_kept_ 43 = .ok (.ireturn, 1) := by decide +kernel
set_option maxRecDepth 20000 in
theorem ggX6_weightOf_X6_of : GoodIn wsX6_weightOf wsX6_of := goodIn_r _ [6, 7, 8, 9, 10, 11, 12, 13, 14, 15, 16, 17, 18, 19, 20, 21, 22, 23, 24, 25, 26, 27] (by decide +kernel) (by decide +kernel)
set_option maxRecDepth 20000 in
theorem gX6_weightOf_X6_of : GoodIn wsX6_weightOf (wsV RX6 53 RX6 yX6_of wsX6_of) := goodIn_app (goodIn_of _ (by decide +kernel)) ggX6_weightOf_X6_of
theorem dX6_weightOf_0 : decode cX6_weightOf 0 = .ok (.iconst 0, 1) := by decide +kernel
theorem dX6_weightOf_1 : decode cX6_weightOf 1 = .ok (.istore_n 1, 1) := by decide +kernel
theorem dX6_weightOf_2 : decode cX6_weightOf 2 = .ok (.iconst 0, 1) := by decide +kernel
theorem dX6_weightOf_3 : decode cX6_weightOf 3 = .ok (.istore_n 2, 1) := by decide +kernel
theorem dX6_weightOf_4 : decode cX6_weightOf 4 = .ok (.iload_n 2, 1) := by decide +kernel
theorem dX6_weightOf_5 : decode cX6_weightOf 5 = .ok (.bipush 10, 2) := by decide +kernel
theorem dX6_weightOf_7 : decode cX6_weightOf 7 = .ok (.if_icmp .ge 38, 3) := by decide +kernel
theorem dX6_weightOf_10 : decode cX6_weightOf 10 = .ok (.iload_n 1, 1) := by decide +kernel
theorem dX6_weightOf_11 : decode cX6_weightOf 11 = .ok (.aload_n 0, 1) := by decide +kernel
theorem dX6_weightOf_12 : decode cX6_weightOf 12 = .ok (.getfield 28, 3) := by decide +kernel
theorem dX6_weightOf_15 : decode cX6_weightOf 15 = .ok (.iload_n 2, 1) := by decide +kernel
theorem dX6_weightOf_16 : decode cX6_weightOf 16 = .ok (.iaload, 1) := by decide +kernel
theorem dX6_weightOf_17 : decode cX6_weightOf 17 = .ok (.bipush (-5), 2) := by decide +kernel
theorem dX6_weightOf_19 : decode cX6_weightOf 19 = .ok (.if_icmp .ne 7, 3) := by decide +kernel
theorem dX6_weightOf_22 : decode cX6_weightOf 22 = .ok (.iconst 0, 1) := by decide +kernel
theorem dX6_weightOf_23 : decode cX6_weightOf 23 = .ok (.goto 14, 3) := by decide +kernel
theorem dX6_weightOf_26 : decode cX6_weightOf 26 = .ok (.aload_n 0, 1) := by decide +kernel
theorem dX6_weightOf_27 : decode cX6_weightOf 27 = .ok (.aload_n 0, 1) := by decide +kernel
theorem dX6_weightOf_28 : decode cX6_weightOf 28 = .ok (.getfield 28, 3) := by decide +kernel
theorem dX6_weightOf_31 : decode cX6_weightOf 31 = .ok (.iload_n 2, 1) := by decide +kernel
theorem dX6_weightOf_32 : decode cX6_weightOf 32 = .ok (.iaload, 1) := by decide +kernel
theorem dX6_weightOf_33 : decode cX6_weightOf 33 = .ok (.iconst 2, 1) := by decide +kernel
theorem dX6_weightOf_34 : decode cX6_weightOf 34 = .ok (.invokevirtual 53, 3) := by decide +kernel
theorem dX6_weightOf_37 : decode cX6_weightOf 37 = .ok (.iadd, 1) := by decide +kernel
theorem dX6_weightOf_38 : decode cX6_weightOf 38 = .ok (.istore_n 1, 1) := by decide +kernel
theorem dX6_weightOf_39 : decode cX6_weightOf 39 = .ok (.iinc 2 1, 3) := by decide +kernel
theorem dX6_weightOf_42 : decode cX6_weightOf 42 = .ok (.goto (-38), 3) := by decide +kernel
theorem dX6_weightOf_45 : decode cX6_weightOf 45 = .ok (.iload_n 1, 1) := by decide +kernel
theorem dX6_weightOf_46 : decode cX6_weightOf 46 = .ok (.ireturn, 1) := by decide +kernel
set_option maxRecDepth 20000 in
theorem ggX6_sum_X6_in : GoodIn wsX6_sum wsX6_in := goodIn_r _ [5] (by decide +kernel) (by decide +kernel)
set_option maxRecDepth 20000 in
theorem gX6_sum_X6_in : GoodIn wsX6_sum (va_wsS RX6 47 yX6_in wsX6_in) := goodIn_app (goodIn_of _ (by decide +kernel)) ggX6_sum_X6_in
set_option maxRecDepth 20000 in
theorem ggX6_sum_X6_findsChoices : GoodIn wsX6_sum wsX6_findsChoices := goodIn_r _ [9, 10, 11, 12, 13, 14, 15, 16, 4, 17, 18, 19, 20, 21, 22, 23, 24, 25, 39, 40, 41, 42, 43, 44, 45, 46, 47, 48, 49, 50, 51, 52, 53, 54, 55, 56, 57, 58] (by decide +kernel) (by decide +kernel)
set_option maxRecDepth 20000 in
theorem gX6_sum_X6_findsChoices : GoodIn wsX6_sum (wsV RX6 109 RX6 yX6_findsChoices wsX6_findsChoices) := goodIn_app (goodIn_of _ (by decide +kernel)) ggX6_sum_X6_findsChoices
set_option maxRecDepth 20000 in
theorem ggX6_sum_X6_takes : GoodIn wsX6_sum wsX6_takes := goodIn_r _ [29, 10, 30, 13, 39, 40, 41, 42, 43, 44, 45, 46, 47, 48, 49, 50, 51, 52, 53, 54, 55, 56, 57, 58] (by decide +kernel) (by decide +kernel)
set_option maxRecDepth 20000 in
theorem gX6_sum_X6_takes : GoodIn wsX6_sum (wsV RX6 167 RX6 yX6_takes wsX6_takes) := goodIn_app (goodIn_of _ (by decide +kernel)) ggX6_sum_X6_takes
set_option maxRecDepth 20000 in
theorem ggX6_sum_X6_weightOf : GoodIn wsX6_sum wsX6_weightOf := goodIn_r _ [34, 30, 14, 15, 16, 4, 17, 11, 39, 40, 41, 42, 43, 44, 45, 46, 47, 48, 49, 50, 51, 52, 53, 54, 55, 56, 57, 58] (by decide +kernel) (by decide +kernel)
set_option maxRecDepth 20000 in
theorem gX6_sum_X6_weightOf : GoodIn wsX6_sum (wsV RX6 190 RX6 yX6_weightOf wsX6_weightOf) := goodIn_app (goodIn_of _ (by decide +kernel)) ggX6_sum_X6_weightOf
set_option maxRecDepth 20000 in
theorem ggX6_sum_X6_mendings : GoodIn wsX6_sum wsX6_mendings := goodIn_r _ [38, 10, 39, 40, 41, 42, 43, 44, 45, 46, 47, 48, 49, 50, 51, 52, 53, 54, 55, 56, 57, 58] (by decide +kernel) (by decide +kernel)
set_option maxRecDepth 20000 in
theorem gX6_sum_X6_mendings : GoodIn wsX6_sum (wsV RX6 112 RX6 yX6_mendings wsX6_mendings) := goodIn_app (goodIn_of _ (by decide +kernel)) ggX6_sum_X6_mendings
theorem dX6_sum_0 : decode cX6_sum 0 = .ok (.iload_n 1, 1) := by decide +kernel
theorem dX6_sum_1 : decode cX6_sum 1 = .ok (.i2l, 1) := by decide +kernel
theorem dX6_sum_2 : decode cX6_sum 2 = .ok (.lconst 0, 1) := by decide +kernel
theorem dX6_sum_3 : decode cX6_sum 3 = .ok (.ldc2_w 188, 3) := by decide +kernel
theorem dX6_sum_6 : decode cX6_sum 6 = .ok (.invokestatic 47, 3) := by decide +kernel
theorem dX6_sum_9 : decode cX6_sum 9 = .ok (.ifCond .ne 6, 3) := by decide +kernel
theorem dX6_sum_12 : decode cX6_sum 12 = .ok (.bipush (-2), 2) := by decide +kernel
theorem dX6_sum_14 : decode cX6_sum 14 = .ok (.ireturn, 1) := by decide +kernel
theorem dX6_sum_15 : decode cX6_sum 15 = .ok (.aload_n 0, 1) := by decide +kernel
theorem dX6_sum_16 : decode cX6_sum 16 = .ok (.invokevirtual 109, 3) := by decide +kernel
theorem dX6_sum_19 : decode cX6_sum 19 = .ok (.aload_n 0, 1) := by decide +kernel
theorem dX6_sum_20 : decode cX6_sum 20 = .ok (.iconst 0, 1) := by decide +kernel
theorem dX6_sum_21 : decode cX6_sum 21 = .ok (.invokevirtual 167, 3) := by decide +kernel
theorem dX6_sum_24 : decode cX6_sum 24 = .ok (.aload_n 0, 1) := by decide +kernel
theorem dX6_sum_25 : decode cX6_sum 25 = .ok (.invokevirtual 190, 3) := by decide +kernel
theorem dX6_sum_28 : decode cX6_sum 28 = .ok (.istore_n 2, 1) := by decide +kernel
theorem dX6_sum_29 : decode cX6_sum 29 = .ok (.iload_n 2, 1) := by decide +kernel
theorem dX6_sum_30 : decode cX6_sum 30 = .ok (.istore_n 3, 1) := by decide +kernel
theorem dX6_sum_31 : decode cX6_sum 31 = .ok (.iconst 0, 1) := by decide +kernel
theorem dX6_sum_32 : decode cX6_sum 32 = .ok (.istore 4, 2) := by decide +kernel
theorem dX6_sum_34 : decode cX6_sum 34 = .ok (.iconst 0, 1) := by decide +kernel
theorem dX6_sum_35 : decode cX6_sum 35 = .ok (.istore 5, 2) := by decide +kernel
theorem dX6_sum_37 : decode cX6_sum 37 = .ok (.iconst 1, 1) := by decide +kernel
theorem dX6_sum_38 : decode cX6_sum 38 = .ok (.istore 6, 2) := by decide +kernel
theorem dX6_sum_40 : decode cX6_sum 40 = .ok (.iload 6, 2) := by decide +kernel
theorem dX6_sum_42 : decode cX6_sum 42 = .ok (.aload_n 0, 1) := by decide +kernel
theorem dX6_sum_43 : decode cX6_sum 43 = .ok (.invokevirtual 112, 3) := by decide +kernel
theorem dX6_sum_46 : decode cX6_sum 46 = .ok (.if_icmp .ge 77, 3) := by decide +kernel
theorem dX6_sum_49 : decode cX6_sum 49 = .ok (.aload_n 0, 1) := by decide +kernel
theorem dX6_sum_50 : decode cX6_sum 50 = .ok (.iload 6, 2) := by decide +kernel
theorem dX6_sum_52 : decode cX6_sum 52 = .ok (.invokevirtual 167, 3) := by decide +kernel
theorem dX6_sum_55 : decode cX6_sum 55 = .ok (.aload_n 0, 1) := by decide +kernel
theorem dX6_sum_56 : decode cX6_sum 56 = .ok (.invokevirtual 190, 3) := by decide +kernel
theorem dX6_sum_59 : decode cX6_sum 59 = .ok (.istore 7, 2) := by decide +kernel
theorem dX6_sum_61 : decode cX6_sum 61 = .ok (.iload 7, 2) := by decide +kernel
theorem dX6_sum_63 : decode cX6_sum 63 = .ok (.iload_n 2, 1) := by decide +kernel
theorem dX6_sum_64 : decode cX6_sum 64 = .ok (.if_icmp .ge 8, 3) := by decide +kernel
theorem dX6_sum_67 : decode cX6_sum 67 = .ok (.iload 6, 2) := by decide +kernel
theorem dX6_sum_69 : decode cX6_sum 69 = .ok (.goto 5, 3) := by decide +kernel
theorem dX6_sum_72 : decode cX6_sum 72 = .ok (.iload 4, 2) := by decide +kernel
theorem dX6_sum_74 : decode cX6_sum 74 = .ok (.istore 4, 2) := by decide +kernel
theorem dX6_sum_76 : decode cX6_sum 76 = .ok (.iload 7, 2) := by decide +kernel
theorem dX6_sum_78 : decode cX6_sum 78 = .ok (.iload_n 2, 1) := by decide +kernel
theorem dX6_sum_79 : decode cX6_sum 79 = .ok (.if_icmp .ge 8, 3) := by decide +kernel
theorem dX6_sum_82 : decode cX6_sum 82 = .ok (.iload 7, 2) := by decide +kernel
theorem dX6_sum_84 : decode cX6_sum 84 = .ok (.goto 4, 3) := by decide +kernel
theorem dX6_sum_87 : decode cX6_sum 87 = .ok (.iload_n 2, 1) := by decide +kernel
theorem dX6_sum_88 : decode cX6_sum 88 = .ok (.istore_n 2, 1) := by decide +kernel
theorem dX6_sum_89 : decode cX6_sum 89 = .ok (.iload 7, 2) := by decide +kernel
theorem dX6_sum_91 : decode cX6_sum 91 = .ok (.iload_n 3, 1) := by decide +kernel
theorem dX6_sum_92 : decode cX6_sum 92 = .ok (.if_icmp .le 8, 3) := by decide +kernel
theorem dX6_sum_95 : decode cX6_sum 95 = .ok (.iload 6, 2) := by decide +kernel
theorem dX6_sum_97 : decode cX6_sum 97 = .ok (.goto 5, 3) := by decide +kernel
theorem dX6_sum_100 : decode cX6_sum 100 = .ok (.iload 5, 2) := by decide +kernel
theorem dX6_sum_102 : decode cX6_sum 102 = .ok (.istore 5, 2) := by decide +kernel
theorem dX6_sum_104 : decode cX6_sum 104 = .ok (.iload 7, 2) := by decide +kernel
theorem dX6_sum_106 : decode cX6_sum 106 = .ok (.iload_n 3, 1) := by decide +kernel
theorem dX6_sum_107 : decode cX6_sum 107 = .ok (.if_icmp .le 8, 3) := by decide +kernel
theorem dX6_sum_110 : decode cX6_sum 110 = .ok (.iload 7, 2) := by decide +kernel
theorem dX6_sum_112 : decode cX6_sum 112 = .ok (.goto 4, 3) := by decide +kernel
theorem dX6_sum_115 : decode cX6_sum 115 = .ok (.iload_n 3, 1) := by decide +kernel
theorem dX6_sum_116 : decode cX6_sum 116 = .ok (.istore_n 3, 1) := by decide +kernel
theorem dX6_sum_117 : decode cX6_sum 117 = .ok (.iinc 6 1, 3) := by decide +kernel
theorem dX6_sum_120 : decode cX6_sum 120 = .ok (.goto (-80), 3) := by decide +kernel
theorem dX6_sum_123 : decode cX6_sum 123 = .ok (.iload_n 1, 1) := by decide +kernel
theorem dX6_sum_124 : decode cX6_sum 124 = .ok (.ifCond .ne 7, 3) := by decide +kernel
theorem dX6_sum_127 : decode cX6_sum 127 = .ok (.iload_n 2, 1) := by decide +kernel
theorem dX6_sum_128 : decode cX6_sum 128 = .ok (.goto 24, 3) := by decide +kernel
theorem dX6_sum_131 : decode cX6_sum 131 = .ok (.iload_n 1, 1) := by decide +kernel
theorem dX6_sum_132 : decode cX6_sum 132 = .ok (.iconst 1, 1) := by decide +kernel
theorem dX6_sum_133 : decode cX6_sum 133 = .ok (.if_icmp .ne 7, 3) := by decide +kernel
theorem dX6_sum_136 : decode cX6_sum 136 = .ok (.iload_n 3, 1) := by decide +kernel
theorem dX6_sum_137 : decode cX6_sum 137 = .ok (.goto 15, 3) := by decide +kernel
theorem dX6_sum_140 : decode cX6_sum 140 = .ok (.iload_n 1, 1) := by decide +kernel
theorem dX6_sum_141 : decode cX6_sum 141 = .ok (.iconst 2, 1) := by decide +kernel
theorem dX6_sum_142 : decode cX6_sum 142 = .ok (.if_icmp .ne 8, 3) := by decide +kernel
theorem dX6_sum_145 : decode cX6_sum 145 = .ok (.iload 4, 2) := by decide +kernel
theorem dX6_sum_147 : decode cX6_sum 147 = .ok (.goto 5, 3) := by decide +kernel
theorem dX6_sum_150 : decode cX6_sum 150 = .ok (.iload 5, 2) := by decide +kernel
theorem dX6_sum_152 : decode cX6_sum 152 = .ok (.ireturn, 1) := by decide +kernel
set_option maxRecDepth 20000 in
theorem ggX6_isSureWay_X6_asksWay : GoodIn wsX6_isSureWay wsX6_asksWay := goodIn_r _ [6, 7, 8, 9, 5, 10, 11, 12, 13, 1, 14, 15, 16, 17, 18, 19, 20, 21, 22, 23, 24, 25, 26, 27, 28, 29, 30, 31, 32, 33, 34, 35, 36, 37, 38, 39, 40, 41, 42, 43, 44, 45, 46, 47, 48, 49, 50, 51, 52, 53, 54, 55, 56, 57, 58, 59, 60, 61, 62, 63, 64, 65, 66, 67, 68, 69, 70] (by decide +kernel) (by decide +kernel)
set_option maxRecDepth 20000 in
theorem gX6_isSureWay_X6_asksWay : GoodIn wsX6_isSureWay (wsV RX6 184 RX6 yX6_asksWay wsX6_asksWay) := goodIn_app (goodIn_of _ (by decide +kernel)) ggX6_isSureWay_X6_asksWay
theorem dX6_isSureWay_0 : decode cX6_isSureWay 0 = .ok (.aload_n 0, 1) := by decide +kernel
theorem dX6_isSureWay_1 : decode cX6_isSureWay 1 = .ok (.iload_n 1, 1) := by decide +kernel
theorem dX6_isSureWay_2 : decode cX6_isSureWay 2 = .ok (.iload_n 2, 1) := by decide +kernel
theorem dX6_isSureWay_3 : decode cX6_isSureWay 3 = .ok (.invokevirtual 184, 3) := by decide +kernel
theorem dX6_isSureWay_6 : decode cX6_isSureWay 6 = .ok (.aload_n 0, 1) := by decide +kernel
theorem dX6_isSureWay_7 : decode cX6_isSureWay 7 = .ok (.getfield 161, 3) := by decide +kernel
theorem dX6_isSureWay_10 : decode cX6_isSureWay 10 = .ok (.bipush (-5), 2) := by decide +kernel
theorem dX6_isSureWay_12 : decode cX6_isSureWay 12 = .ok (.if_icmp .ne 7, 3) := by decide +kernel
theorem dX6_isSureWay_15 : decode cX6_isSureWay 15 = .ok (.iconst 1, 1) := by decide +kernel
theorem dX6_isSureWay_16 : decode cX6_isSureWay 16 = .ok (.goto 4, 3) := by decide +kernel
theorem dX6_isSureWay_19 : decode cX6_isSureWay 19 = .ok (.iconst 0, 1) := by decide +kernel
theorem dX6_isSureWay_20 : decode cX6_isSureWay 20 = .ok (.ireturn, 1) := by decide +kernel
set_option maxRecDepth 20000 in
theorem ggX6_bestRow_X6_isSureWay : GoodIn wsX6_bestRow wsX6_isSureWay := goodIn_r _ [7, 8, 9, 10, 11, 6, 12, 13, 14, 15, 16, 17, 18, 19, 20, 21, 22, 23, 24, 1, 2, 25, 26, 27, 28, 29, 30, 31, 32, 33, 34, 35, 36, 37, 38, 39, 40, 41, 42, 43, 44, 45, 46, 47, 48, 49, 50, 51, 52, 53, 54, 59, 60, 61, 62, 63, 64, 65, 66, 67, 68, 69, 70, 71, 72, 73, 74, 75, 76, 77, 78] (by decide +kernel) (by decide +kernel)
set_option maxRecDepth 20000 in
theorem gX6_bestRow_X6_isSureWay : GoodIn wsX6_bestRow (wsV RX6 193 RX6 yX6_isSureWay wsX6_isSureWay) := goodIn_app (goodIn_of _ (by decide +kernel)) ggX6_bestRow_X6_isSureWay
set_option maxRecDepth 20000 in
theorem ggX6_bestRow_X6_rowsOf : GoodIn wsX6_bestRow wsX6_rowsOf := goodIn_r _ [58, 1, 26, 27, 28, 6, 29, 59, 60, 61, 62, 63, 64, 65, 66, 67, 68, 69, 70, 71, 72, 73, 74, 75, 76, 77, 78] (by decide +kernel) (by decide +kernel)
set_option maxRecDepth 20000 in
theorem gX6_bestRow_X6_rowsOf : GoodIn wsX6_bestRow (wsV RX6 100 RX6 yX6_rowsOf wsX6_rowsOf) := goodIn_app (goodIn_of _ (by decide +kernel)) ggX6_bestRow_X6_rowsOf
set_option maxRecDepth 20000 in
theorem ggX6_bestRow_X6_of : GoodIn wsX6_bestRow wsX6_of := goodIn_r _ [29, 1, 59, 60, 61, 62, 63, 64, 65, 66, 67, 68, 69, 70, 71, 72, 73, 74, 75, 76, 77, 78] (by decide +kernel) (by decide +kernel)
set_option maxRecDepth 20000 in
theorem gX6_bestRow_X6_of : GoodIn wsX6_bestRow (wsV RX6 53 RX6 yX6_of wsX6_of) := goodIn_app (goodIn_of _ (by decide +kernel)) ggX6_bestRow_X6_of
set_option maxRecDepth 20000 in
theorem ggX6_bestRow_X6_canBeKept : GoodIn wsX6_bestRow wsX6_canBeKept := goodIn_r _ [33, 1, 26, 27, 28, 6, 29, 34, 35, 36, 37, 59, 60, 61, 62, 63, 64, 65, 66, 67, 68, 69, 70, 71, 72, 73, 74, 75, 76, 77, 78] (by decide +kernel) (by decide +kernel)
set_option maxRecDepth 20000 in
theorem gX6_bestRow_X6_canBeKept : GoodIn wsX6_bestRow (wsV RX6 65 RX6 yX6_canBeKept wsX6_canBeKept) := goodIn_app (goodIn_of _ (by decide +kernel)) ggX6_bestRow_X6_canBeKept
theorem dX6_bestRow_0 : decode cX6_bestRow 0 = .ok (.aload_n 0, 1) := by decide +kernel
theorem dX6_bestRow_1 : decode cX6_bestRow 1 = .ok (.iload_n 1, 1) := by decide +kernel
theorem dX6_bestRow_2 : decode cX6_bestRow 2 = .ok (.iload_n 2, 1) := by decide +kernel
theorem dX6_bestRow_3 : decode cX6_bestRow 3 = .ok (.invokevirtual 193, 3) := by decide +kernel
theorem dX6_bestRow_6 : decode cX6_bestRow 6 = .ok (.ifCond .eq 6, 3) := by decide +kernel
theorem dX6_bestRow_9 : decode cX6_bestRow 9 = .ok (.bipush (-5), 2) := by decide +kernel
theorem dX6_bestRow_11 : decode cX6_bestRow 11 = .ok (.ireturn, 1) := by decide +kernel
theorem dX6_bestRow_12 : decode cX6_bestRow 12 = .ok (.iconst 0, 1) := by decide +kernel
theorem dX6_bestRow_13 : decode cX6_bestRow 13 = .ok (.istore_n 3, 1) := by decide +kernel
theorem dX6_bestRow_14 : decode cX6_bestRow 14 = .ok (.iload_n 3, 1) := by decide +kernel
theorem dX6_bestRow_15 : decode cX6_bestRow 15 = .ok (.bipush 10, 2) := by decide +kernel
theorem dX6_bestRow_17 : decode cX6_bestRow 17 = .ok (.if_icmp .ge 86, 3) := by decide +kernel
theorem dX6_bestRow_20 : decode cX6_bestRow 20 = .ok (.iconst 0, 1) := by decide +kernel
theorem dX6_bestRow_21 : decode cX6_bestRow 21 = .ok (.istore 4, 2) := by decide +kernel
theorem dX6_bestRow_23 : decode cX6_bestRow 23 = .ok (.iload 4, 2) := by decide +kernel
theorem dX6_bestRow_25 : decode cX6_bestRow 25 = .ok (.aload_n 0, 1) := by decide +kernel
theorem dX6_bestRow_26 : decode cX6_bestRow 26 = .ok (.getfield 7, 3) := by decide +kernel
theorem dX6_bestRow_29 : decode cX6_bestRow 29 = .ok (.iconst 0, 1) := by decide +kernel
theorem dX6_bestRow_30 : decode cX6_bestRow 30 = .ok (.iaload, 1) := by decide +kernel
theorem dX6_bestRow_31 : decode cX6_bestRow 31 = .ok (.if_icmp .ge 66, 3) := by decide +kernel
theorem dX6_bestRow_34 : decode cX6_bestRow 34 = .ok (.aload_n 0, 1) := by decide +kernel
theorem dX6_bestRow_35 : decode cX6_bestRow 35 = .ok (.iload_n 3, 1) := by decide +kernel
theorem dX6_bestRow_36 : decode cX6_bestRow 36 = .ok (.invokevirtual 100, 3) := by decide +kernel
theorem dX6_bestRow_39 : decode cX6_bestRow 39 = .ok (.iconst 1, 1) := by decide +kernel
theorem dX6_bestRow_40 : decode cX6_bestRow 40 = .ok (.if_icmp .le 57, 3) := by decide +kernel
theorem dX6_bestRow_43 : decode cX6_bestRow 43 = .ok (.aload_n 0, 1) := by decide +kernel
theorem dX6_bestRow_44 : decode cX6_bestRow 44 = .ok (.iload 4, 2) := by decide +kernel
theorem dX6_bestRow_46 : decode cX6_bestRow 46 = .ok (.iconst 0, 1) := by decide +kernel
theorem dX6_bestRow_47 : decode cX6_bestRow 47 = .ok (.invokevirtual 53, 3) := by decide +kernel
theorem dX6_bestRow_50 : decode cX6_bestRow 50 = .ok (.iload_n 3, 1) := by decide +kernel
theorem dX6_bestRow_51 : decode cX6_bestRow 51 = .ok (.if_icmp .ne 40, 3) := by decide +kernel
theorem dX6_bestRow_54 : decode cX6_bestRow 54 = .ok (.aload_n 0, 1) := by decide +kernel
theorem dX6_bestRow_55 : decode cX6_bestRow 55 = .ok (.iload 4, 2) := by decide +kernel
theorem dX6_bestRow_57 : decode cX6_bestRow 57 = .ok (.invokevirtual 65, 3) := by decide +kernel
theorem dX6_bestRow_60 : decode cX6_bestRow 60 = .ok (.ifCond .eq 31, 3) := by decide +kernel
theorem dX6_bestRow_63 : decode cX6_bestRow 63 = .ok (.aload_n 0, 1) := by decide +kernel
theorem dX6_bestRow_64 : decode cX6_bestRow 64 = .ok (.iload 4, 2) := by decide +kernel
theorem dX6_bestRow_66 : decode cX6_bestRow 66 = .ok (.putfield 31, 3) := by decide +kernel
theorem dX6_bestRow_69 : decode cX6_bestRow 69 = .ok (.aload_n 0, 1) := by decide +kernel
theorem dX6_bestRow_70 : decode cX6_bestRow 70 = .ok (.iload_n 1, 1) := by decide +kernel
theorem dX6_bestRow_71 : decode cX6_bestRow 71 = .ok (.iload_n 2, 1) := by decide +kernel
theorem dX6_bestRow_72 : decode cX6_bestRow 72 = .ok (.invokevirtual 193, 3) := by decide +kernel
theorem dX6_bestRow_75 : decode cX6_bestRow 75 = .ok (.istore 5, 2) := by decide +kernel
theorem dX6_bestRow_77 : decode cX6_bestRow 77 = .ok (.aload_n 0, 1) := by decide +kernel
theorem dX6_bestRow_78 : decode cX6_bestRow 78 = .ok (.bipush (-5), 2) := by decide +kernel
theorem dX6_bestRow_80 : decode cX6_bestRow 80 = .ok (.putfield 31, 3) := by decide +kernel
theorem dX6_bestRow_83 : decode cX6_bestRow 83 = .ok (.iload 5, 2) := by decide +kernel
theorem dX6_bestRow_85 : decode cX6_bestRow 85 = .ok (.ifCond .eq 6, 3) := by decide +kernel
theorem dX6_bestRow_88 : decode cX6_bestRow 88 = .ok (.iload 4, 2) := by decide +kernel
theorem dX6_bestRow_90 : decode cX6_bestRow 90 = .ok (.ireturn, 1) := by decide +kernel
theorem dX6_bestRow_91 : decode cX6_bestRow 91 = .ok (.iinc 4 1, 3) := by decide +kernel
theorem dX6_bestRow_94 : decode cX6_bestRow 94 = .ok (.goto (-71), 3) := by decide +kernel
theorem dX6_bestRow_97 : decode cX6_bestRow 97 = .ok (.iinc 3 1, 3) := by decide +kernel
theorem dX6_bestRow_100 : decode cX6_bestRow 100 = .ok (.goto (-86), 3) := by decide +kernel
theorem dX6_bestRow_103 : decode cX6_bestRow 103 = .ok (.bipush (-5), 2) := by decide +kernel
theorem dX6_bestRow_105 : decode cX6_bestRow 105 = .ok (.ireturn, 1) := by decide +kernel
set_option maxRecDepth 20000 in
theorem ggX6_bestMended_X6_isKey : GoodIn wsX6_bestMended wsX6_isKey := goodIn_r _ [4, 5, 6, 7, 3, 8] (by decide +kernel) (by decide +kernel)
set_option maxRecDepth 20000 in
theorem gX6_bestMended_X6_isKey : GoodIn wsX6_bestMended (va_wsS RX6 73 yX6_isKey wsX6_isKey) := goodIn_app (goodIn_of _ (by decide +kernel)) ggX6_bestMended_X6_isKey
set_option maxRecDepth 20000 in
theorem ggX6_bestMended_X6_in : GoodIn wsX6_bestMended wsX6_in := goodIn_r _ [8] (by decide +kernel) (by decide +kernel)
set_option maxRecDepth 20000 in
theorem gX6_bestMended_X6_in : GoodIn wsX6_bestMended (va_wsS RX6 47 yX6_in wsX6_in) := goodIn_app (goodIn_of _ (by decide +kernel)) ggX6_bestMended_X6_in
set_option maxRecDepth 20000 in
theorem ggX6_bestMended_X6_bestRow : GoodIn wsX6_bestMended wsX6_bestRow := goodIn_r _ [12, 13, 14, 15, 16, 17, 3, 18, 19, 20, 21, 22, 23, 24, 25, 26, 27, 28, 29, 30, 31, 32, 33, 34, 35, 36, 37, 38, 39, 40, 41, 42, 43, 44, 45, 46, 47, 48, 49, 50, 51, 52, 53, 54, 55, 56, 57, 58, 59, 60, 61, 62, 63, 64, 65, 66, 67, 68, 69, 70, 71, 72, 73, 74, 75, 76, 77, 78, 79, 80, 81, 82, 83, 84, 85, 86, 87, 88, 89] (by decide +kernel) (by decide +kernel)
set_option maxRecDepth 20000 in
theorem gX6_bestMended_X6_bestRow : GoodIn wsX6_bestMended (wsV RX6 196 RX6 yX6_bestRow wsX6_bestRow) := goodIn_app (goodIn_of _ (by decide +kernel)) ggX6_bestMended_X6_bestRow
set_option maxRecDepth 20000 in
theorem ggX6_bestMended_X6_of : GoodIn wsX6_bestMended wsX6_of := goodIn_r _ [40, 13, 70, 71, 72, 73, 74, 75, 76, 77, 78, 79, 80, 81, 82, 83, 84, 85, 86, 87, 88, 89] (by decide +kernel) (by decide +kernel)
set_option maxRecDepth 20000 in
theorem gX6_bestMended_X6_of : GoodIn wsX6_bestMended (wsV RX6 53 RX6 yX6_of wsX6_of) := goodIn_app (goodIn_of _ (by decide +kernel)) ggX6_bestMended_X6_of
theorem dX6_bestMended_0 : decode cX6_bestMended 0 = .ok (.iload_n 1, 1) := by decide +kernel
theorem dX6_bestMended_1 : decode cX6_bestMended 1 = .ok (.invokestatic 73, 3) := by decide +kernel
theorem dX6_bestMended_4 : decode cX6_bestMended 4 = .ok (.ifCond .eq 10, 3) := by decide +kernel
theorem dX6_bestMended_7 : decode cX6_bestMended 7 = .ok (.iload_n 2, 1) := by decide +kernel
theorem dX6_bestMended_8 : decode cX6_bestMended 8 = .ok (.invokestatic 73, 3) := by decide +kernel
theorem dX6_bestMended_11 : decode cX6_bestMended 11 = .ok (.ifCond .ne 5, 3) := by decide +kernel
theorem dX6_bestMended_14 : decode cX6_bestMended 14 = .ok (.iconst (-1), 1) := by decide +kernel
theorem dX6_bestMended_15 : decode cX6_bestMended 15 = .ok (.ireturn, 1) := by decide +kernel
theorem dX6_bestMended_16 : decode cX6_bestMended 16 = .ok (.iload_n 3, 1) := by decide +kernel
theorem dX6_bestMended_17 : decode cX6_bestMended 17 = .ok (.i2l, 1) := by decide +kernel
theorem dX6_bestMended_18 : decode cX6_bestMended 18 = .ok (.lconst 0, 1) := by decide +kernel
theorem dX6_bestMended_19 : decode cX6_bestMended 19 = .ok (.lconst 1, 1) := by decide +kernel
theorem dX6_bestMended_20 : decode cX6_bestMended 20 = .ok (.invokestatic 47, 3) := by decide +kernel
theorem dX6_bestMended_23 : decode cX6_bestMended 23 = .ok (.ifCond .ne 6, 3) := by decide +kernel
theorem dX6_bestMended_26 : decode cX6_bestMended 26 = .ok (.bipush (-2), 2) := by decide +kernel
theorem dX6_bestMended_28 : decode cX6_bestMended 28 = .ok (.ireturn, 1) := by decide +kernel
theorem dX6_bestMended_29 : decode cX6_bestMended 29 = .ok (.aload_n 0, 1) := by decide +kernel
theorem dX6_bestMended_30 : decode cX6_bestMended 30 = .ok (.iload_n 1, 1) := by decide +kernel
theorem dX6_bestMended_31 : decode cX6_bestMended 31 = .ok (.iload_n 2, 1) := by decide +kernel
theorem dX6_bestMended_32 : decode cX6_bestMended 32 = .ok (.invokevirtual 196, 3) := by decide +kernel
theorem dX6_bestMended_35 : decode cX6_bestMended 35 = .ok (.istore 4, 2) := by decide +kernel
theorem dX6_bestMended_37 : decode cX6_bestMended 37 = .ok (.iload 4, 2) := by decide +kernel
theorem dX6_bestMended_39 : decode cX6_bestMended 39 = .ok (.bipush (-5), 2) := by decide +kernel
theorem dX6_bestMended_41 : decode cX6_bestMended 41 = .ok (.if_icmp .eq 8, 3) := by decide +kernel
theorem dX6_bestMended_44 : decode cX6_bestMended 44 = .ok (.iload_n 3, 1) := by decide +kernel
theorem dX6_bestMended_45 : decode cX6_bestMended 45 = .ok (.iconst 1, 1) := by decide +kernel
theorem dX6_bestMended_46 : decode cX6_bestMended 46 = .ok (.if_icmp .ne 8, 3) := by decide +kernel
theorem dX6_bestMended_49 : decode cX6_bestMended 49 = .ok (.iload 4, 2) := by decide +kernel
theorem dX6_bestMended_51 : decode cX6_bestMended 51 = .ok (.goto 10, 3) := by decide +kernel
theorem dX6_bestMended_54 : decode cX6_bestMended 54 = .ok (.aload_n 0, 1) := by decide +kernel
theorem dX6_bestMended_55 : decode cX6_bestMended 55 = .ok (.iload 4, 2) := by decide +kernel
theorem dX6_bestMended_57 : decode cX6_bestMended 57 = .ok (.iconst 0, 1) := by decide +kernel
theorem dX6_bestMended_58 : decode cX6_bestMended 58 = .ok (.invokevirtual 53, 3) := by decide +kernel
theorem dX6_bestMended_61 : decode cX6_bestMended 61 = .ok (.ireturn, 1) := by decide +kernel
set_option maxRecDepth 20000 in
theorem ggX6_keysWith_X6_rowsOf : GoodIn wsX6_keysWith wsX6_rowsOf := goodIn_r _ [5, 6, 7, 8, 9, 4, 10, 11, 12, 13, 14, 15, 16, 17, 18, 19, 20, 21, 22, 23, 24, 25, 26, 27, 28, 29, 30] (by decide +kernel) (by decide +kernel)
set_option maxRecDepth 20000 in
theorem gX6_keysWith_X6_rowsOf : GoodIn wsX6_keysWith (wsV RX6 100 RX6 yX6_rowsOf wsX6_rowsOf) := goodIn_app (goodIn_of _ (by decide +kernel)) ggX6_keysWith_X6_rowsOf
theorem dX6_keysWith_0 : decode cX6_keysWith 0 = .ok (.iconst 0, 1) := by decide +kernel
theorem dX6_keysWith_1 : decode cX6_keysWith 1 = .ok (.istore_n 2, 1) := by decide +kernel
theorem dX6_keysWith_2 : decode cX6_keysWith 2 = .ok (.iconst 0, 1) := by decide +kernel
theorem dX6_keysWith_3 : decode cX6_keysWith 3 = .ok (.istore_n 3, 1) := by decide +kernel
theorem dX6_keysWith_4 : decode cX6_keysWith 4 = .ok (.iload_n 3, 1) := by decide +kernel
theorem dX6_keysWith_5 : decode cX6_keysWith 5 = .ok (.bipush 10, 2) := by decide +kernel
theorem dX6_keysWith_7 : decode cX6_keysWith 7 = .ok (.if_icmp .ge 26, 3) := by decide +kernel
theorem dX6_keysWith_10 : decode cX6_keysWith 10 = .ok (.iload_n 2, 1) := by decide +kernel
theorem dX6_keysWith_11 : decode cX6_keysWith 11 = .ok (.aload_n 0, 1) := by decide +kernel
theorem dX6_keysWith_12 : decode cX6_keysWith 12 = .ok (.iload_n 3, 1) := by decide +kernel
theorem dX6_keysWith_13 : decode cX6_keysWith 13 = .ok (.invokevirtual 100, 3) := by decide +kernel
theorem dX6_keysWith_16 : decode cX6_keysWith 16 = .ok (.iload_n 1, 1) := by decide +kernel
theorem dX6_keysWith_17 : decode cX6_keysWith 17 = .ok (.if_icmp .lt 7, 3) := by decide +kernel
theorem dX6_keysWith_20 : decode cX6_keysWith 20 = .ok (.iconst 1, 1) := by decide +kernel
theorem dX6_keysWith_21 : decode cX6_keysWith 21 = .ok (.goto 4, 3) := by decide +kernel
theorem dX6_keysWith_24 : decode cX6_keysWith 24 = .ok (.iconst 0, 1) := by decide +kernel
theorem dX6_keysWith_25 : decode cX6_keysWith 25 = .ok (.iadd, 1) := by decide +kernel
theorem dX6_keysWith_26 : decode cX6_keysWith 26 = .ok (.istore_n 2, 1) := by decide +kernel
theorem dX6_keysWith_27 : decode cX6_keysWith 27 = .ok (.iinc 3 1, 3) := by decide +kernel
theorem dX6_keysWith_30 : decode cX6_keysWith 30 = .ok (.goto (-26), 3) := by decide +kernel
theorem dX6_keysWith_33 : decode cX6_keysWith 33 = .ok (.iload_n 2, 1) := by decide +kernel
theorem dX6_keysWith_34 : decode cX6_keysWith 34 = .ok (.ireturn, 1) := by decide +kernel
set_option maxRecDepth 20000 in
theorem ggX6_sureRows_X6_isSure : GoodIn wsX6_sureRows wsX6_isSure := goodIn_r _ [6, 7, 8, 9, 10, 5, 11, 1, 12, 13, 14, 15, 16, 17, 18, 19, 20, 21, 22, 23, 24, 25, 26, 27, 28, 29, 30, 31, 32, 33, 34, 35, 36, 37, 38, 39, 40, 41, 42, 43, 44, 45] (by decide +kernel) (by decide +kernel)
set_option maxRecDepth 20000 in
theorem gX6_sureRows_X6_isSure : GoodIn wsX6_sureRows (wsV RX6 146 RX6 yX6_isSure wsX6_isSure) := goodIn_app (goodIn_of _ (by decide +kernel)) ggX6_sureRows_X6_isSure
theorem dX6_sureRows_0 : decode cX6_sureRows 0 = .ok (.iconst 0, 1) := by decide +kernel
theorem dX6_sureRows_1 : decode cX6_sureRows 1 = .ok (.istore_n 1, 1) := by decide +kernel
theorem dX6_sureRows_2 : decode cX6_sureRows 2 = .ok (.iconst 0, 1) := by decide +kernel
theorem dX6_sureRows_3 : decode cX6_sureRows 3 = .ok (.istore_n 2, 1) := by decide +kernel
theorem dX6_sureRows_4 : decode cX6_sureRows 4 = .ok (.iload_n 2, 1) := by decide +kernel
theorem dX6_sureRows_5 : decode cX6_sureRows 5 = .ok (.aload_n 0, 1) := by decide +kernel
theorem dX6_sureRows_6 : decode cX6_sureRows 6 = .ok (.getfield 7, 3) := by decide +kernel
theorem dX6_sureRows_9 : decode cX6_sureRows 9 = .ok (.iconst 0, 1) := by decide +kernel
theorem dX6_sureRows_10 : decode cX6_sureRows 10 = .ok (.iaload, 1) := by decide +kernel
theorem dX6_sureRows_11 : decode cX6_sureRows 11 = .ok (.if_icmp .ge 25, 3) := by decide +kernel
theorem dX6_sureRows_14 : decode cX6_sureRows 14 = .ok (.iload_n 1, 1) := by decide +kernel
theorem dX6_sureRows_15 : decode cX6_sureRows 15 = .ok (.aload_n 0, 1) := by decide +kernel
theorem dX6_sureRows_16 : decode cX6_sureRows 16 = .ok (.iload_n 2, 1) := by decide +kernel
theorem dX6_sureRows_17 : decode cX6_sureRows 17 = .ok (.invokevirtual 146, 3) := by decide +kernel
theorem dX6_sureRows_20 : decode cX6_sureRows 20 = .ok (.ifCond .eq 7, 3) := by decide +kernel
theorem dX6_sureRows_23 : decode cX6_sureRows 23 = .ok (.iconst 1, 1) := by decide +kernel
theorem dX6_sureRows_24 : decode cX6_sureRows 24 = .ok (.goto 4, 3) := by decide +kernel
theorem dX6_sureRows_27 : decode cX6_sureRows 27 = .ok (.iconst 0, 1) := by decide +kernel
theorem dX6_sureRows_28 : decode cX6_sureRows 28 = .ok (.iadd, 1) := by decide +kernel
theorem dX6_sureRows_29 : decode cX6_sureRows 29 = .ok (.istore_n 1, 1) := by decide +kernel
theorem dX6_sureRows_30 : decode cX6_sureRows 30 = .ok (.iinc 2 1, 3) := by decide +kernel
theorem dX6_sureRows_33 : decode cX6_sureRows 33 = .ok (.goto (-29), 3) := by decide +kernel
theorem dX6_sureRows_36 : decode cX6_sureRows 36 = .ok (.iload_n 1, 1) := by decide +kernel
theorem dX6_sureRows_37 : decode cX6_sureRows 37 = .ok (.ireturn, 1) := by decide +kernel
set_option maxRecDepth 20000 in
theorem ggX6_values_X6_asksValue : GoodIn wsX6_values wsX6_asksValue := goodIn_r _ [7, 8, 9, 10, 11, 6, 12, 2, 13, 1, 14, 15, 16, 17, 18, 19, 20, 21, 22, 23, 24, 25, 26, 27, 28, 29, 30, 31, 32, 33, 34, 35, 36, 37, 38, 39, 40, 41, 42, 43, 44, 45, 46, 47, 48, 49, 50, 51, 52, 53, 54, 55, 56, 57, 58, 59, 60, 61, 62, 63, 64, 65, 66, 67, 68, 69, 70] (by decide +kernel) (by decide +kernel)
set_option maxRecDepth 20000 in
theorem gX6_values_X6_asksValue : GoodIn wsX6_values (wsV RX6 181 RX6 yX6_asksValue wsX6_asksValue) := goodIn_app (goodIn_of _ (by decide +kernel)) ggX6_values_X6_asksValue
theorem dX6_values_0 : decode cX6_values 0 = .ok (.iconst 0, 1) := by decide +kernel
theorem dX6_values_1 : decode cX6_values 1 = .ok (.istore_n 2, 1) := by decide +kernel
theorem dX6_values_2 : decode cX6_values 2 = .ok (.iconst 0, 1) := by decide +kernel
theorem dX6_values_3 : decode cX6_values 3 = .ok (.istore_n 3, 1) := by decide +kernel
theorem dX6_values_4 : decode cX6_values 4 = .ok (.iload_n 3, 1) := by decide +kernel
theorem dX6_values_5 : decode cX6_values 5 = .ok (.bipush 8, 2) := by decide +kernel
theorem dX6_values_7 : decode cX6_values 7 = .ok (.if_icmp .ge 45, 3) := by decide +kernel
theorem dX6_values_10 : decode cX6_values 10 = .ok (.aload_n 0, 1) := by decide +kernel
theorem dX6_values_11 : decode cX6_values 11 = .ok (.iload_n 3, 1) := by decide +kernel
theorem dX6_values_12 : decode cX6_values 12 = .ok (.invokevirtual 181, 3) := by decide +kernel
theorem dX6_values_15 : decode cX6_values 15 = .ok (.iload_n 2, 1) := by decide +kernel
theorem dX6_values_16 : decode cX6_values 16 = .ok (.iload_n 1, 1) := by decide +kernel
theorem dX6_values_17 : decode cX6_values 17 = .ok (.ifCond .eq 15, 3) := by decide +kernel
theorem dX6_values_20 : decode cX6_values 20 = .ok (.aload_n 0, 1) := by decide +kernel
theorem dX6_values_21 : decode cX6_values 21 = .ok (.getfield 161, 3) := by decide +kernel
theorem dX6_values_24 : decode cX6_values 24 = .ok (.bipush (-5), 2) := by decide +kernel
theorem dX6_values_26 : decode cX6_values 26 = .ok (.if_icmp .ne 17, 3) := by decide +kernel
theorem dX6_values_29 : decode cX6_values 29 = .ok (.goto 10, 3) := by decide +kernel
theorem dX6_values_32 : decode cX6_values 32 = .ok (.aload_n 0, 1) := by decide +kernel
theorem dX6_values_33 : decode cX6_values 33 = .ok (.getfield 152, 3) := by decide +kernel
theorem dX6_values_36 : decode cX6_values 36 = .ok (.ifCond .le 7, 3) := by decide +kernel
theorem dX6_values_39 : decode cX6_values 39 = .ok (.iconst 1, 1) := by decide +kernel
theorem dX6_values_40 : decode cX6_values 40 = .ok (.goto 4, 3) := by decide +kernel
theorem dX6_values_43 : decode cX6_values 43 = .ok (.iconst 0, 1) := by decide +kernel
theorem dX6_values_44 : decode cX6_values 44 = .ok (.iadd, 1) := by decide +kernel
theorem dX6_values_45 : decode cX6_values 45 = .ok (.istore_n 2, 1) := by decide +kernel
theorem dX6_values_46 : decode cX6_values 46 = .ok (.iinc 3 1, 3) := by decide +kernel
theorem dX6_values_49 : decode cX6_values 49 = .ok (.goto (-45), 3) := by decide +kernel
theorem dX6_values_52 : decode cX6_values 52 = .ok (.iload_n 2, 1) := by decide +kernel
theorem dX6_values_53 : decode cX6_values 53 = .ok (.ireturn, 1) := by decide +kernel
set_option maxRecDepth 20000 in
theorem ggX6_waysThat_X6_findsChoices : GoodIn wsX6_waysThat wsX6_findsChoices := goodIn_r _ [6, 7, 8, 9, 10, 11, 12, 13, 5, 14, 15, 16, 17, 18, 19, 20, 21, 22, 36, 37, 38, 39, 40, 41, 42, 43, 44, 45, 46, 47, 48, 49, 50, 51, 52, 53, 54, 55] (by decide +kernel) (by decide +kernel)
set_option maxRecDepth 20000 in
theorem gX6_waysThat_X6_findsChoices : GoodIn wsX6_waysThat (wsV RX6 109 RX6 yX6_findsChoices wsX6_findsChoices) := goodIn_app (goodIn_of _ (by decide +kernel)) ggX6_waysThat_X6_findsChoices
set_option maxRecDepth 20000 in
theorem ggX6_waysThat_X6_mendings : GoodIn wsX6_waysThat wsX6_mendings := goodIn_r _ [26, 7, 36, 37, 38, 39, 40, 41, 42, 43, 44, 45, 46, 47, 48, 49, 50, 51, 52, 53, 54, 55] (by decide +kernel) (by decide +kernel)
set_option maxRecDepth 20000 in
theorem gX6_waysThat_X6_mendings : GoodIn wsX6_waysThat (wsV RX6 112 RX6 yX6_mendings wsX6_mendings) := goodIn_app (goodIn_of _ (by decide +kernel)) ggX6_waysThat_X6_mendings
set_option maxRecDepth 20000 in
theorem ggX6_waysThat_X6_takes : GoodIn wsX6_waysThat wsX6_takes := goodIn_r _ [30, 7, 31, 10, 36, 37, 38, 39, 40, 41, 42, 43, 44, 45, 46, 47, 48, 49, 50, 51, 52, 53, 54, 55] (by decide +kernel) (by decide +kernel)
set_option maxRecDepth 20000 in
theorem gX6_waysThat_X6_takes : GoodIn wsX6_waysThat (wsV RX6 167 RX6 yX6_takes wsX6_takes) := goodIn_app (goodIn_of _ (by decide +kernel)) ggX6_waysThat_X6_takes
set_option maxRecDepth 20000 in
theorem ggX6_waysThat_X6_wayLong : GoodIn wsX6_waysThat wsX6_wayLong := goodIn_r _ [35, 31, 11, 12, 13, 5, 14, 8, 36, 37, 38, 39, 40, 41, 42, 43, 44, 45, 46, 47, 48, 49, 50, 51, 52, 53, 54, 55] (by decide +kernel) (by decide +kernel)
set_option maxRecDepth 20000 in
theorem gX6_waysThat_X6_wayLong : GoodIn wsX6_waysThat (wsV RX6 176 RX6 yX6_wayLong wsX6_wayLong) := goodIn_app (goodIn_of _ (by decide +kernel)) ggX6_waysThat_X6_wayLong
theorem dX6_waysThat_0 : decode cX6_waysThat 0 = .ok (.aload_n 0, 1) := by decide +kernel
theorem dX6_waysThat_1 : decode cX6_waysThat 1 = .ok (.invokevirtual 109, 3) := by decide +kernel
theorem dX6_waysThat_4 : decode cX6_waysThat 4 = .ok (.iconst 0, 1) := by decide +kernel
theorem dX6_waysThat_5 : decode cX6_waysThat 5 = .ok (.istore_n 2, 1) := by decide +kernel
theorem dX6_waysThat_6 : decode cX6_waysThat 6 = .ok (.iconst 0, 1) := by decide +kernel
theorem dX6_waysThat_7 : decode cX6_waysThat 7 = .ok (.istore_n 3, 1) := by decide +kernel
theorem dX6_waysThat_8 : decode cX6_waysThat 8 = .ok (.iload_n 3, 1) := by decide +kernel
theorem dX6_waysThat_9 : decode cX6_waysThat 9 = .ok (.bipush 100, 2) := by decide +kernel
theorem dX6_waysThat_11 : decode cX6_waysThat 11 = .ok (.if_icmp .ge 16, 3) := by decide +kernel
theorem dX6_waysThat_14 : decode cX6_waysThat 14 = .ok (.aload_n 0, 1) := by decide +kernel
theorem dX6_waysThat_15 : decode cX6_waysThat 15 = .ok (.getfield 41, 3) := by decide +kernel
theorem dX6_waysThat_18 : decode cX6_waysThat 18 = .ok (.iload_n 3, 1) := by decide +kernel
theorem dX6_waysThat_19 : decode cX6_waysThat 19 = .ok (.iconst 0, 1) := by decide +kernel
theorem dX6_waysThat_20 : decode cX6_waysThat 20 = .ok (.iastore, 1) := by decide +kernel
theorem dX6_waysThat_21 : decode cX6_waysThat 21 = .ok (.iinc 3 1, 3) := by decide +kernel
theorem dX6_waysThat_24 : decode cX6_waysThat 24 = .ok (.goto (-16), 3) := by decide +kernel
theorem dX6_waysThat_27 : decode cX6_waysThat 27 = .ok (.iconst 0, 1) := by decide +kernel
theorem dX6_waysThat_28 : decode cX6_waysThat 28 = .ok (.istore_n 2, 1) := by decide +kernel
theorem dX6_waysThat_29 : decode cX6_waysThat 29 = .ok (.iload_n 2, 1) := by decide +kernel
theorem dX6_waysThat_30 : decode cX6_waysThat 30 = .ok (.aload_n 0, 1) := by decide +kernel
theorem dX6_waysThat_31 : decode cX6_waysThat 31 = .ok (.invokevirtual 112, 3) := by decide +kernel
theorem dX6_waysThat_34 : decode cX6_waysThat 34 = .ok (.if_icmp .ge 59, 3) := by decide +kernel
theorem dX6_waysThat_37 : decode cX6_waysThat 37 = .ok (.aload_n 0, 1) := by decide +kernel
theorem dX6_waysThat_38 : decode cX6_waysThat 38 = .ok (.iload_n 2, 1) := by decide +kernel
theorem dX6_waysThat_39 : decode cX6_waysThat 39 = .ok (.invokevirtual 167, 3) := by decide +kernel
theorem dX6_waysThat_42 : decode cX6_waysThat 42 = .ok (.iconst 0, 1) := by decide +kernel
theorem dX6_waysThat_43 : decode cX6_waysThat 43 = .ok (.istore_n 3, 1) := by decide +kernel
theorem dX6_waysThat_44 : decode cX6_waysThat 44 = .ok (.iload_n 3, 1) := by decide +kernel
theorem dX6_waysThat_45 : decode cX6_waysThat 45 = .ok (.bipush 100, 2) := by decide +kernel
theorem dX6_waysThat_47 : decode cX6_waysThat 47 = .ok (.if_icmp .ge 40, 3) := by decide +kernel
theorem dX6_waysThat_50 : decode cX6_waysThat 50 = .ok (.aload_n 0, 1) := by decide +kernel
theorem dX6_waysThat_51 : decode cX6_waysThat 51 = .ok (.getfield 41, 3) := by decide +kernel
theorem dX6_waysThat_54 : decode cX6_waysThat 54 = .ok (.iload_n 3, 1) := by decide +kernel
theorem dX6_waysThat_55 : decode cX6_waysThat 55 = .ok (.dup2, 1) := by decide +kernel
theorem dX6_waysThat_56 : decode cX6_waysThat 56 = .ok (.iaload, 1) := by decide +kernel
theorem dX6_waysThat_57 : decode cX6_waysThat 57 = .ok (.aload_n 0, 1) := by decide +kernel
theorem dX6_waysThat_58 : decode cX6_waysThat 58 = .ok (.iload_n 3, 1) := by decide +kernel
theorem dX6_waysThat_59 : decode cX6_waysThat 59 = .ok (.bipush 10, 2) := by decide +kernel
theorem dX6_waysThat_61 : decode cX6_waysThat 61 = .ok (.idiv, 1) := by decide +kernel
theorem dX6_waysThat_62 : decode cX6_waysThat 62 = .ok (.iload_n 3, 1) := by decide +kernel
theorem dX6_waysThat_63 : decode cX6_waysThat 63 = .ok (.bipush 10, 2) := by decide +kernel
theorem dX6_waysThat_65 : decode cX6_waysThat 65 = .ok (.irem, 1) := by decide +kernel
theorem dX6_waysThat_66 : decode cX6_waysThat 66 = .ok (.invokevirtual 176, 3) := by decide +kernel
theorem dX6_waysThat_69 : decode cX6_waysThat 69 = .ok (.bipush (-5), 2) := by decide +kernel
theorem dX6_waysThat_71 : decode cX6_waysThat 71 = .ok (.if_icmp .ne 7, 3) := by decide +kernel
theorem dX6_waysThat_74 : decode cX6_waysThat 74 = .ok (.iconst 0, 1) := by decide +kernel
theorem dX6_waysThat_75 : decode cX6_waysThat 75 = .ok (.goto 4, 3) := by decide +kernel
theorem dX6_waysThat_78 : decode cX6_waysThat 78 = .ok (.iconst 1, 1) := by decide +kernel
theorem dX6_waysThat_79 : decode cX6_waysThat 79 = .ok (.iadd, 1) := by decide +kernel
theorem dX6_waysThat_80 : decode cX6_waysThat 80 = .ok (.iastore, 1) := by decide +kernel
theorem dX6_waysThat_81 : decode cX6_waysThat 81 = .ok (.iinc 3 1, 3) := by decide +kernel
theorem dX6_waysThat_84 : decode cX6_waysThat 84 = .ok (.goto (-40), 3) := by decide +kernel
theorem dX6_waysThat_87 : decode cX6_waysThat 87 = .ok (.iinc 2 1, 3) := by decide +kernel
theorem dX6_waysThat_90 : decode cX6_waysThat 90 = .ok (.goto (-61), 3) := by decide +kernel
theorem dX6_waysThat_93 : decode cX6_waysThat 93 = .ok (.iconst 0, 1) := by decide +kernel
theorem dX6_waysThat_94 : decode cX6_waysThat 94 = .ok (.istore_n 3, 1) := by decide +kernel
theorem dX6_waysThat_95 : decode cX6_waysThat 95 = .ok (.iconst 0, 1) := by decide +kernel
theorem dX6_waysThat_96 : decode cX6_waysThat 96 = .ok (.istore 4, 2) := by decide +kernel
theorem dX6_waysThat_98 : decode cX6_waysThat 98 = .ok (.iload 4, 2) := by decide +kernel
theorem dX6_waysThat_100 : decode cX6_waysThat 100 = .ok (.bipush 100, 2) := by decide +kernel
theorem dX6_waysThat_102 : decode cX6_waysThat 102 = .ok (.if_icmp .ge 42, 3) := by decide +kernel
theorem dX6_waysThat_105 : decode cX6_waysThat 105 = .ok (.iload_n 3, 1) := by decide +kernel
theorem dX6_waysThat_106 : decode cX6_waysThat 106 = .ok (.aload_n 0, 1) := by decide +kernel
theorem dX6_waysThat_107 : decode cX6_waysThat 107 = .ok (.getfield 41, 3) := by decide +kernel
theorem dX6_waysThat_110 : decode cX6_waysThat 110 = .ok (.iload 4, 2) := by decide +kernel
theorem dX6_waysThat_112 : decode cX6_waysThat 112 = .ok (.iaload, 1) := by decide +kernel
theorem dX6_waysThat_113 : decode cX6_waysThat 113 = .ok (.ifCond .le 22, 3) := by decide +kernel
theorem dX6_waysThat_116 : decode cX6_waysThat 116 = .ok (.iload_n 1, 1) := by decide +kernel
theorem dX6_waysThat_117 : decode cX6_waysThat 117 = .ok (.ifCond .eq 14, 3) := by decide +kernel
theorem dX6_waysThat_120 : decode cX6_waysThat 120 = .ok (.aload_n 0, 1) := by decide +kernel
theorem dX6_waysThat_121 : decode cX6_waysThat 121 = .ok (.getfield 41, 3) := by decide +kernel
theorem dX6_waysThat_124 : decode cX6_waysThat 124 = .ok (.iload 4, 2) := by decide +kernel
theorem dX6_waysThat_126 : decode cX6_waysThat 126 = .ok (.iaload, 1) := by decide +kernel
theorem dX6_waysThat_127 : decode cX6_waysThat 127 = .ok (.iload_n 2, 1) := by decide +kernel
theorem dX6_waysThat_128 : decode cX6_waysThat 128 = .ok (.if_icmp .ne 7, 3) := by decide +kernel
theorem dX6_waysThat_131 : decode cX6_waysThat 131 = .ok (.iconst 1, 1) := by decide +kernel
theorem dX6_waysThat_132 : decode cX6_waysThat 132 = .ok (.goto 4, 3) := by decide +kernel
theorem dX6_waysThat_135 : decode cX6_waysThat 135 = .ok (.iconst 0, 1) := by decide +kernel
theorem dX6_waysThat_136 : decode cX6_waysThat 136 = .ok (.iadd, 1) := by decide +kernel
theorem dX6_waysThat_137 : decode cX6_waysThat 137 = .ok (.istore_n 3, 1) := by decide +kernel
theorem dX6_waysThat_138 : decode cX6_waysThat 138 = .ok (.iinc 4 1, 3) := by decide +kernel
theorem dX6_waysThat_141 : decode cX6_waysThat 141 = .ok (.goto (-43), 3) := by decide +kernel
theorem dX6_waysThat_144 : decode cX6_waysThat 144 = .ok (.iload_n 3, 1) := by decide +kernel
theorem dX6_waysThat_145 : decode cX6_waysThat 145 = .ok (.ireturn, 1) := by decide +kernel
set_option maxRecDepth 20000 in
theorem ggX6_count_X6_keysWith : GoodIn wsX6_count wsX6_keysWith := goodIn_r _ [8, 9, 10, 11, 7, 12, 1, 13, 14, 15, 16, 82, 83, 84, 85, 86, 87, 88, 89, 90, 91, 92, 93, 94, 95, 96, 97, 98, 99, 100, 101] (by decide +kernel) (by decide +kernel)
set_option maxRecDepth 20000 in
theorem gX6_count_X6_keysWith : GoodIn wsX6_count (wsV RX6 199 RX6 yX6_keysWith wsX6_keysWith) := goodIn_app (goodIn_of _ (by decide +kernel)) ggX6_count_X6_keysWith
set_option maxRecDepth 20000 in
theorem ggX6_count_X6_findsChoices : GoodIn wsX6_count wsX6_findsChoices := goodIn_r _ [20, 21, 1, 22, 23, 13, 14, 15, 7, 16, 24, 25, 26, 27, 28, 29, 30, 31, 82, 83, 84, 85, 86, 87, 88, 89, 90, 91, 92, 93, 94, 95, 96, 97, 98, 99, 100, 101] (by decide +kernel) (by decide +kernel)
set_option maxRecDepth 20000 in
theorem gX6_count_X6_findsChoices : GoodIn wsX6_count (wsV RX6 109 RX6 yX6_findsChoices wsX6_findsChoices) := goodIn_app (goodIn_of _ (by decide +kernel)) ggX6_count_X6_findsChoices
set_option maxRecDepth 20000 in
theorem ggX6_count_X6_mendings : GoodIn wsX6_count wsX6_mendings := goodIn_r _ [35, 21, 82, 83, 84, 85, 86, 87, 88, 89, 90, 91, 92, 93, 94, 95, 96, 97, 98, 99, 100, 101] (by decide +kernel) (by decide +kernel)
set_option maxRecDepth 20000 in
theorem gX6_count_X6_mendings : GoodIn wsX6_count (wsV RX6 112 RX6 yX6_mendings wsX6_mendings) := goodIn_app (goodIn_of _ (by decide +kernel)) ggX6_count_X6_mendings
set_option maxRecDepth 20000 in
theorem ggX6_count_X6_sureRows : GoodIn wsX6_count wsX6_sureRows := goodIn_r _ [39, 1, 40, 41, 42, 7, 43, 21, 17, 18, 19, 20, 22, 23, 13, 14, 15, 16, 24, 25, 26, 27, 28, 29, 30, 31, 82, 83, 84, 85, 86, 87, 88, 89, 90, 91, 92, 93, 94, 95, 96, 97, 98, 99, 100, 101] (by decide +kernel) (by decide +kernel)
set_option maxRecDepth 20000 in
theorem gX6_count_X6_sureRows : GoodIn wsX6_count (wsV RX6 202 RX6 yX6_sureRows wsX6_sureRows) := goodIn_app (goodIn_of _ (by decide +kernel)) ggX6_count_X6_sureRows
set_option maxRecDepth 20000 in
theorem ggX6_count_X6_values : GoodIn wsX6_count wsX6_values := goodIn_r _ [47, 48, 49, 50, 51, 52, 7, 53, 54, 55, 56, 57, 58, 59, 17, 18, 19, 20, 21, 1, 22, 23, 13, 14, 15, 16, 24, 25, 26, 27, 28, 29, 30, 31, 32, 33, 34, 35, 60, 61, 62, 63, 64, 65, 66, 67, 68, 69, 70, 71, 72, 82, 83, 84, 85, 86, 87, 88, 89, 90, 91, 92, 93, 94, 95, 96, 97, 98, 99, 100, 101] (by decide +kernel) (by decide +kernel)
set_option maxRecDepth 20000 in
theorem gX6_count_X6_values : GoodIn wsX6_count (wsV RX6 205 RX6 yX6_values wsX6_values) := goodIn_app (goodIn_of _ (by decide +kernel)) ggX6_count_X6_values
set_option maxRecDepth 20000 in
theorem ggX6_count_X6_waysThat : GoodIn wsX6_count wsX6_waysThat := goodIn_r _ [76, 77, 17, 18, 19, 7, 20, 21, 1, 22, 23, 13, 14, 15, 16, 24, 25, 26, 27, 28, 29, 30, 31, 32, 33, 34, 35, 60, 61, 62, 63, 64, 78, 79, 80, 81, 82, 83, 84, 85, 86, 87, 88, 89, 90, 91, 92, 93, 94, 95, 96, 97, 98, 99, 100, 101] (by decide +kernel) (by decide +kernel)
set_option maxRecDepth 20000 in
theorem gX6_count_X6_waysThat : GoodIn wsX6_count (wsV RX6 209 RX6 yX6_waysThat wsX6_waysThat) := goodIn_app (goodIn_of _ (by decide +kernel)) ggX6_count_X6_waysThat
theorem dX6_count_0 : decode cX6_count 0 = .ok (.iload_n 1, 1) := by decide +kernel
theorem dX6_count_1 : decode cX6_count 1 = .ok (.tableswitch 144 0 11 #[63, 70, 76, 82, 91, 96, 96, 111, 111, 127, 134, 139], 63) := by decide +kernel
theorem dX6_count_64 : decode cX6_count 64 = .ok (.aload_n 0, 1) := by decide +kernel
theorem dX6_count_65 : decode cX6_count 65 = .ok (.getfield 7, 3) := by decide +kernel
theorem dX6_count_68 : decode cX6_count 68 = .ok (.iconst 0, 1) := by decide +kernel
theorem dX6_count_69 : decode cX6_count 69 = .ok (.iaload, 1) := by decide +kernel
theorem dX6_count_70 : decode cX6_count 70 = .ok (.ireturn, 1) := by decide +kernel
theorem dX6_count_71 : decode cX6_count 71 = .ok (.aload_n 0, 1) := by decide +kernel
theorem dX6_count_72 : decode cX6_count 72 = .ok (.iconst 1, 1) := by decide +kernel
theorem dX6_count_73 : decode cX6_count 73 = .ok (.invokevirtual 199, 3) := by decide +kernel
theorem dX6_count_76 : decode cX6_count 76 = .ok (.ireturn, 1) := by decide +kernel
theorem dX6_count_77 : decode cX6_count 77 = .ok (.aload_n 0, 1) := by decide +kernel
theorem dX6_count_78 : decode cX6_count 78 = .ok (.iconst 2, 1) := by decide +kernel
theorem dX6_count_79 : decode cX6_count 79 = .ok (.invokevirtual 199, 3) := by decide +kernel
theorem dX6_count_82 : decode cX6_count 82 = .ok (.ireturn, 1) := by decide +kernel
theorem dX6_count_83 : decode cX6_count 83 = .ok (.aload_n 0, 1) := by decide +kernel
theorem dX6_count_84 : decode cX6_count 84 = .ok (.invokevirtual 109, 3) := by decide +kernel
theorem dX6_count_87 : decode cX6_count 87 = .ok (.aload_n 0, 1) := by decide +kernel
theorem dX6_count_88 : decode cX6_count 88 = .ok (.invokevirtual 112, 3) := by decide +kernel
theorem dX6_count_91 : decode cX6_count 91 = .ok (.ireturn, 1) := by decide +kernel
theorem dX6_count_92 : decode cX6_count 92 = .ok (.aload_n 0, 1) := by decide +kernel
theorem dX6_count_93 : decode cX6_count 93 = .ok (.invokevirtual 202, 3) := by decide +kernel
theorem dX6_count_96 : decode cX6_count 96 = .ok (.ireturn, 1) := by decide +kernel
theorem dX6_count_97 : decode cX6_count 97 = .ok (.aload_n 0, 1) := by decide +kernel
theorem dX6_count_98 : decode cX6_count 98 = .ok (.iload_n 1, 1) := by decide +kernel
theorem dX6_count_99 : decode cX6_count 99 = .ok (.iconst 5, 1) := by decide +kernel
theorem dX6_count_100 : decode cX6_count 100 = .ok (.if_icmp .ne 7, 3) := by decide +kernel
theorem dX6_count_103 : decode cX6_count 103 = .ok (.iconst 1, 1) := by decide +kernel
theorem dX6_count_104 : decode cX6_count 104 = .ok (.goto 4, 3) := by decide +kernel
theorem dX6_count_107 : decode cX6_count 107 = .ok (.iconst 0, 1) := by decide +kernel
theorem dX6_count_108 : decode cX6_count 108 = .ok (.invokevirtual 205, 3) := by decide +kernel
theorem dX6_count_111 : decode cX6_count 111 = .ok (.ireturn, 1) := by decide +kernel
theorem dX6_count_112 : decode cX6_count 112 = .ok (.aload_n 0, 1) := by decide +kernel
theorem dX6_count_113 : decode cX6_count 113 = .ok (.iload_n 1, 1) := by decide +kernel
theorem dX6_count_114 : decode cX6_count 114 = .ok (.bipush 7, 2) := by decide +kernel
theorem dX6_count_116 : decode cX6_count 116 = .ok (.if_icmp .ne 7, 3) := by decide +kernel
theorem dX6_count_119 : decode cX6_count 119 = .ok (.iconst 1, 1) := by decide +kernel
theorem dX6_count_120 : decode cX6_count 120 = .ok (.goto 4, 3) := by decide +kernel
theorem dX6_count_123 : decode cX6_count 123 = .ok (.iconst 0, 1) := by decide +kernel
theorem dX6_count_124 : decode cX6_count 124 = .ok (.invokevirtual 209, 3) := by decide +kernel
theorem dX6_count_127 : decode cX6_count 127 = .ok (.ireturn, 1) := by decide +kernel
theorem dX6_count_128 : decode cX6_count 128 = .ok (.aload_n 0, 1) := by decide +kernel
theorem dX6_count_129 : decode cX6_count 129 = .ok (.getfield 7, 3) := by decide +kernel
theorem dX6_count_132 : decode cX6_count 132 = .ok (.iconst 1, 1) := by decide +kernel
theorem dX6_count_133 : decode cX6_count 133 = .ok (.iaload, 1) := by decide +kernel
theorem dX6_count_134 : decode cX6_count 134 = .ok (.ireturn, 1) := by decide +kernel
theorem dX6_count_135 : decode cX6_count 135 = .ok (.aload_n 0, 1) := by decide +kernel
theorem dX6_count_136 : decode cX6_count 136 = .ok (.getfield 44, 3) := by decide +kernel
theorem dX6_count_139 : decode cX6_count 139 = .ok (.ireturn, 1) := by decide +kernel
theorem dX6_count_140 : decode cX6_count 140 = .ok (.aload_n 0, 1) := by decide +kernel
theorem dX6_count_141 : decode cX6_count 141 = .ok (.getfield 116, 3) := by decide +kernel
theorem dX6_count_144 : decode cX6_count 144 = .ok (.ireturn, 1) := by decide +kernel
theorem dX6_count_145 : decode cX6_count 145 = .ok (.bipush (-2), 2) := by decide +kernel
theorem dX6_count_147 : decode cX6_count 147 = .ok (.ireturn, 1) := by decide +kernel
theorem dJ6_bitCount_0f7a4_0 : decode cJ6_bitCount_0f7a4 0 = .ok (.iload_n 0, 1) := by decide +kernel
theorem dJ6_bitCount_0f7a4_1 : decode cJ6_bitCount_0f7a4 1 = .ok (.iload_n 0, 1) := by decide +kernel
theorem dJ6_bitCount_0f7a4_2 : decode cJ6_bitCount_0f7a4 2 = .ok (.iconst 1, 1) := by decide +kernel
theorem dJ6_bitCount_0f7a4_3 : decode cJ6_bitCount_0f7a4 3 = .ok (.iushr, 1) := by decide +kernel
theorem dJ6_bitCount_0f7a4_4 : decode cJ6_bitCount_0f7a4 4 = .ok (.ldc_w 265, 3) := by decide +kernel
theorem dJ6_bitCount_0f7a4_7 : decode cJ6_bitCount_0f7a4 7 = .ok (.iand, 1) := by decide +kernel
theorem dJ6_bitCount_0f7a4_8 : decode cJ6_bitCount_0f7a4 8 = .ok (.isub, 1) := by decide +kernel
theorem dJ6_bitCount_0f7a4_9 : decode cJ6_bitCount_0f7a4 9 = .ok (.istore_n 0, 1) := by decide +kernel
theorem dJ6_bitCount_0f7a4_10 : decode cJ6_bitCount_0f7a4 10 = .ok (.iload_n 0, 1) := by decide +kernel
theorem dJ6_bitCount_0f7a4_11 : decode cJ6_bitCount_0f7a4 11 = .ok (.ldc_w 266, 3) := by decide +kernel
theorem dJ6_bitCount_0f7a4_14 : decode cJ6_bitCount_0f7a4 14 = .ok (.iand, 1) := by decide +kernel
theorem dJ6_bitCount_0f7a4_15 : decode cJ6_bitCount_0f7a4 15 = .ok (.iload_n 0, 1) := by decide +kernel
theorem dJ6_bitCount_0f7a4_16 : decode cJ6_bitCount_0f7a4 16 = .ok (.iconst 2, 1) := by decide +kernel
theorem dJ6_bitCount_0f7a4_17 : decode cJ6_bitCount_0f7a4 17 = .ok (.iushr, 1) := by decide +kernel
theorem dJ6_bitCount_0f7a4_18 : decode cJ6_bitCount_0f7a4 18 = .ok (.ldc_w 266, 3) := by decide +kernel
theorem dJ6_bitCount_0f7a4_21 : decode cJ6_bitCount_0f7a4 21 = .ok (.iand, 1) := by decide +kernel
theorem dJ6_bitCount_0f7a4_22 : decode cJ6_bitCount_0f7a4 22 = .ok (.iadd, 1) := by decide +kernel
theorem dJ6_bitCount_0f7a4_23 : decode cJ6_bitCount_0f7a4 23 = .ok (.istore_n 0, 1) := by decide +kernel
theorem dJ6_bitCount_0f7a4_24 : decode cJ6_bitCount_0f7a4 24 = .ok (.iload_n 0, 1) := by decide +kernel
theorem dJ6_bitCount_0f7a4_25 : decode cJ6_bitCount_0f7a4 25 = .ok (.iload_n 0, 1) := by decide +kernel
theorem dJ6_bitCount_0f7a4_26 : decode cJ6_bitCount_0f7a4 26 = .ok (.iconst 4, 1) := by decide +kernel
theorem dJ6_bitCount_0f7a4_27 : decode cJ6_bitCount_0f7a4 27 = .ok (.iushr, 1) := by decide +kernel
theorem dJ6_bitCount_0f7a4_28 : decode cJ6_bitCount_0f7a4 28 = .ok (.iadd, 1) := by decide +kernel
theorem dJ6_bitCount_0f7a4_29 : decode cJ6_bitCount_0f7a4 29 = .ok (.ldc_w 267, 3) := by decide +kernel
theorem dJ6_bitCount_0f7a4_32 : decode cJ6_bitCount_0f7a4 32 = .ok (.iand, 1) := by decide +kernel
theorem dJ6_bitCount_0f7a4_33 : decode cJ6_bitCount_0f7a4 33 = .ok (.istore_n 0, 1) := by decide +kernel
theorem dJ6_bitCount_0f7a4_34 : decode cJ6_bitCount_0f7a4 34 = .ok (.iload_n 0, 1) := by decide +kernel
theorem dJ6_bitCount_0f7a4_35 : decode cJ6_bitCount_0f7a4 35 = .ok (.iload_n 0, 1) := by decide +kernel
theorem dJ6_bitCount_0f7a4_36 : decode cJ6_bitCount_0f7a4 36 = .ok (.bipush 8, 2) := by decide +kernel
theorem dJ6_bitCount_0f7a4_38 : decode cJ6_bitCount_0f7a4 38 = .ok (.iushr, 1) := by decide +kernel
theorem dJ6_bitCount_0f7a4_39 : decode cJ6_bitCount_0f7a4 39 = .ok (.iadd, 1) := by decide +kernel
theorem dJ6_bitCount_0f7a4_40 : decode cJ6_bitCount_0f7a4 40 = .ok (.istore_n 0, 1) := by decide +kernel
theorem dJ6_bitCount_0f7a4_41 : decode cJ6_bitCount_0f7a4 41 = .ok (.iload_n 0, 1) := by decide +kernel
theorem dJ6_bitCount_0f7a4_42 : decode cJ6_bitCount_0f7a4 42 = .ok (.iload_n 0, 1) := by decide +kernel
theorem dJ6_bitCount_0f7a4_43 : decode cJ6_bitCount_0f7a4 43 = .ok (.bipush 16, 2) := by decide +kernel
theorem dJ6_bitCount_0f7a4_45 : decode cJ6_bitCount_0f7a4 45 = .ok (.iushr, 1) := by decide +kernel
theorem dJ6_bitCount_0f7a4_46 : decode cJ6_bitCount_0f7a4 46 = .ok (.iadd, 1) := by decide +kernel
theorem dJ6_bitCount_0f7a4_47 : decode cJ6_bitCount_0f7a4 47 = .ok (.istore_n 0, 1) := by decide +kernel
theorem dJ6_bitCount_0f7a4_48 : decode cJ6_bitCount_0f7a4 48 = .ok (.iload_n 0, 1) := by decide +kernel
theorem dJ6_bitCount_0f7a4_49 : decode cJ6_bitCount_0f7a4 49 = .ok (.bipush 63, 2) := by decide +kernel
theorem dJ6_bitCount_0f7a4_51 : decode cJ6_bitCount_0f7a4 51 = .ok (.iand, 1) := by decide +kernel
theorem dJ6_bitCount_0f7a4_52 : decode cJ6_bitCount_0f7a4 52 = .ok (.ireturn, 1) := by decide +kernel
theorem dJ9_min_7cf53_0 : decode cJ9_min_7cf53 0 = .ok (.iload_n 0, 1) := by decide +kernel
theorem dJ9_min_7cf53_1 : decode cJ9_min_7cf53 1 = .ok (.iload_n 1, 1) := by decide +kernel
theorem dJ9_min_7cf53_2 : decode cJ9_min_7cf53 2 = .ok (.if_icmp .gt 7, 3) := by decide +kernel
theorem dJ9_min_7cf53_5 : decode cJ9_min_7cf53 5 = .ok (.iload_n 0, 1) := by decide +kernel
theorem dJ9_min_7cf53_6 : decode cJ9_min_7cf53 6 = .ok (.goto 4, 3) := by decide +kernel
theorem dJ9_min_7cf53_9 : decode cJ9_min_7cf53 9 = .ok (.iload_n 1, 1) := by decide +kernel
theorem dJ9_min_7cf53_10 : decode cJ9_min_7cf53 10 = .ok (.ireturn, 1) := by decide +kernel
theorem dJ7_fill_53178_0 : decode cJ7_fill_53178 0 = .ok (.iconst 0, 1) := by decide +kernel
theorem dJ7_fill_53178_1 : decode cJ7_fill_53178 1 = .ok (.istore_n 2, 1) := by decide +kernel
theorem dJ7_fill_53178_2 : decode cJ7_fill_53178 2 = .ok (.aload_n 0, 1) := by decide +kernel
theorem dJ7_fill_53178_3 : decode cJ7_fill_53178 3 = .ok (.arraylength, 1) := by decide +kernel
theorem dJ7_fill_53178_4 : decode cJ7_fill_53178 4 = .ok (.istore_n 3, 1) := by decide +kernel
theorem dJ7_fill_53178_5 : decode cJ7_fill_53178 5 = .ok (.iload_n 2, 1) := by decide +kernel
theorem dJ7_fill_53178_6 : decode cJ7_fill_53178 6 = .ok (.iload_n 3, 1) := by decide +kernel
theorem dJ7_fill_53178_7 : decode cJ7_fill_53178 7 = .ok (.if_icmp .ge 13, 3) := by decide +kernel
theorem dJ7_fill_53178_10 : decode cJ7_fill_53178 10 = .ok (.aload_n 0, 1) := by decide +kernel
theorem dJ7_fill_53178_11 : decode cJ7_fill_53178 11 = .ok (.iload_n 2, 1) := by decide +kernel
theorem dJ7_fill_53178_12 : decode cJ7_fill_53178 12 = .ok (.iload_n 1, 1) := by decide +kernel
theorem dJ7_fill_53178_13 : decode cJ7_fill_53178 13 = .ok (.iastore, 1) := by decide +kernel
theorem dJ7_fill_53178_14 : decode cJ7_fill_53178 14 = .ok (.iinc 2 1, 3) := by decide +kernel
theorem dJ7_fill_53178_17 : decode cJ7_fill_53178 17 = .ok (.goto (-12), 3) := by decide +kernel
theorem dJ7_fill_53178_20 : decode cJ7_fill_53178 20 = .ok (.return_, 1) := by decide +kernel
