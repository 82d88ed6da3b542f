theorem dX0_init_0 : decode cX0_init 0 = .ok (.aload_n 0, 1) := by decide +kernel
theorem dX0_init_1 : decode cX0_init 1 = .ok (.invokespecial 3, 3) := by decide +kernel
theorem dX0_init_4 : decode cX0_init 4 = .ok (.aload_n 0, 1) := by decide +kernel
theorem dX0_init_5 : decode cX0_init 5 = .ok (.bipush 10, 2) := by decide +kernel
theorem dX0_init_7 : decode cX0_init 7 = .ok (.newarray .int, 2) := by decide +kernel
theorem dX0_init_9 : decode cX0_init 9 = .ok (.putfield 9, 3) := by decide +kernel
theorem dX0_init_12 : decode cX0_init 12 = .ok (.aload_n 0, 1) := by decide +kernel
theorem dX0_init_13 : decode cX0_init 13 = .ok (.sipush 200, 3) := by decide +kernel
theorem dX0_init_16 : decode cX0_init 16 = .ok (.newarray .int, 2) := by decide +kernel
theorem dX0_init_18 : decode cX0_init 18 = .ok (.putfield 15, 3) := by decide +kernel
theorem dX0_init_21 : decode cX0_init 21 = .ok (.aload_n 0, 1) := by decide +kernel
theorem dX0_init_22 : decode cX0_init 22 = .ok (.bipush 10, 2) := by decide +kernel
theorem dX0_init_24 : decode cX0_init 24 = .ok (.newarray .int, 2) := by decide +kernel
theorem dX0_init_26 : decode cX0_init 26 = .ok (.putfield 18, 3) := by decide +kernel
theorem dX0_init_29 : decode cX0_init 29 = .ok (.aload_n 0, 1) := by decide +kernel
theorem dX0_init_30 : decode cX0_init 30 = .ok (.bipush 10, 2) := by decide +kernel
theorem dX0_init_32 : decode cX0_init 32 = .ok (.newarray .int, 2) := by decide +kernel
theorem dX0_init_34 : decode cX0_init 34 = .ok (.putfield 21, 3) := by decide +kernel
theorem dX0_init_37 : decode cX0_init 37 = .ok (.aload_n 0, 1) := by decide +kernel
theorem dX0_init_38 : decode cX0_init 38 = .ok (.aload_n 1, 1) := by decide +kernel
theorem dX0_init_39 : decode cX0_init 39 = .ok (.putfield 24, 3) := by decide +kernel
theorem dX0_init_42 : decode cX0_init 42 = .ok (.return_, 1) := by decide +kernel
set_option maxRecDepth 20000 in
theorem ggX0_update_J7_fill_53178 : GoodIn wsX0_update wsJ7_fill_53178 := goodIn_r _ [9] (by decide +kernel) (by decide +kernel)
set_option maxRecDepth 20000 in
theorem gX0_update_J7_fill_53178 : GoodIn wsX0_update (va_wsS RX0 28 yJ7_fill_53178 wsJ7_fill_53178) := goodIn_app (goodIn_of _ (by decide +kernel)) ggX0_update_J7_fill_53178
set_option maxRecDepth 20000 in
theorem ggX0_update_X3_size : GoodIn wsX0_update wsX3_size := goodIn_r _ [14, 15, 72, 73, 74, 75, 76, 77] (by decide +kernel) (by decide +kernel)
set_option maxRecDepth 20000 in
theorem gX0_update_X3_size : GoodIn wsX0_update (wsV RX0 34 RX3 yX3_size wsX3_size) := goodIn_app (goodIn_of _ (by decide +kernel)) ggX0_update_X3_size
set_option maxRecDepth 20000 in
theorem ggX0_update_X3_canBeKept : GoodIn wsX0_update wsX3_canBeKept := goodIn_r _ [19, 20, 21, 22, 23, 13, 24, 25, 26, 27, 28, 29, 30, 31, 32, 33, 34, 35, 36, 37, 15, 72, 73, 74, 75, 76, 77] (by decide +kernel) (by decide +kernel)
set_option maxRecDepth 20000 in
theorem gX0_update_X3_canBeKept : GoodIn wsX0_update (wsV RX0 40 RX3 yX3_canBeKept wsX3_canBeKept) := goodIn_app (goodIn_of _ (by decide +kernel)) ggX0_update_X3_canBeKept
set_option maxRecDepth 20000 in
theorem ggX0_update_X3_keyAt : GoodIn wsX0_update wsX3_keyAt := goodIn_r _ [32, 33, 26, 27, 28, 72, 73, 74, 75, 76, 77] (by decide +kernel) (by decide +kernel)
set_option maxRecDepth 20000 in
theorem gX0_update_X3_keyAt : GoodIn wsX0_update (wsV RX0 44 RX3 yX3_keyAt wsX3_keyAt) := goodIn_app (goodIn_of _ (by decide +kernel)) ggX0_update_X3_keyAt
set_option maxRecDepth 20000 in
theorem ggX0_update_X0_addOption : GoodIn wsX0_update wsX0_addOption := goodIn_r _ [43, 44, 1, 2, 45, 46, 47, 42, 48, 26, 27, 28, 49, 50, 51, 52, 53, 54, 3, 55, 56, 57, 13, 58, 59, 60, 61, 66, 67, 68, 69, 70, 71, 72, 73, 74, 75, 76, 77] (by decide +kernel) (by decide +kernel)
set_option maxRecDepth 20000 in
theorem gX0_update_X0_addOption : GoodIn wsX0_update (wsV RX0 48 RX0 yX0_addOption wsX0_addOption) := goodIn_app (goodIn_of _ (by decide +kernel)) ggX0_update_X0_addOption
set_option maxRecDepth 20000 in
theorem ggX0_update_X5_put : GoodIn wsX0_update wsX5_put := goodIn_r _ [50] (by decide +kernel) (by decide +kernel)
set_option maxRecDepth 20000 in
theorem gX0_update_X5_put_n56 : GoodIn wsX0_update (wsX5_put) := ggX0_update_X5_put
set_option maxRecDepth 20000 in
theorem ggX0_update_X0_isThere : GoodIn wsX0_update wsX0_isThere := goodIn_r _ [65, 45, 46, 47, 42, 48, 1, 26, 27, 28, 66, 67, 68, 69, 70, 71] (by decide +kernel) (by decide +kernel)
set_option maxRecDepth 20000 in
theorem gX0_update_X0_isThere : GoodIn wsX0_update (wsV RX0 60 RX0 yX0_isThere wsX0_isThere) := goodIn_app (goodIn_of _ (by decide +kernel)) ggX0_update_X0_isThere
set_option maxRecDepth 20000 in
theorem ggX0_update_X0_optionsOf : GoodIn wsX0_update wsX0_optionsOf := goodIn_r _ [48, 1, 26, 27, 28, 66, 67, 68, 69, 70, 71] (by decide +kernel) (by decide +kernel)
set_option maxRecDepth 20000 in
theorem gX0_update_X0_optionsOf : GoodIn wsX0_update (wsV RX0 63 RX0 yX0_optionsOf wsX0_optionsOf) := goodIn_app (goodIn_of _ (by decide +kernel)) ggX0_update_X0_optionsOf
theorem dX0_update_0 : decode cX0_update 0 = .ok (.aload_n 0, 1) := by decide +kernel
theorem dX0_update_1 : decode cX0_update 1 = .ok (.getfield 9, 3) := by decide +kernel
theorem dX0_update_4 : decode cX0_update 4 = .ok (.iconst 0, 1) := by decide +kernel
theorem dX0_update_5 : decode cX0_update 5 = .ok (.invokestatic 28, 3) := by decide +kernel
theorem dX0_update_8 : decode cX0_update 8 = .ok (.aload_n 0, 1) := by decide +kernel
theorem dX0_update_9 : decode cX0_update 9 = .ok (.getfield 21, 3) := by decide +kernel
theorem dX0_update_12 : decode cX0_update 12 = .ok (.iconst 0, 1) := by decide +kernel
theorem dX0_update_13 : decode cX0_update 13 = .ok (.invokestatic 28, 3) := by decide +kernel
theorem dX0_update_16 : decode cX0_update 16 = .ok (.iconst 0, 1) := by decide +kernel
theorem dX0_update_17 : decode cX0_update 17 = .ok (.istore_n 1, 1) := by decide +kernel
theorem dX0_update_18 : decode cX0_update 18 = .ok (.iload_n 1, 1) := by decide +kernel
theorem dX0_update_19 : decode cX0_update 19 = .ok (.aload_n 0, 1) := by decide +kernel
theorem dX0_update_20 : decode cX0_update 20 = .ok (.getfield 24, 3) := by decide +kernel
theorem dX0_update_23 : decode cX0_update 23 = .ok (.invokevirtual 34, 3) := by decide +kernel
theorem dX0_update_26 : decode cX0_update 26 = .ok (.if_icmp .ge 33, 3) := by decide +kernel
theorem dX0_update_29 : decode cX0_update 29 = .ok (.aload_n 0, 1) := by decide +kernel
theorem dX0_update_30 : decode cX0_update 30 = .ok (.getfield 24, 3) := by decide +kernel
theorem dX0_update_33 : decode cX0_update 33 = .ok (.iload_n 1, 1) := by decide +kernel
theorem dX0_update_34 : decode cX0_update 34 = .ok (.invokevirtual 40, 3) := by decide +kernel
theorem dX0_update_37 : decode cX0_update 37 = .ok (.ifCond .eq 16, 3) := by decide +kernel
theorem dX0_update_40 : decode cX0_update 40 = .ok (.aload_n 0, 1) := by decide +kernel
theorem dX0_update_41 : decode cX0_update 41 = .ok (.aload_n 0, 1) := by decide +kernel
theorem dX0_update_42 : decode cX0_update 42 = .ok (.getfield 24, 3) := by decide +kernel
theorem dX0_update_45 : decode cX0_update 45 = .ok (.iload_n 1, 1) := by decide +kernel
theorem dX0_update_46 : decode cX0_update 46 = .ok (.invokevirtual 44, 3) := by decide +kernel
theorem dX0_update_49 : decode cX0_update 49 = .ok (.iload_n 1, 1) := by decide +kernel
theorem dX0_update_50 : decode cX0_update 50 = .ok (.invokevirtual 48, 3) := by decide +kernel
theorem dX0_update_53 : decode cX0_update 53 = .ok (.iinc 1 1, 3) := by decide +kernel
theorem dX0_update_56 : decode cX0_update 56 = .ok (.goto (-38), 3) := by decide +kernel
theorem dX0_update_59 : decode cX0_update 59 = .ok (.aload_n 0, 1) := by decide +kernel
theorem dX0_update_60 : decode cX0_update 60 = .ok (.iconst 1, 1) := by decide +kernel
theorem dX0_update_61 : decode cX0_update 61 = .ok (.putfield 52, 3) := by decide +kernel
theorem dX0_update_64 : decode cX0_update 64 = .ok (.iconst 0, 1) := by decide +kernel
theorem dX0_update_65 : decode cX0_update 65 = .ok (.istore_n 1, 1) := by decide +kernel
theorem dX0_update_66 : decode cX0_update 66 = .ok (.iload_n 1, 1) := by decide +kernel
theorem dX0_update_67 : decode cX0_update 67 = .ok (.bipush 10, 2) := by decide +kernel
theorem dX0_update_69 : decode cX0_update 69 = .ok (.if_icmp .ge 43, 3) := by decide +kernel
theorem dX0_update_72 : decode cX0_update 72 = .ok (.aload_n 0, 1) := by decide +kernel
theorem dX0_update_73 : decode cX0_update 73 = .ok (.getfield 18, 3) := by decide +kernel
theorem dX0_update_76 : decode cX0_update 76 = .ok (.iload_n 1, 1) := by decide +kernel
theorem dX0_update_77 : decode cX0_update 77 = .ok (.aload_n 0, 1) := by decide +kernel
theorem dX0_update_78 : decode cX0_update 78 = .ok (.getfield 52, 3) := by decide +kernel
theorem dX0_update_81 : decode cX0_update 81 = .ok (.invokestatic 56, 3) := by decide +kernel
theorem dX0_update_84 : decode cX0_update 84 = .ok (.aload_n 0, 1) := by decide +kernel
theorem dX0_update_85 : decode cX0_update 85 = .ok (.iload_n 1, 1) := by decide +kernel
theorem dX0_update_86 : decode cX0_update 86 = .ok (.invokevirtual 60, 3) := by decide +kernel
theorem dX0_update_89 : decode cX0_update 89 = .ok (.ifCond .eq 17, 3) := by decide +kernel
theorem dX0_update_92 : decode cX0_update 92 = .ok (.aload_n 0, 1) := by decide +kernel
theorem dX0_update_93 : decode cX0_update 93 = .ok (.dup, 1) := by decide +kernel
theorem dX0_update_94 : decode cX0_update 94 = .ok (.getfield 52, 3) := by decide +kernel
theorem dX0_update_97 : decode cX0_update 97 = .ok (.aload_n 0, 1) := by decide +kernel
theorem dX0_update_98 : decode cX0_update 98 = .ok (.iload_n 1, 1) := by decide +kernel
theorem dX0_update_99 : decode cX0_update 99 = .ok (.invokevirtual 63, 3) := by decide +kernel
theorem dX0_update_102 : decode cX0_update 102 = .ok (.imul, 1) := by decide +kernel
theorem dX0_update_103 : decode cX0_update 103 = .ok (.putfield 52, 3) := by decide +kernel
theorem dX0_update_106 : decode cX0_update 106 = .ok (.iinc 1 1, 3) := by decide +kernel
theorem dX0_update_109 : decode cX0_update 109 = .ok (.goto (-43), 3) := by decide +kernel
theorem dX0_update_112 : decode cX0_update 112 = .ok (.return_, 1) := by decide +kernel
set_option maxRecDepth 20000 in
theorem ggX0_addOption_X0_optionsOf : GoodIn wsX0_addOption wsX0_optionsOf := goodIn_r _ [8, 2, 9, 10, 11, 27, 28, 29, 30, 31, 32] (by decide +kernel) (by decide +kernel)
set_option maxRecDepth 20000 in
theorem gX0_addOption_X0_optionsOf : GoodIn wsX0_addOption (wsV RX0 63 RX0 yX0_optionsOf wsX0_optionsOf) := goodIn_app (goodIn_of _ (by decide +kernel)) ggX0_addOption_X0_optionsOf
set_option maxRecDepth 20000 in
theorem ggX0_addOption_X5_put : GoodIn wsX0_addOption wsX5_put := goodIn_r _ [13] (by decide +kernel) (by decide +kernel)
set_option maxRecDepth 20000 in
theorem gX0_addOption_X5_put_n56 : GoodIn wsX0_addOption (wsX5_put) := ggX0_addOption_X5_put
set_option maxRecDepth 20000 in
theorem ggX0_addOption_X5_at : GoodIn wsX0_addOption wsX5_at := goodIn_r _ [11] (by decide +kernel) (by decide +kernel)
set_option maxRecDepth 20000 in
theorem gX0_addOption_X5_at_n66 : GoodIn wsX0_addOption (wsX5_at) := ggX0_addOption_X5_at
set_option maxRecDepth 20000 in
theorem ggX0_addOption_X0_targetBit : GoodIn wsX0_addOption wsX0_targetBit := goodIn_r _ [17, 18, 19, 20, 21, 22, 23, 24, 9, 10, 11, 25, 26, 27, 28, 29, 30, 31, 32, 33, 34, 35, 36, 37, 38] (by decide +kernel) (by decide +kernel)
set_option maxRecDepth 20000 in
theorem gX0_addOption_X0_targetBit : GoodIn wsX0_addOption (wsV RX0 70 RX0 yX0_targetBit wsX0_targetBit) := goodIn_app (goodIn_of _ (by decide +kernel)) ggX0_addOption_X0_targetBit
theorem dX0_addOption_0 : decode cX0_addOption 0 = .ok (.aload_n 0, 1) := by decide +kernel
theorem dX0_addOption_1 : decode cX0_addOption 1 = .ok (.iload_n 1, 1) := by decide +kernel
theorem dX0_addOption_2 : decode cX0_addOption 2 = .ok (.invokevirtual 63, 3) := by decide +kernel
theorem dX0_addOption_5 : decode cX0_addOption 5 = .ok (.istore_n 3, 1) := by decide +kernel
theorem dX0_addOption_6 : decode cX0_addOption 6 = .ok (.aload_n 0, 1) := by decide +kernel
theorem dX0_addOption_7 : decode cX0_addOption 7 = .ok (.getfield 15, 3) := by decide +kernel
theorem dX0_addOption_10 : decode cX0_addOption 10 = .ok (.iload_n 1, 1) := by decide +kernel
theorem dX0_addOption_11 : decode cX0_addOption 11 = .ok (.bipush 20, 2) := by decide +kernel
theorem dX0_addOption_13 : decode cX0_addOption 13 = .ok (.imul, 1) := by decide +kernel
theorem dX0_addOption_14 : decode cX0_addOption 14 = .ok (.iload_n 3, 1) := by decide +kernel
theorem dX0_addOption_15 : decode cX0_addOption 15 = .ok (.iadd, 1) := by decide +kernel
theorem dX0_addOption_16 : decode cX0_addOption 16 = .ok (.iload_n 2, 1) := by decide +kernel
theorem dX0_addOption_17 : decode cX0_addOption 17 = .ok (.invokestatic 56, 3) := by decide +kernel
theorem dX0_addOption_20 : decode cX0_addOption 20 = .ok (.aload_n 0, 1) := by decide +kernel
theorem dX0_addOption_21 : decode cX0_addOption 21 = .ok (.getfield 9, 3) := by decide +kernel
theorem dX0_addOption_24 : decode cX0_addOption 24 = .ok (.iload_n 1, 1) := by decide +kernel
theorem dX0_addOption_25 : decode cX0_addOption 25 = .ok (.iload_n 3, 1) := by decide +kernel
theorem dX0_addOption_26 : decode cX0_addOption 26 = .ok (.iconst 1, 1) := by decide +kernel
theorem dX0_addOption_27 : decode cX0_addOption 27 = .ok (.iadd, 1) := by decide +kernel
theorem dX0_addOption_28 : decode cX0_addOption 28 = .ok (.invokestatic 56, 3) := by decide +kernel
theorem dX0_addOption_31 : decode cX0_addOption 31 = .ok (.aload_n 0, 1) := by decide +kernel
theorem dX0_addOption_32 : decode cX0_addOption 32 = .ok (.getfield 21, 3) := by decide +kernel
theorem dX0_addOption_35 : decode cX0_addOption 35 = .ok (.iload_n 1, 1) := by decide +kernel
theorem dX0_addOption_36 : decode cX0_addOption 36 = .ok (.aload_n 0, 1) := by decide +kernel
theorem dX0_addOption_37 : decode cX0_addOption 37 = .ok (.getfield 21, 3) := by decide +kernel
theorem dX0_addOption_40 : decode cX0_addOption 40 = .ok (.iload_n 1, 1) := by decide +kernel
theorem dX0_addOption_41 : decode cX0_addOption 41 = .ok (.invokestatic 66, 3) := by decide +kernel
theorem dX0_addOption_44 : decode cX0_addOption 44 = .ok (.aload_n 0, 1) := by decide +kernel
theorem dX0_addOption_45 : decode cX0_addOption 45 = .ok (.iload_n 2, 1) := by decide +kernel
theorem dX0_addOption_46 : decode cX0_addOption 46 = .ok (.invokevirtual 70, 3) := by decide +kernel
theorem dX0_addOption_49 : decode cX0_addOption 49 = .ok (.ior, 1) := by decide +kernel
theorem dX0_addOption_50 : decode cX0_addOption 50 = .ok (.invokestatic 56, 3) := by decide +kernel
theorem dX0_addOption_53 : decode cX0_addOption 53 = .ok (.return_, 1) := by decide +kernel
set_option maxRecDepth 20000 in
theorem ggX0_targetBit_X3_targetAt : GoodIn wsX0_targetBit wsX3_targetAt := goodIn_r _ [6, 7, 8, 9, 10, 19, 20, 21, 22, 23, 24] (by decide +kernel) (by decide +kernel)
set_option maxRecDepth 20000 in
theorem gX0_targetBit_X3_targetAt : GoodIn wsX0_targetBit (wsV RX0 73 RX3 yX3_targetAt wsX3_targetAt) := goodIn_app (goodIn_of _ (by decide +kernel)) ggX0_targetBit_X3_targetAt
set_option maxRecDepth 20000 in
theorem ggX0_targetBit_X5_isKey : GoodIn wsX0_targetBit wsX5_isKey := goodIn_r _ [12] (by decide +kernel) (by decide +kernel)
set_option maxRecDepth 20000 in
theorem gX0_targetBit_X5_isKey_n76 : GoodIn wsX0_targetBit (wsX5_isKey) := ggX0_targetBit_X5_isKey
theorem dX0_targetBit_0 : decode cX0_targetBit 0 = .ok (.aload_n 0, 1) := by decide +kernel
theorem dX0_targetBit_1 : decode cX0_targetBit 1 = .ok (.getfield 24, 3) := by decide +kernel
theorem dX0_targetBit_4 : decode cX0_targetBit 4 = .ok (.iload_n 1, 1) := by decide +kernel
theorem dX0_targetBit_5 : decode cX0_targetBit 5 = .ok (.invokevirtual 73, 3) := by decide +kernel
theorem dX0_targetBit_8 : decode cX0_targetBit 8 = .ok (.istore_n 2, 1) := by decide +kernel
theorem dX0_targetBit_9 : decode cX0_targetBit 9 = .ok (.iload_n 2, 1) := by decide +kernel
theorem dX0_targetBit_10 : decode cX0_targetBit 10 = .ok (.invokestatic 76, 3) := by decide +kernel
theorem dX0_targetBit_13 : decode cX0_targetBit 13 = .ok (.ifCond .eq 9, 3) := by decide +kernel
theorem dX0_targetBit_16 : decode cX0_targetBit 16 = .ok (.iconst 1, 1) := by decide +kernel
theorem dX0_targetBit_17 : decode cX0_targetBit 17 = .ok (.iload_n 2, 1) := by decide +kernel
theorem dX0_targetBit_18 : decode cX0_targetBit 18 = .ok (.ishl, 1) := by decide +kernel
theorem dX0_targetBit_19 : decode cX0_targetBit 19 = .ok (.goto 6, 3) := by decide +kernel
theorem dX0_targetBit_22 : decode cX0_targetBit 22 = .ok (.sipush 1024, 3) := by decide +kernel
theorem dX0_targetBit_25 : decode cX0_targetBit 25 = .ok (.ireturn, 1) := by decide +kernel
theorem dX0_mendings_0 : decode cX0_mendings 0 = .ok (.aload_n 0, 1) := by decide +kernel
theorem dX0_mendings_1 : decode cX0_mendings 1 = .ok (.getfield 52, 3) := by decide +kernel
theorem dX0_mendings_4 : decode cX0_mendings 4 = .ok (.ireturn, 1) := by decide +kernel
set_option maxRecDepth 20000 in
theorem ggX0_optionsOf_X5_at : GoodIn wsX0_optionsOf wsX5_at := goodIn_r _ [4] (by decide +kernel) (by decide +kernel)
set_option maxRecDepth 20000 in
theorem gX0_optionsOf_X5_at_n66 : GoodIn wsX0_optionsOf (wsX5_at) := ggX0_optionsOf_X5_at
theorem dX0_optionsOf_0 : decode cX0_optionsOf 0 = .ok (.aload_n 0, 1) := by decide +kernel
theorem dX0_optionsOf_1 : decode cX0_optionsOf 1 = .ok (.getfield 9, 3) := by decide +kernel
theorem dX0_optionsOf_4 : decode cX0_optionsOf 4 = .ok (.iload_n 1, 1) := by decide +kernel
theorem dX0_optionsOf_5 : decode cX0_optionsOf 5 = .ok (.invokestatic 66, 3) := by decide +kernel
theorem dX0_optionsOf_8 : decode cX0_optionsOf 8 = .ok (.ireturn, 1) := by decide +kernel
set_option maxRecDepth 20000 in
theorem ggX0_isThere_X0_optionsOf : GoodIn wsX0_isThere wsX0_optionsOf := goodIn_r _ [5, 6, 7, 8, 9, 10, 11, 12, 13, 14, 15] (by decide +kernel) (by decide +kernel)
set_option maxRecDepth 20000 in
theorem gX0_isThere_X0_optionsOf : GoodIn wsX0_isThere (wsV RX0 63 RX0 yX0_optionsOf wsX0_optionsOf) := goodIn_app (goodIn_of _ (by decide +kernel)) ggX0_isThere_X0_optionsOf
theorem dX0_isThere_0 : decode cX0_isThere 0 = .ok (.aload_n 0, 1) := by decide +kernel
theorem dX0_isThere_1 : decode cX0_isThere 1 = .ok (.iload_n 1, 1) := by decide +kernel
theorem dX0_isThere_2 : decode cX0_isThere 2 = .ok (.invokevirtual 63, 3) := by decide +kernel
theorem dX0_isThere_5 : decode cX0_isThere 5 = .ok (.ifCond .le 7, 3) := by decide +kernel
theorem dX0_isThere_8 : decode cX0_isThere 8 = .ok (.iconst 1, 1) := by decide +kernel
theorem dX0_isThere_9 : decode cX0_isThere 9 = .ok (.goto 4, 3) := by decide +kernel
theorem dX0_isThere_12 : decode cX0_isThere 12 = .ok (.iconst 0, 1) := by decide +kernel
theorem dX0_isThere_13 : decode cX0_isThere 13 = .ok (.ireturn, 1) := by decide +kernel
set_option maxRecDepth 20000 in
theorem ggX0_option_X5_at : GoodIn wsX0_option wsX5_at := goodIn_r _ [4] (by decide +kernel) (by decide +kernel)
set_option maxRecDepth 20000 in
theorem gX0_option_X5_at_n66 : GoodIn wsX0_option (wsX5_at) := ggX0_option_X5_at
theorem dX0_option_0 : decode cX0_option 0 = .ok (.aload_n 0, 1) := by decide +kernel
theorem dX0_option_1 : decode cX0_option 1 = .ok (.getfield 15, 3) := by decide +kernel
theorem dX0_option_4 : decode cX0_option 4 = .ok (.iload_n 1, 1) := by decide +kernel
theorem dX0_option_5 : decode cX0_option 5 = .ok (.bipush 20, 2) := by decide +kernel
theorem dX0_option_7 : decode cX0_option 7 = .ok (.imul, 1) := by decide +kernel
theorem dX0_option_8 : decode cX0_option 8 = .ok (.iload_n 2, 1) := by decide +kernel
theorem dX0_option_9 : decode cX0_option 9 = .ok (.iadd, 1) := by decide +kernel
theorem dX0_option_10 : decode cX0_option 10 = .ok (.invokestatic 66, 3) := by decide +kernel
theorem dX0_option_13 : decode cX0_option 13 = .ok (.ireturn, 1) := by decide +kernel
set_option maxRecDepth 20000 in
theorem ggX0_rowKeptBy_X0_optionsOf : GoodIn wsX0_rowKeptBy wsX0_optionsOf := goodIn_r _ [6, 7, 8, 9, 10, 16, 17, 18, 19, 20, 21] (by decide +kernel) (by decide +kernel)
set_option maxRecDepth 20000 in
theorem gX0_rowKeptBy_X0_optionsOf : GoodIn wsX0_rowKeptBy (wsV RX0 63 RX0 yX0_optionsOf wsX0_optionsOf) := goodIn_app (goodIn_of _ (by decide +kernel)) ggX0_rowKeptBy_X0_optionsOf
set_option maxRecDepth 20000 in
theorem ggX0_rowKeptBy_X5_at : GoodIn wsX0_rowKeptBy wsX5_at := goodIn_r _ [10] (by decide +kernel) (by decide +kernel)
set_option maxRecDepth 20000 in
theorem gX0_rowKeptBy_X5_at_n66 : GoodIn wsX0_rowKeptBy (wsX5_at) := ggX0_rowKeptBy_X5_at
set_option maxRecDepth 20000 in
theorem ggX0_rowKeptBy_X0_option : GoodIn wsX0_rowKeptBy wsX0_option := goodIn_r _ [14, 15, 8, 9, 10, 16, 17, 18, 19, 20, 21] (by decide +kernel) (by decide +kernel)
set_option maxRecDepth 20000 in
theorem gX0_rowKeptBy_X0_option : GoodIn wsX0_rowKeptBy (wsV RX0 79 RX0 yX0_option wsX0_option) := goodIn_app (goodIn_of _ (by decide +kernel)) ggX0_rowKeptBy_X0_option
theorem dX0_rowKeptBy_0 : decode cX0_rowKeptBy 0 = .ok (.aload_n 0, 1) := by decide +kernel
theorem dX0_rowKeptBy_1 : decode cX0_rowKeptBy 1 = .ok (.iload_n 2, 1) := by decide +kernel
theorem dX0_rowKeptBy_2 : decode cX0_rowKeptBy 2 = .ok (.invokevirtual 63, 3) := by decide +kernel
theorem dX0_rowKeptBy_5 : decode cX0_rowKeptBy 5 = .ok (.istore_n 3, 1) := by decide +kernel
theorem dX0_rowKeptBy_6 : decode cX0_rowKeptBy 6 = .ok (.aload_n 0, 1) := by decide +kernel
theorem dX0_rowKeptBy_7 : decode cX0_rowKeptBy 7 = .ok (.getfield 18, 3) := by decide +kernel
theorem dX0_rowKeptBy_10 : decode cX0_rowKeptBy 10 = .ok (.iload_n 2, 1) := by decide +kernel
theorem dX0_rowKeptBy_11 : decode cX0_rowKeptBy 11 = .ok (.invokestatic 66, 3) := by decide +kernel
theorem dX0_rowKeptBy_14 : decode cX0_rowKeptBy 14 = .ok (.istore 4, 2) := by decide +kernel
theorem dX0_rowKeptBy_16 : decode cX0_rowKeptBy 16 = .ok (.iload_n 3, 1) := by decide +kernel
theorem dX0_rowKeptBy_17 : decode cX0_rowKeptBy 17 = .ok (.iconst 1, 1) := by decide +kernel
theorem dX0_rowKeptBy_18 : decode cX0_rowKeptBy 18 = .ok (.if_icmp .lt 9, 3) := by decide +kernel
theorem dX0_rowKeptBy_21 : decode cX0_rowKeptBy 21 = .ok (.iload 4, 2) := by decide +kernel
theorem dX0_rowKeptBy_23 : decode cX0_rowKeptBy 23 = .ok (.iconst 1, 1) := by decide +kernel
theorem dX0_rowKeptBy_24 : decode cX0_rowKeptBy 24 = .ok (.if_icmp .ge 6, 3) := by decide +kernel
theorem dX0_rowKeptBy_27 : decode cX0_rowKeptBy 27 = .ok (.bipush (-5), 2) := by decide +kernel
theorem dX0_rowKeptBy_29 : decode cX0_rowKeptBy 29 = .ok (.ireturn, 1) := by decide +kernel
theorem dX0_rowKeptBy_30 : decode cX0_rowKeptBy 30 = .ok (.aload_n 0, 1) := by decide +kernel
theorem dX0_rowKeptBy_31 : decode cX0_rowKeptBy 31 = .ok (.iload_n 2, 1) := by decide +kernel
theorem dX0_rowKeptBy_32 : decode cX0_rowKeptBy 32 = .ok (.iload_n 1, 1) := by decide +kernel
theorem dX0_rowKeptBy_33 : decode cX0_rowKeptBy 33 = .ok (.iload 4, 2) := by decide +kernel
theorem dX0_rowKeptBy_35 : decode cX0_rowKeptBy 35 = .ok (.idiv, 1) := by decide +kernel
theorem dX0_rowKeptBy_36 : decode cX0_rowKeptBy 36 = .ok (.iload_n 3, 1) := by decide +kernel
theorem dX0_rowKeptBy_37 : decode cX0_rowKeptBy 37 = .ok (.irem, 1) := by decide +kernel
theorem dX0_rowKeptBy_38 : decode cX0_rowKeptBy 38 = .ok (.invokevirtual 79, 3) := by decide +kernel
theorem dX0_rowKeptBy_41 : decode cX0_rowKeptBy 41 = .ok (.ireturn, 1) := by decide +kernel
set_option maxRecDepth 20000 in
theorem ggX0_isSureRow_X3_canBeKept : GoodIn wsX0_isSureRow wsX3_canBeKept := goodIn_r _ [6, 7, 8, 9, 10, 5, 11, 12, 13, 14, 15, 16, 17, 18, 19, 20, 21, 22, 23, 24, 25, 39, 40, 41, 42, 43, 44] (by decide +kernel) (by decide +kernel)
set_option maxRecDepth 20000 in
theorem gX0_isSureRow_X3_canBeKept : GoodIn wsX0_isSureRow (wsV RX0 40 RX3 yX3_canBeKept wsX3_canBeKept) := goodIn_app (goodIn_of _ (by decide +kernel)) ggX0_isSureRow_X3_canBeKept
set_option maxRecDepth 20000 in
theorem ggX0_isSureRow_X3_keyAt : GoodIn wsX0_isSureRow wsX3_keyAt := goodIn_r _ [19, 20, 13, 14, 15, 39, 40, 41, 42, 43, 44] (by decide +kernel) (by decide +kernel)
set_option maxRecDepth 20000 in
theorem gX0_isSureRow_X3_keyAt : GoodIn wsX0_isSureRow (wsV RX0 44 RX3 yX3_keyAt wsX3_keyAt) := goodIn_app (goodIn_of _ (by decide +kernel)) ggX0_isSureRow_X3_keyAt
set_option maxRecDepth 20000 in
theorem ggX0_isSureRow_X0_optionsOf : GoodIn wsX0_isSureRow wsX0_optionsOf := goodIn_r _ [31, 32, 13, 14, 15, 33, 34, 35, 36, 37, 38] (by decide +kernel) (by decide +kernel)
set_option maxRecDepth 20000 in
theorem gX0_isSureRow_X0_optionsOf : GoodIn wsX0_isSureRow (wsV RX0 63 RX0 yX0_optionsOf wsX0_optionsOf) := goodIn_app (goodIn_of _ (by decide +kernel)) ggX0_isSureRow_X0_optionsOf
theorem dX0_isSureRow_0 : decode cX0_isSureRow 0 = .ok (.aload_n 0, 1) := by decide +kernel
theorem dX0_isSureRow_1 : decode cX0_isSureRow 1 = .ok (.getfield 24, 3) := by decide +kernel
theorem dX0_isSureRow_4 : decode cX0_isSureRow 4 = .ok (.iload_n 1, 1) := by decide +kernel
theorem dX0_isSureRow_5 : decode cX0_isSureRow 5 = .ok (.invokevirtual 40, 3) := by decide +kernel
theorem dX0_isSureRow_8 : decode cX0_isSureRow 8 = .ok (.ifCond .eq 23, 3) := by decide +kernel
theorem dX0_isSureRow_11 : decode cX0_isSureRow 11 = .ok (.aload_n 0, 1) := by decide +kernel
theorem dX0_isSureRow_12 : decode cX0_isSureRow 12 = .ok (.aload_n 0, 1) := by decide +kernel
theorem dX0_isSureRow_13 : decode cX0_isSureRow 13 = .ok (.getfield 24, 3) := by decide +kernel
theorem dX0_isSureRow_16 : decode cX0_isSureRow 16 = .ok (.iload_n 1, 1) := by decide +kernel
theorem dX0_isSureRow_17 : decode cX0_isSureRow 17 = .ok (.invokevirtual 44, 3) := by decide +kernel
theorem dX0_isSureRow_20 : decode cX0_isSureRow 20 = .ok (.invokevirtual 63, 3) := by decide +kernel
theorem dX0_isSureRow_23 : decode cX0_isSureRow 23 = .ok (.iconst 1, 1) := by decide +kernel
theorem dX0_isSureRow_24 : decode cX0_isSureRow 24 = .ok (.if_icmp .ne 7, 3) := by decide +kernel
theorem dX0_isSureRow_27 : decode cX0_isSureRow 27 = .ok (.iconst 1, 1) := by decide +kernel
theorem dX0_isSureRow_28 : decode cX0_isSureRow 28 = .ok (.goto 4, 3) := by decide +kernel
theorem dX0_isSureRow_31 : decode cX0_isSureRow 31 = .ok (.iconst 0, 1) := by decide +kernel
theorem dX0_isSureRow_32 : decode cX0_isSureRow 32 = .ok (.ireturn, 1) := by decide +kernel
set_option maxRecDepth 20000 in
theorem ggX0_sureRows_X3_size : GoodIn wsX0_sureRows wsX3_size := goodIn_r _ [6, 7, 47, 48, 49, 50, 51, 52] (by decide +kernel) (by decide +kernel)
set_option maxRecDepth 20000 in
theorem gX0_sureRows_X3_size : GoodIn wsX0_sureRows (wsV RX0 34 RX3 yX3_size wsX3_size) := goodIn_app (goodIn_of _ (by decide +kernel)) ggX0_sureRows_X3_size
set_option maxRecDepth 20000 in
theorem ggX0_sureRows_X0_isSureRow : GoodIn wsX0_sureRows wsX0_isSureRow := goodIn_r _ [12, 1, 13, 14, 15, 5, 16, 17, 18, 19, 20, 21, 22, 23, 24, 25, 26, 27, 28, 29, 30, 31, 32, 33, 34, 7, 35, 36, 37, 38, 11, 39, 40, 41, 42, 43, 44, 45, 46, 47, 48, 49, 50, 51, 52] (by decide +kernel) (by decide +kernel)
set_option maxRecDepth 20000 in
theorem gX0_sureRows_X0_isSureRow : GoodIn wsX0_sureRows (wsV RX0 83 RX0 yX0_isSureRow wsX0_isSureRow) := goodIn_app (goodIn_of _ (by decide +kernel)) ggX0_sureRows_X0_isSureRow
theorem dX0_sureRows_0 : decode cX0_sureRows 0 = .ok (.iconst 0, 1) := by decide +kernel
theorem dX0_sureRows_1 : decode cX0_sureRows 1 = .ok (.istore_n 1, 1) := by decide +kernel
theorem dX0_sureRows_2 : decode cX0_sureRows 2 = .ok (.iconst 0, 1) := by decide +kernel
theorem dX0_sureRows_3 : decode cX0_sureRows 3 = .ok (.istore_n 2, 1) := by decide +kernel
theorem dX0_sureRows_4 : decode cX0_sureRows 4 = .ok (.iload_n 2, 1) := by decide +kernel
theorem dX0_sureRows_5 : decode cX0_sureRows 5 = .ok (.aload_n 0, 1) := by decide +kernel
theorem dX0_sureRows_6 : decode cX0_sureRows 6 = .ok (.getfield 24, 3) := by decide +kernel
theorem dX0_sureRows_9 : decode cX0_sureRows 9 = .ok (.invokevirtual 34, 3) := by decide +kernel
theorem dX0_sureRows_12 : decode cX0_sureRows 12 = .ok (.if_icmp .ge 20, 3) := by decide +kernel
theorem dX0_sureRows_15 : decode cX0_sureRows 15 = .ok (.aload_n 0, 1) := by decide +kernel
theorem dX0_sureRows_16 : decode cX0_sureRows 16 = .ok (.iload_n 2, 1) := by decide +kernel
theorem dX0_sureRows_17 : decode cX0_sureRows 17 = .ok (.invokevirtual 83, 3) := by decide +kernel
theorem dX0_sureRows_20 : decode cX0_sureRows 20 = .ok (.ifCond .eq 6, 3) := by decide +kernel
theorem dX0_sureRows_23 : decode cX0_sureRows 23 = .ok (.iinc 1 1, 3) := by decide +kernel
theorem dX0_sureRows_26 : decode cX0_sureRows 26 = .ok (.iinc 2 1, 3) := by decide +kernel
theorem dX0_sureRows_29 : decode cX0_sureRows 29 = .ok (.goto (-25), 3) := by decide +kernel
theorem dX0_sureRows_32 : decode cX0_sureRows 32 = .ok (.iload_n 1, 1) := by decide +kernel
theorem dX0_sureRows_33 : decode cX0_sureRows 33 = .ok (.ireturn, 1) := by decide +kernel
set_option maxRecDepth 20000 in
theorem ggX0_optionsWith_X0_optionsOf : GoodIn wsX0_optionsWith wsX0_optionsOf := goodIn_r _ [6, 7, 8, 9, 10, 22, 23, 24, 25, 26, 27] (by decide +kernel) (by decide +kernel)
set_option maxRecDepth 20000 in
theorem gX0_optionsWith_X0_optionsOf : GoodIn wsX0_optionsWith (wsV RX0 63 RX0 yX0_optionsOf wsX0_optionsOf) := goodIn_app (goodIn_of _ (by decide +kernel)) ggX0_optionsWith_X0_optionsOf
set_option maxRecDepth 20000 in
theorem ggX0_optionsWith_X0_option : GoodIn wsX0_optionsWith wsX0_option := goodIn_r _ [14, 15, 8, 9, 10, 22, 23, 24, 25, 26, 27] (by decide +kernel) (by decide +kernel)
set_option maxRecDepth 20000 in
theorem gX0_optionsWith_X0_option : GoodIn wsX0_optionsWith (wsV RX0 79 RX0 yX0_option wsX0_option) := goodIn_app (goodIn_of _ (by decide +kernel)) ggX0_optionsWith_X0_option
set_option maxRecDepth 20000 in
theorem ggX0_optionsWith_X3_valueAt : GoodIn wsX0_optionsWith wsX3_valueAt := goodIn_r _ [20, 21, 8, 9, 10, 28, 29, 30, 31, 32, 33] (by decide +kernel) (by decide +kernel)
set_option maxRecDepth 20000 in
theorem gX0_optionsWith_X3_valueAt : GoodIn wsX0_optionsWith (wsV RX0 86 RX3 yX3_valueAt wsX3_valueAt) := goodIn_app (goodIn_of _ (by decide +kernel)) ggX0_optionsWith_X3_valueAt
theorem dX0_optionsWith_0 : decode cX0_optionsWith 0 = .ok (.iconst 0, 1) := by decide +kernel
theorem dX0_optionsWith_1 : decode cX0_optionsWith 1 = .ok (.istore_n 3, 1) := by decide +kernel
theorem dX0_optionsWith_2 : decode cX0_optionsWith 2 = .ok (.iconst 0, 1) := by decide +kernel
theorem dX0_optionsWith_3 : decode cX0_optionsWith 3 = .ok (.istore 4, 2) := by decide +kernel
theorem dX0_optionsWith_5 : decode cX0_optionsWith 5 = .ok (.iload 4, 2) := by decide +kernel
theorem dX0_optionsWith_7 : decode cX0_optionsWith 7 = .ok (.aload_n 0, 1) := by decide +kernel
theorem dX0_optionsWith_8 : decode cX0_optionsWith 8 = .ok (.iload_n 1, 1) := by decide +kernel
theorem dX0_optionsWith_9 : decode cX0_optionsWith 9 = .ok (.invokevirtual 63, 3) := by decide +kernel
theorem dX0_optionsWith_12 : decode cX0_optionsWith 12 = .ok (.if_icmp .ge 30, 3) := by decide +kernel
theorem dX0_optionsWith_15 : decode cX0_optionsWith 15 = .ok (.aload_n 0, 1) := by decide +kernel
theorem dX0_optionsWith_16 : decode cX0_optionsWith 16 = .ok (.getfield 24, 3) := by decide +kernel
theorem dX0_optionsWith_19 : decode cX0_optionsWith 19 = .ok (.aload_n 0, 1) := by decide +kernel
theorem dX0_optionsWith_20 : decode cX0_optionsWith 20 = .ok (.iload_n 1, 1) := by decide +kernel
theorem dX0_optionsWith_21 : decode cX0_optionsWith 21 = .ok (.iload 4, 2) := by decide +kernel
theorem dX0_optionsWith_23 : decode cX0_optionsWith 23 = .ok (.invokevirtual 79, 3) := by decide +kernel
theorem dX0_optionsWith_26 : decode cX0_optionsWith 26 = .ok (.invokevirtual 86, 3) := by decide +kernel
theorem dX0_optionsWith_29 : decode cX0_optionsWith 29 = .ok (.iload_n 2, 1) := by decide +kernel
theorem dX0_optionsWith_30 : decode cX0_optionsWith 30 = .ok (.if_icmp .ne 6, 3) := by decide +kernel
theorem dX0_optionsWith_33 : decode cX0_optionsWith 33 = .ok (.iinc 3 1, 3) := by decide +kernel
theorem dX0_optionsWith_36 : decode cX0_optionsWith 36 = .ok (.iinc 4 1, 3) := by decide +kernel
theorem dX0_optionsWith_39 : decode cX0_optionsWith 39 = .ok (.goto (-34), 3) := by decide +kernel
theorem dX0_optionsWith_42 : decode cX0_optionsWith 42 = .ok (.iload_n 3, 1) := by decide +kernel
theorem dX0_optionsWith_43 : decode cX0_optionsWith 43 = .ok (.ireturn, 1) := by decide +kernel
set_option maxRecDepth 20000 in
theorem ggX0_fewestKeptWith_X0_isThere : GoodIn wsX0_fewestKeptWith wsX0_isThere := goodIn_r _ [5, 6, 7, 8, 4, 9, 10, 11, 12, 13, 30, 31, 32, 33, 34, 35] (by decide +kernel) (by decide +kernel)
set_option maxRecDepth 20000 in
theorem gX0_fewestKeptWith_X0_isThere : GoodIn wsX0_fewestKeptWith (wsV RX0 60 RX0 yX0_isThere wsX0_isThere) := goodIn_app (goodIn_of _ (by decide +kernel)) ggX0_fewestKeptWith_X0_isThere
set_option maxRecDepth 20000 in
theorem ggX0_fewestKeptWith_X0_optionsWith : GoodIn wsX0_fewestKeptWith wsX0_optionsWith := goodIn_r _ [17, 18, 6, 7, 8, 4, 9, 10, 11, 12, 13, 19, 20, 21, 22, 23, 24, 25, 26, 27, 28, 29, 30, 31, 32, 33, 34, 35, 36, 37, 38, 39, 40, 41] (by decide +kernel) (by decide +kernel)
set_option maxRecDepth 20000 in
theorem gX0_fewestKeptWith_X0_optionsWith : GoodIn wsX0_fewestKeptWith (wsV RX0 89 RX0 yX0_optionsWith wsX0_optionsWith) := goodIn_app (goodIn_of _ (by decide +kernel)) ggX0_fewestKeptWith_X0_optionsWith
set_option maxRecDepth 20000 in
theorem ggX0_fewestKeptWith_X0_optionsOf : GoodIn wsX0_fewestKeptWith wsX0_optionsOf := goodIn_r _ [9, 10, 11, 12, 13, 30, 31, 32, 33, 34, 35] (by decide +kernel) (by decide +kernel)
set_option maxRecDepth 20000 in
theorem gX0_fewestKeptWith_X0_optionsOf : GoodIn wsX0_fewestKeptWith (wsV RX0 63 RX0 yX0_optionsOf wsX0_optionsOf) := goodIn_app (goodIn_of _ (by decide +kernel)) ggX0_fewestKeptWith_X0_optionsOf
theorem dX0_fewestKeptWith_0 : decode cX0_fewestKeptWith 0 = .ok (.iconst 0, 1) := by decide +kernel
theorem dX0_fewestKeptWith_1 : decode cX0_fewestKeptWith 1 = .ok (.istore_n 2, 1) := by decide +kernel
theorem dX0_fewestKeptWith_2 : decode cX0_fewestKeptWith 2 = .ok (.iconst 0, 1) := by decide +kernel
theorem dX0_fewestKeptWith_3 : decode cX0_fewestKeptWith 3 = .ok (.istore_n 3, 1) := by decide +kernel
theorem dX0_fewestKeptWith_4 : decode cX0_fewestKeptWith 4 = .ok (.iload_n 3, 1) := by decide +kernel
theorem dX0_fewestKeptWith_5 : decode cX0_fewestKeptWith 5 = .ok (.bipush 10, 2) := by decide +kernel
theorem dX0_fewestKeptWith_7 : decode cX0_fewestKeptWith 7 = .ok (.if_icmp .ge 34, 3) := by decide +kernel
theorem dX0_fewestKeptWith_10 : decode cX0_fewestKeptWith 10 = .ok (.aload_n 0, 1) := by decide +kernel
theorem dX0_fewestKeptWith_11 : decode cX0_fewestKeptWith 11 = .ok (.iload_n 3, 1) := by decide +kernel
theorem dX0_fewestKeptWith_12 : decode cX0_fewestKeptWith 12 = .ok (.invokevirtual 60, 3) := by decide +kernel
theorem dX0_fewestKeptWith_15 : decode cX0_fewestKeptWith 15 = .ok (.ifCond .eq 20, 3) := by decide +kernel
theorem dX0_fewestKeptWith_18 : decode cX0_fewestKeptWith 18 = .ok (.aload_n 0, 1) := by decide +kernel
theorem dX0_fewestKeptWith_19 : decode cX0_fewestKeptWith 19 = .ok (.iload_n 3, 1) := by decide +kernel
theorem dX0_fewestKeptWith_20 : decode cX0_fewestKeptWith 20 = .ok (.iload_n 1, 1) := by decide +kernel
theorem dX0_fewestKeptWith_21 : decode cX0_fewestKeptWith 21 = .ok (.invokevirtual 89, 3) := by decide +kernel
theorem dX0_fewestKeptWith_24 : decode cX0_fewestKeptWith 24 = .ok (.aload_n 0, 1) := by decide +kernel
theorem dX0_fewestKeptWith_25 : decode cX0_fewestKeptWith 25 = .ok (.iload_n 3, 1) := by decide +kernel
theorem dX0_fewestKeptWith_26 : decode cX0_fewestKeptWith 26 = .ok (.invokevirtual 63, 3) := by decide +kernel
theorem dX0_fewestKeptWith_29 : decode cX0_fewestKeptWith 29 = .ok (.if_icmp .ne 6, 3) := by decide +kernel
theorem dX0_fewestKeptWith_32 : decode cX0_fewestKeptWith 32 = .ok (.iinc 2 1, 3) := by decide +kernel
theorem dX0_fewestKeptWith_35 : decode cX0_fewestKeptWith 35 = .ok (.iinc 3 1, 3) := by decide +kernel
theorem dX0_fewestKeptWith_38 : decode cX0_fewestKeptWith 38 = .ok (.goto (-34), 3) := by decide +kernel
theorem dX0_fewestKeptWith_41 : decode cX0_fewestKeptWith 41 = .ok (.iload_n 2, 1) := by decide +kernel
theorem dX0_fewestKeptWith_42 : decode cX0_fewestKeptWith 42 = .ok (.ireturn, 1) := by decide +kernel
set_option maxRecDepth 20000 in
theorem ggX0_mostKeptWith_X0_optionsWith : GoodIn wsX0_mostKeptWith wsX0_optionsWith := goodIn_r _ [5, 6, 7, 8, 9, 4, 10, 11, 12, 13, 14, 15, 16, 17, 18, 19, 20, 21, 22, 23, 24, 25, 26, 27, 28, 29, 30, 31, 32, 33, 34, 35, 36, 37] (by decide +kernel) (by decide +kernel)
set_option maxRecDepth 20000 in
theorem gX0_mostKeptWith_X0_optionsWith : GoodIn wsX0_mostKeptWith (wsV RX0 89 RX0 yX0_optionsWith wsX0_optionsWith) := goodIn_app (goodIn_of _ (by decide +kernel)) ggX0_mostKeptWith_X0_optionsWith
theorem dX0_mostKeptWith_0 : decode cX0_mostKeptWith 0 = .ok (.iconst 0, 1) := by decide +kernel
theorem dX0_mostKeptWith_1 : decode cX0_mostKeptWith 1 = .ok (.istore_n 2, 1) := by decide +kernel
theorem dX0_mostKeptWith_2 : decode cX0_mostKeptWith 2 = .ok (.iconst 0, 1) := by decide +kernel
theorem dX0_mostKeptWith_3 : decode cX0_mostKeptWith 3 = .ok (.istore_n 3, 1) := by decide +kernel
theorem dX0_mostKeptWith_4 : decode cX0_mostKeptWith 4 = .ok (.iload_n 3, 1) := by decide +kernel
theorem dX0_mostKeptWith_5 : decode cX0_mostKeptWith 5 = .ok (.bipush 10, 2) := by decide +kernel
theorem dX0_mostKeptWith_7 : decode cX0_mostKeptWith 7 = .ok (.if_icmp .ge 21, 3) := by decide +kernel
theorem dX0_mostKeptWith_10 : decode cX0_mostKeptWith 10 = .ok (.aload_n 0, 1) := by decide +kernel
theorem dX0_mostKeptWith_11 : decode cX0_mostKeptWith 11 = .ok (.iload_n 3, 1) := by decide +kernel
theorem dX0_mostKeptWith_12 : decode cX0_mostKeptWith 12 = .ok (.iload_n 1, 1) := by decide +kernel
theorem dX0_mostKeptWith_13 : decode cX0_mostKeptWith 13 = .ok (.invokevirtual 89, 3) := by decide +kernel
theorem dX0_mostKeptWith_16 : decode cX0_mostKeptWith 16 = .ok (.ifCond .le 6, 3) := by decide +kernel
theorem dX0_mostKeptWith_19 : decode cX0_mostKeptWith 19 = .ok (.iinc 2 1, 3) := by decide +kernel
theorem dX0_mostKeptWith_22 : decode cX0_mostKeptWith 22 = .ok (.iinc 3 1, 3) := by decide +kernel
theorem dX0_mostKeptWith_25 : decode cX0_mostKeptWith 25 = .ok (.goto (-21), 3) := by decide +kernel
theorem dX0_mostKeptWith_28 : decode cX0_mostKeptWith 28 = .ok (.iload_n 2, 1) := by decide +kernel
theorem dX0_mostKeptWith_29 : decode cX0_mostKeptWith 29 = .ok (.ireturn, 1) := by decide +kernel
set_option maxRecDepth 20000 in
theorem ggX0_mendingsWithout_X0_isThere : GoodIn wsX0_mendingsWithout wsX0_isThere := goodIn_r _ [5, 6, 7, 8, 4, 9, 10, 11, 12, 13, 30, 31, 32, 33, 34, 35] (by decide +kernel) (by decide +kernel)
set_option maxRecDepth 20000 in
theorem gX0_mendingsWithout_X0_isThere : GoodIn wsX0_mendingsWithout (wsV RX0 60 RX0 yX0_isThere wsX0_isThere) := goodIn_app (goodIn_of _ (by decide +kernel)) ggX0_mendingsWithout_X0_isThere
set_option maxRecDepth 20000 in
theorem ggX0_mendingsWithout_X0_optionsOf : GoodIn wsX0_mendingsWithout wsX0_optionsOf := goodIn_r _ [9, 10, 11, 12, 13, 30, 31, 32, 33, 34, 35] (by decide +kernel) (by decide +kernel)
set_option maxRecDepth 20000 in
theorem gX0_mendingsWithout_X0_optionsOf : GoodIn wsX0_mendingsWithout (wsV RX0 63 RX0 yX0_optionsOf wsX0_optionsOf) := goodIn_app (goodIn_of _ (by decide +kernel)) ggX0_mendingsWithout_X0_optionsOf
set_option maxRecDepth 20000 in
theorem ggX0_mendingsWithout_X0_optionsWith : GoodIn wsX0_mendingsWithout wsX0_optionsWith := goodIn_r _ [17, 18, 6, 7, 8, 4, 9, 10, 11, 12, 13, 19, 20, 21, 22, 23, 24, 25, 26, 27, 28, 29, 30, 31, 32, 33, 34, 35, 36, 37, 38, 39, 40, 41] (by decide +kernel) (by decide +kernel)
set_option maxRecDepth 20000 in
theorem gX0_mendingsWithout_X0_optionsWith : GoodIn wsX0_mendingsWithout (wsV RX0 89 RX0 yX0_optionsWith wsX0_optionsWith) := goodIn_app (goodIn_of _ (by decide +kernel)) ggX0_mendingsWithout_X0_optionsWith
theorem dX0_mendingsWithout_0 : decode cX0_mendingsWithout 0 = .ok (.iconst 1, 1) := by decide +kernel
theorem dX0_mendingsWithout_1 : decode cX0_mendingsWithout 1 = .ok (.istore_n 2, 1) := by decide +kernel
theorem dX0_mendingsWithout_2 : decode cX0_mendingsWithout 2 = .ok (.iconst 0, 1) := by decide +kernel
theorem dX0_mendingsWithout_3 : decode cX0_mendingsWithout 3 = .ok (.istore_n 3, 1) := by decide +kernel
theorem dX0_mendingsWithout_4 : decode cX0_mendingsWithout 4 = .ok (.iload_n 3, 1) := by decide +kernel
theorem dX0_mendingsWithout_5 : decode cX0_mendingsWithout 5 = .ok (.bipush 10, 2) := by decide +kernel
theorem dX0_mendingsWithout_7 : decode cX0_mendingsWithout 7 = .ok (.if_icmp .ge 32, 3) := by decide +kernel
theorem dX0_mendingsWithout_10 : decode cX0_mendingsWithout 10 = .ok (.aload_n 0, 1) := by decide +kernel
theorem dX0_mendingsWithout_11 : decode cX0_mendingsWithout 11 = .ok (.iload_n 3, 1) := by decide +kernel
theorem dX0_mendingsWithout_12 : decode cX0_mendingsWithout 12 = .ok (.invokevirtual 60, 3) := by decide +kernel
theorem dX0_mendingsWithout_15 : decode cX0_mendingsWithout 15 = .ok (.ifCond .eq 18, 3) := by decide +kernel
theorem dX0_mendingsWithout_18 : decode cX0_mendingsWithout 18 = .ok (.iload_n 2, 1) := by decide +kernel
theorem dX0_mendingsWithout_19 : decode cX0_mendingsWithout 19 = .ok (.aload_n 0, 1) := by decide +kernel
theorem dX0_mendingsWithout_20 : decode cX0_mendingsWithout 20 = .ok (.iload_n 3, 1) := by decide +kernel
theorem dX0_mendingsWithout_21 : decode cX0_mendingsWithout 21 = .ok (.invokevirtual 63, 3) := by decide +kernel
theorem dX0_mendingsWithout_24 : decode cX0_mendingsWithout 24 = .ok (.aload_n 0, 1) := by decide +kernel
theorem dX0_mendingsWithout_25 : decode cX0_mendingsWithout 25 = .ok (.iload_n 3, 1) := by decide +kernel
theorem dX0_mendingsWithout_26 : decode cX0_mendingsWithout 26 = .ok (.iload_n 1, 1) := by decide +kernel
theorem dX0_mendingsWithout_27 : decode cX0_mendingsWithout 27 = .ok (.invokevirtual 89, 3) := by decide +kernel
theorem dX0_mendingsWithout_30 : decode cX0_mendingsWithout 30 = .ok (.isub, 1) := by decide +kernel
theorem dX0_mendingsWithout_31 : decode cX0_mendingsWithout 31 = .ok (.imul, 1) := by decide +kernel
theorem dX0_mendingsWithout_32 : decode cX0_mendingsWithout 32 = .ok (.istore_n 2, 1) := by decide +kernel
theorem dX0_mendingsWithout_33 : decode cX0_mendingsWithout 33 = .ok (.iinc 3 1, 3) := by decide +kernel
theorem dX0_mendingsWithout_36 : decode cX0_mendingsWithout 36 = .ok (.goto (-32), 3) := by decide +kernel
theorem dX0_mendingsWithout_39 : decode cX0_mendingsWithout 39 = .ok (.iload_n 2, 1) := by decide +kernel
theorem dX0_mendingsWithout_40 : decode cX0_mendingsWithout 40 = .ok (.ireturn, 1) := by decide +kernel
set_option maxRecDepth 20000 in
theorem ggX0_sureValues_X0_fewestKeptWith : GoodIn wsX0_sureValues wsX0_fewestKeptWith := goodIn_r _ [5, 6, 7, 8, 4, 9, 10, 11, 12, 13, 14, 15, 16, 17, 18, 19, 20, 21, 22, 23, 24, 25, 26, 27, 28, 29, 30, 31, 32, 33, 34, 35, 36, 37, 38, 39, 40, 41, 42, 43, 44, 45] (by decide +kernel) (by decide +kernel)
set_option maxRecDepth 20000 in
theorem gX0_sureValues_X0_fewestKeptWith : GoodIn wsX0_sureValues (wsV RX0 92 RX0 yX0_fewestKeptWith wsX0_fewestKeptWith) := goodIn_app (goodIn_of _ (by decide +kernel)) ggX0_sureValues_X0_fewestKeptWith
theorem dX0_sureValues_0 : decode cX0_sureValues 0 = .ok (.iconst 0, 1) := by decide +kernel
theorem dX0_sureValues_1 : decode cX0_sureValues 1 = .ok (.istore_n 1, 1) := by decide +kernel
theorem dX0_sureValues_2 : decode cX0_sureValues 2 = .ok (.bipush 97, 2) := by decide +kernel
theorem dX0_sureValues_4 : decode cX0_sureValues 4 = .ok (.istore_n 2, 1) := by decide +kernel
theorem dX0_sureValues_5 : decode cX0_sureValues 5 = .ok (.iload_n 2, 1) := by decide +kernel
theorem dX0_sureValues_6 : decode cX0_sureValues 6 = .ok (.bipush 104, 2) := by decide +kernel
theorem dX0_sureValues_8 : decode cX0_sureValues 8 = .ok (.if_icmp .gt 20, 3) := by decide +kernel
theorem dX0_sureValues_11 : decode cX0_sureValues 11 = .ok (.aload_n 0, 1) := by decide +kernel
theorem dX0_sureValues_12 : decode cX0_sureValues 12 = .ok (.iload_n 2, 1) := by decide +kernel
theorem dX0_sureValues_13 : decode cX0_sureValues 13 = .ok (.invokevirtual 92, 3) := by decide +kernel
theorem dX0_sureValues_16 : decode cX0_sureValues 16 = .ok (.ifCond .le 6, 3) := by decide +kernel
theorem dX0_sureValues_19 : decode cX0_sureValues 19 = .ok (.iinc 1 1, 3) := by decide +kernel
theorem dX0_sureValues_22 : decode cX0_sureValues 22 = .ok (.iinc 2 1, 3) := by decide +kernel
theorem dX0_sureValues_25 : decode cX0_sureValues 25 = .ok (.goto (-20), 3) := by decide +kernel
theorem dX0_sureValues_28 : decode cX0_sureValues 28 = .ok (.iload_n 1, 1) := by decide +kernel
theorem dX0_sureValues_29 : decode cX0_sureValues 29 = .ok (.ireturn, 1) := by decide +kernel
set_option maxRecDepth 20000 in
theorem ggX0_possibleValues_X0_mostKeptWith : GoodIn wsX0_possibleValues wsX0_mostKeptWith := goodIn_r _ [5, 6, 7, 8, 4, 9, 10, 11, 12, 13, 14, 15, 16, 17, 18, 19, 20, 21, 22, 23, 24, 25, 26, 27, 28, 29, 30, 31, 32, 33, 34, 35, 36, 37, 38, 39, 40, 41] (by decide +kernel) (by decide +kernel)
set_option maxRecDepth 20000 in
theorem gX0_possibleValues_X0_mostKeptWith : GoodIn wsX0_possibleValues (wsV RX0 95 RX0 yX0_mostKeptWith wsX0_mostKeptWith) := goodIn_app (goodIn_of _ (by decide +kernel)) ggX0_possibleValues_X0_mostKeptWith
theorem dX0_possibleValues_0 : decode cX0_possibleValues 0 = .ok (.iconst 0, 1) := by decide +kernel
theorem dX0_possibleValues_1 : decode cX0_possibleValues 1 = .ok (.istore_n 1, 1) := by decide +kernel
theorem dX0_possibleValues_2 : decode cX0_possibleValues 2 = .ok (.bipush 97, 2) := by decide +kernel
theorem dX0_possibleValues_4 : decode cX0_possibleValues 4 = .ok (.istore_n 2, 1) := by decide +kernel
theorem dX0_possibleValues_5 : decode cX0_possibleValues 5 = .ok (.iload_n 2, 1) := by decide +kernel
theorem dX0_possibleValues_6 : decode cX0_possibleValues 6 = .ok (.bipush 104, 2) := by decide +kernel
theorem dX0_possibleValues_8 : decode cX0_possibleValues 8 = .ok (.if_icmp .gt 20, 3) := by decide +kernel
theorem dX0_possibleValues_11 : decode cX0_possibleValues 11 = .ok (.aload_n 0, 1) := by decide +kernel
theorem dX0_possibleValues_12 : decode cX0_possibleValues 12 = .ok (.iload_n 2, 1) := by decide +kernel
theorem dX0_possibleValues_13 : decode cX0_possibleValues 13 = .ok (.invokevirtual 95, 3) := by decide +kernel
theorem dX0_possibleValues_16 : decode cX0_possibleValues 16 = .ok (.ifCond .le 6, 3) := by decide +kernel
theorem dX0_possibleValues_19 : decode cX0_possibleValues 19 = .ok (.iinc 1 1, 3) := by decide +kernel
theorem dX0_possibleValues_22 : decode cX0_possibleValues 22 = .ok (.iinc 2 1, 3) := by decide +kernel
theorem dX0_possibleValues_25 : decode cX0_possibleValues 25 = .ok (.goto (-20), 3) := by decide +kernel
theorem dX0_possibleValues_28 : decode cX0_possibleValues 28 = .ok (.iload_n 1, 1) := by decide +kernel
theorem dX0_possibleValues_29 : decode cX0_possibleValues 29 = .ok (.ireturn, 1) := by decide +kernel
set_option maxRecDepth 20000 in
theorem ggX0_sumKeptBy_X0_isThere : GoodIn wsX0_sumKeptBy wsX0_isThere := goodIn_r _ [6, 7, 8, 9, 5, 10, 11, 12, 13, 14, 31, 32, 33, 34, 35, 36] (by decide +kernel) (by decide +kernel)
set_option maxRecDepth 20000 in
theorem gX0_sumKeptBy_X0_isThere : GoodIn wsX0_sumKeptBy (wsV RX0 60 RX0 yX0_isThere wsX0_isThere) := goodIn_app (goodIn_of _ (by decide +kernel)) ggX0_sumKeptBy_X0_isThere
set_option maxRecDepth 20000 in
theorem ggX0_sumKeptBy_X0_rowKeptBy : GoodIn wsX0_sumKeptBy wsX0_rowKeptBy := goodIn_r _ [18, 19, 7, 8, 9, 5, 10, 11, 12, 13, 14, 20, 21, 22, 23, 24, 31, 32, 33, 34, 35, 36] (by decide +kernel) (by decide +kernel)
set_option maxRecDepth 20000 in
theorem gX0_sumKeptBy_X0_rowKeptBy : GoodIn wsX0_sumKeptBy (wsV RX0 98 RX0 yX0_rowKeptBy wsX0_rowKeptBy) := goodIn_app (goodIn_of _ (by decide +kernel)) ggX0_sumKeptBy_X0_rowKeptBy
set_option maxRecDepth 20000 in
theorem ggX0_sumKeptBy_X3_weightAt : GoodIn wsX0_sumKeptBy wsX3_weightAt := goodIn_r _ [29, 30, 12, 13, 14, 37, 38, 39, 40, 41, 42] (by decide +kernel) (by decide +kernel)
set_option maxRecDepth 20000 in
theorem gX0_sumKeptBy_X3_weightAt : GoodIn wsX0_sumKeptBy (wsV RX0 101 RX3 yX3_weightAt wsX3_weightAt) := goodIn_app (goodIn_of _ (by decide +kernel)) ggX0_sumKeptBy_X3_weightAt
theorem dX0_sumKeptBy_0 : decode cX0_sumKeptBy 0 = .ok (.iconst 0, 1) := by decide +kernel
theorem dX0_sumKeptBy_1 : decode cX0_sumKeptBy 1 = .ok (.istore_n 2, 1) := by decide +kernel
theorem dX0_sumKeptBy_2 : decode cX0_sumKeptBy 2 = .ok (.iconst 0, 1) := by decide +kernel
theorem dX0_sumKeptBy_3 : decode cX0_sumKeptBy 3 = .ok (.istore_n 3, 1) := by decide +kernel
theorem dX0_sumKeptBy_4 : decode cX0_sumKeptBy 4 = .ok (.iload_n 3, 1) := by decide +kernel
theorem dX0_sumKeptBy_5 : decode cX0_sumKeptBy 5 = .ok (.bipush 10, 2) := by decide +kernel
theorem dX0_sumKeptBy_7 : decode cX0_sumKeptBy 7 = .ok (.if_icmp .ge 33, 3) := by decide +kernel
theorem dX0_sumKeptBy_10 : decode cX0_sumKeptBy 10 = .ok (.aload_n 0, 1) := by decide +kernel
theorem dX0_sumKeptBy_11 : decode cX0_sumKeptBy 11 = .ok (.iload_n 3, 1) := by decide +kernel
theorem dX0_sumKeptBy_12 : decode cX0_sumKeptBy 12 = .ok (.invokevirtual 60, 3) := by decide +kernel
theorem dX0_sumKeptBy_15 : decode cX0_sumKeptBy 15 = .ok (.ifCond .eq 19, 3) := by decide +kernel
theorem dX0_sumKeptBy_18 : decode cX0_sumKeptBy 18 = .ok (.iload_n 2, 1) := by decide +kernel
theorem dX0_sumKeptBy_19 : decode cX0_sumKeptBy 19 = .ok (.aload_n 0, 1) := by decide +kernel
theorem dX0_sumKeptBy_20 : decode cX0_sumKeptBy 20 = .ok (.getfield 24, 3) := by decide +kernel
theorem dX0_sumKeptBy_23 : decode cX0_sumKeptBy 23 = .ok (.aload_n 0, 1) := by decide +kernel
theorem dX0_sumKeptBy_24 : decode cX0_sumKeptBy 24 = .ok (.iload_n 1, 1) := by decide +kernel
theorem dX0_sumKeptBy_25 : decode cX0_sumKeptBy 25 = .ok (.iload_n 3, 1) := by decide +kernel
theorem dX0_sumKeptBy_26 : decode cX0_sumKeptBy 26 = .ok (.invokevirtual 98, 3) := by decide +kernel
theorem dX0_sumKeptBy_29 : decode cX0_sumKeptBy 29 = .ok (.invokevirtual 101, 3) := by decide +kernel
theorem dX0_sumKeptBy_32 : decode cX0_sumKeptBy 32 = .ok (.iadd, 1) := by decide +kernel
theorem dX0_sumKeptBy_33 : decode cX0_sumKeptBy 33 = .ok (.istore_n 2, 1) := by decide +kernel
theorem dX0_sumKeptBy_34 : decode cX0_sumKeptBy 34 = .ok (.iinc 3 1, 3) := by decide +kernel
theorem dX0_sumKeptBy_37 : decode cX0_sumKeptBy 37 = .ok (.goto (-33), 3) := by decide +kernel
theorem dX0_sumKeptBy_40 : decode cX0_sumKeptBy 40 = .ok (.iload_n 2, 1) := by decide +kernel
theorem dX0_sumKeptBy_41 : decode cX0_sumKeptBy 41 = .ok (.ireturn, 1) := by decide +kernel
set_option maxRecDepth 20000 in
theorem ggX0_firstLightestMending_X0_firstMendingByWeight : GoodIn wsX0_firstLightestMending wsX0_firstMendingByWeight := goodIn_r _ [5, 6, 7, 8, 9, 4, 10, 11, 12, 13, 14, 15, 16, 17, 18, 19, 20, 21, 22, 23, 24, 25, 26, 27, 28, 29, 30, 31, 32, 33, 34, 35, 36, 37, 38, 39, 40, 41, 42] (by decide +kernel) (by decide +kernel)
set_option maxRecDepth 20000 in
theorem gX0_firstLightestMending_X0_firstMendingByWeight : GoodIn wsX0_firstLightestMending (wsV RX0 104 RX0 yX0_firstMendingByWeight wsX0_firstMendingByWeight) := goodIn_app (goodIn_of _ (by decide +kernel)) ggX0_firstLightestMending_X0_firstMendingByWeight
theorem dX0_firstLightestMending_0 : decode cX0_firstLightestMending 0 = .ok (.aload_n 0, 1) := by decide +kernel
theorem dX0_firstLightestMending_1 : decode cX0_firstLightestMending 1 = .ok (.iconst (-1), 1) := by decide +kernel
theorem dX0_firstLightestMending_2 : decode cX0_firstLightestMending 2 = .ok (.invokevirtual 104, 3) := by decide +kernel
theorem dX0_firstLightestMending_5 : decode cX0_firstLightestMending 5 = .ok (.ireturn, 1) := by decide +kernel
set_option maxRecDepth 20000 in
theorem ggX0_firstHeaviestMending_X0_firstMendingByWeight : GoodIn wsX0_firstHeaviestMending wsX0_firstMendingByWeight := goodIn_r _ [5, 6, 7, 8, 9, 4, 10, 11, 12, 13, 14, 15, 16, 17, 18, 19, 20, 21, 22, 23, 24, 25, 26, 27, 28, 29, 30, 31, 32, 33, 34, 35, 36, 37, 38, 39, 40, 41, 42] (by decide +kernel) (by decide +kernel)
set_option maxRecDepth 20000 in
theorem gX0_firstHeaviestMending_X0_firstMendingByWeight : GoodIn wsX0_firstHeaviestMending (wsV RX0 104 RX0 yX0_firstMendingByWeight wsX0_firstMendingByWeight) := goodIn_app (goodIn_of _ (by decide +kernel)) ggX0_firstHeaviestMending_X0_firstMendingByWeight
theorem dX0_firstHeaviestMending_0 : decode cX0_firstHeaviestMending 0 = .ok (.aload_n 0, 1) := by decide +kernel
theorem dX0_firstHeaviestMending_1 : decode cX0_firstHeaviestMending 1 = .ok (.iconst 1, 1) := by decide +kernel
theorem dX0_firstHeaviestMending_2 : decode cX0_firstHeaviestMending 2 = .ok (.invokevirtual 104, 3) := by decide +kernel
theorem dX0_firstHeaviestMending_5 : decode cX0_firstHeaviestMending 5 = .ok (.ireturn, 1) := by decide +kernel
set_option maxRecDepth 20000 in
theorem ggX0_firstMendingByWeight_X0_optionsOf : GoodIn wsX0_firstMendingByWeight wsX0_optionsOf := goodIn_r _ [6, 7, 8, 9, 10, 27, 28, 29, 30, 31, 32] (by decide +kernel) (by decide +kernel)
set_option maxRecDepth 20000 in
theorem gX0_firstMendingByWeight_X0_optionsOf : GoodIn wsX0_firstMendingByWeight (wsV RX0 63 RX0 yX0_optionsOf wsX0_optionsOf) := goodIn_app (goodIn_of _ (by decide +kernel)) ggX0_firstMendingByWeight_X0_optionsOf
set_option maxRecDepth 20000 in
theorem ggX0_firstMendingByWeight_X0_optionWeight : GoodIn wsX0_firstMendingByWeight wsX0_optionWeight := goodIn_r _ [14, 15, 16, 17, 18, 5, 19, 20, 8, 9, 10, 21, 22, 23, 24, 25, 26, 27, 28, 29, 30, 31, 32, 33, 34, 35, 36, 37, 38] (by decide +kernel) (by decide +kernel)
set_option maxRecDepth 20000 in
theorem gX0_firstMendingByWeight_X0_optionWeight : GoodIn wsX0_firstMendingByWeight (wsV RX0 107 RX0 yX0_optionWeight wsX0_optionWeight) := goodIn_app (goodIn_of _ (by decide +kernel)) ggX0_firstMendingByWeight_X0_optionWeight
set_option maxRecDepth 20000 in
theorem ggX0_firstMendingByWeight_X5_at : GoodIn wsX0_firstMendingByWeight wsX5_at := goodIn_r _ [10] (by decide +kernel) (by decide +kernel)
set_option maxRecDepth 20000 in
theorem gX0_firstMendingByWeight_X5_at_n66 : GoodIn wsX0_firstMendingByWeight (wsX5_at) := ggX0_firstMendingByWeight_X5_at
theorem dX0_firstMendingByWeight_0 : decode cX0_firstMendingByWeight 0 = .ok (.iconst 0, 1) := by decide +kernel
theorem dX0_firstMendingByWeight_1 : decode cX0_firstMendingByWeight 1 = .ok (.istore_n 2, 1) := by decide +kernel
theorem dX0_firstMendingByWeight_2 : decode cX0_firstMendingByWeight 2 = .ok (.iconst 0, 1) := by decide +kernel
theorem dX0_firstMendingByWeight_3 : decode cX0_firstMendingByWeight 3 = .ok (.istore_n 3, 1) := by decide +kernel
theorem dX0_firstMendingByWeight_4 : decode cX0_firstMendingByWeight 4 = .ok (.iload_n 3, 1) := by decide +kernel
theorem dX0_firstMendingByWeight_5 : decode cX0_firstMendingByWeight 5 = .ok (.bipush 10, 2) := by decide +kernel
theorem dX0_firstMendingByWeight_7 : decode cX0_firstMendingByWeight 7 = .ok (.if_icmp .ge 70, 3) := by decide +kernel
theorem dX0_firstMendingByWeight_10 : decode cX0_firstMendingByWeight 10 = .ok (.iconst 0, 1) := by decide +kernel
theorem dX0_firstMendingByWeight_11 : decode cX0_firstMendingByWeight 11 = .ok (.istore 4, 2) := by decide +kernel
theorem dX0_firstMendingByWeight_13 : decode cX0_firstMendingByWeight 13 = .ok (.iconst 1, 1) := by decide +kernel
theorem dX0_firstMendingByWeight_14 : decode cX0_firstMendingByWeight 14 = .ok (.istore 5, 2) := by decide +kernel
theorem dX0_firstMendingByWeight_16 : decode cX0_firstMendingByWeight 16 = .ok (.iload 5, 2) := by decide +kernel
theorem dX0_firstMendingByWeight_18 : decode cX0_firstMendingByWeight 18 = .ok (.aload_n 0, 1) := by decide +kernel
theorem dX0_firstMendingByWeight_19 : decode cX0_firstMendingByWeight 19 = .ok (.iload_n 3, 1) := by decide +kernel
theorem dX0_firstMendingByWeight_20 : decode cX0_firstMendingByWeight 20 = .ok (.invokevirtual 63, 3) := by decide +kernel
theorem dX0_firstMendingByWeight_23 : decode cX0_firstMendingByWeight 23 = .ok (.if_icmp .ge 34, 3) := by decide +kernel
theorem dX0_firstMendingByWeight_26 : decode cX0_firstMendingByWeight 26 = .ok (.iload_n 1, 1) := by decide +kernel
theorem dX0_firstMendingByWeight_27 : decode cX0_firstMendingByWeight 27 = .ok (.aload_n 0, 1) := by decide +kernel
theorem dX0_firstMendingByWeight_28 : decode cX0_firstMendingByWeight 28 = .ok (.iload_n 3, 1) := by decide +kernel
theorem dX0_firstMendingByWeight_29 : decode cX0_firstMendingByWeight 29 = .ok (.iload 5, 2) := by decide +kernel
theorem dX0_firstMendingByWeight_31 : decode cX0_firstMendingByWeight 31 = .ok (.invokevirtual 107, 3) := by decide +kernel
theorem dX0_firstMendingByWeight_34 : decode cX0_firstMendingByWeight 34 = .ok (.imul, 1) := by decide +kernel
theorem dX0_firstMendingByWeight_35 : decode cX0_firstMendingByWeight 35 = .ok (.iload_n 1, 1) := by decide +kernel
theorem dX0_firstMendingByWeight_36 : decode cX0_firstMendingByWeight 36 = .ok (.aload_n 0, 1) := by decide +kernel
theorem dX0_firstMendingByWeight_37 : decode cX0_firstMendingByWeight 37 = .ok (.iload_n 3, 1) := by decide +kernel
theorem dX0_firstMendingByWeight_38 : decode cX0_firstMendingByWeight 38 = .ok (.iload 4, 2) := by decide +kernel
theorem dX0_firstMendingByWeight_40 : decode cX0_firstMendingByWeight 40 = .ok (.invokevirtual 107, 3) := by decide +kernel
theorem dX0_firstMendingByWeight_43 : decode cX0_firstMendingByWeight 43 = .ok (.imul, 1) := by decide +kernel
theorem dX0_firstMendingByWeight_44 : decode cX0_firstMendingByWeight 44 = .ok (.if_icmp .le 7, 3) := by decide +kernel
theorem dX0_firstMendingByWeight_47 : decode cX0_firstMendingByWeight 47 = .ok (.iload 5, 2) := by decide +kernel
theorem dX0_firstMendingByWeight_49 : decode cX0_firstMendingByWeight 49 = .ok (.istore 4, 2) := by decide +kernel
theorem dX0_firstMendingByWeight_51 : decode cX0_firstMendingByWeight 51 = .ok (.iinc 5 1, 3) := by decide +kernel
theorem dX0_firstMendingByWeight_54 : decode cX0_firstMendingByWeight 54 = .ok (.goto (-38), 3) := by decide +kernel
theorem dX0_firstMendingByWeight_57 : decode cX0_firstMendingByWeight 57 = .ok (.iload_n 2, 1) := by decide +kernel
theorem dX0_firstMendingByWeight_58 : decode cX0_firstMendingByWeight 58 = .ok (.iload 4, 2) := by decide +kernel
theorem dX0_firstMendingByWeight_60 : decode cX0_firstMendingByWeight 60 = .ok (.aload_n 0, 1) := by decide +kernel
theorem dX0_firstMendingByWeight_61 : decode cX0_firstMendingByWeight 61 = .ok (.getfield 18, 3) := by decide +kernel
theorem dX0_firstMendingByWeight_64 : decode cX0_firstMendingByWeight 64 = .ok (.iload_n 3, 1) := by decide +kernel
theorem dX0_firstMendingByWeight_65 : decode cX0_firstMendingByWeight 65 = .ok (.invokestatic 66, 3) := by decide +kernel
theorem dX0_firstMendingByWeight_68 : decode cX0_firstMendingByWeight 68 = .ok (.imul, 1) := by decide +kernel
theorem dX0_firstMendingByWeight_69 : decode cX0_firstMendingByWeight 69 = .ok (.iadd, 1) := by decide +kernel
theorem dX0_firstMendingByWeight_70 : decode cX0_firstMendingByWeight 70 = .ok (.istore_n 2, 1) := by decide +kernel
theorem dX0_firstMendingByWeight_71 : decode cX0_firstMendingByWeight 71 = .ok (.iinc 3 1, 3) := by decide +kernel
theorem dX0_firstMendingByWeight_74 : decode cX0_firstMendingByWeight 74 = .ok (.goto (-70), 3) := by decide +kernel
theorem dX0_firstMendingByWeight_77 : decode cX0_firstMendingByWeight 77 = .ok (.iload_n 2, 1) := by decide +kernel
theorem dX0_firstMendingByWeight_78 : decode cX0_firstMendingByWeight 78 = .ok (.ireturn, 1) := by decide +kernel
set_option maxRecDepth 20000 in
theorem ggX0_optionWeight_X0_option : GoodIn wsX0_optionWeight wsX0_option := goodIn_r _ [6, 7, 8, 9, 10, 17, 18, 19, 20, 21, 22] (by decide +kernel) (by decide +kernel)
set_option maxRecDepth 20000 in
theorem gX0_optionWeight_X0_option : GoodIn wsX0_optionWeight (wsV RX0 79 RX0 yX0_option wsX0_option) := goodIn_app (goodIn_of _ (by decide +kernel)) ggX0_optionWeight_X0_option
set_option maxRecDepth 20000 in
theorem ggX0_optionWeight_X3_weightAt : GoodIn wsX0_optionWeight wsX3_weightAt := goodIn_r _ [15, 16, 8, 9, 10, 23, 24, 25, 26, 27, 28] (by decide +kernel) (by decide +kernel)
set_option maxRecDepth 20000 in
theorem gX0_optionWeight_X3_weightAt : GoodIn wsX0_optionWeight (wsV RX0 101 RX3 yX3_weightAt wsX3_weightAt) := goodIn_app (goodIn_of _ (by decide +kernel)) ggX0_optionWeight_X3_weightAt
theorem dX0_optionWeight_0 : decode cX0_optionWeight 0 = .ok (.aload_n 0, 1) := by decide +kernel
theorem dX0_optionWeight_1 : decode cX0_optionWeight 1 = .ok (.getfield 24, 3) := by decide +kernel
theorem dX0_optionWeight_4 : decode cX0_optionWeight 4 = .ok (.aload_n 0, 1) := by decide +kernel
theorem dX0_optionWeight_5 : decode cX0_optionWeight 5 = .ok (.iload_n 1, 1) := by decide +kernel
theorem dX0_optionWeight_6 : decode cX0_optionWeight 6 = .ok (.iload_n 2, 1) := by decide +kernel
theorem dX0_optionWeight_7 : decode cX0_optionWeight 7 = .ok (.invokevirtual 79, 3) := by decide +kernel
theorem dX0_optionWeight_10 : decode cX0_optionWeight 10 = .ok (.invokevirtual 101, 3) := by decide +kernel
theorem dX0_optionWeight_13 : decode cX0_optionWeight 13 = .ok (.ireturn, 1) := by decide +kernel
set_option maxRecDepth 20000 in
theorem ggX0_holdsIn_X0_isThere : GoodIn wsX0_holdsIn wsX0_isThere := goodIn_r _ [6, 7, 8, 9, 5, 10, 11, 12, 13, 14, 31, 32, 33, 34, 35, 36] (by decide +kernel) (by decide +kernel)
set_option maxRecDepth 20000 in
theorem gX0_holdsIn_X0_isThere : GoodIn wsX0_holdsIn (wsV RX0 60 RX0 yX0_isThere wsX0_isThere) := goodIn_app (goodIn_of _ (by decide +kernel)) ggX0_holdsIn_X0_isThere
set_option maxRecDepth 20000 in
theorem ggX0_holdsIn_X0_rowKeptBy : GoodIn wsX0_holdsIn wsX0_rowKeptBy := goodIn_r _ [18, 19, 7, 8, 9, 5, 10, 11, 12, 13, 14, 20, 21, 22, 23, 24, 31, 32, 33, 34, 35, 36] (by decide +kernel) (by decide +kernel)
set_option maxRecDepth 20000 in
theorem gX0_holdsIn_X0_rowKeptBy : GoodIn wsX0_holdsIn (wsV RX0 98 RX0 yX0_rowKeptBy wsX0_rowKeptBy) := goodIn_app (goodIn_of _ (by decide +kernel)) ggX0_holdsIn_X0_rowKeptBy
set_option maxRecDepth 20000 in
theorem ggX0_holdsIn_X3_targetAt : GoodIn wsX0_holdsIn wsX3_targetAt := goodIn_r _ [29, 30, 12, 13, 14, 37, 38, 39, 40, 41, 42] (by decide +kernel) (by decide +kernel)
set_option maxRecDepth 20000 in
theorem gX0_holdsIn_X3_targetAt : GoodIn wsX0_holdsIn (wsV RX0 73 RX3 yX3_targetAt wsX3_targetAt) := goodIn_app (goodIn_of _ (by decide +kernel)) ggX0_holdsIn_X3_targetAt
theorem dX0_holdsIn_0 : decode cX0_holdsIn 0 = .ok (.iload_n 2, 1) := by decide +kernel
theorem dX0_holdsIn_1 : decode cX0_holdsIn 1 = .ok (.istore 4, 2) := by decide +kernel
theorem dX0_holdsIn_3 : decode cX0_holdsIn 3 = .ok (.iconst 0, 1) := by decide +kernel
theorem dX0_holdsIn_4 : decode cX0_holdsIn 4 = .ok (.istore 5, 2) := by decide +kernel
theorem dX0_holdsIn_6 : decode cX0_holdsIn 6 = .ok (.iload 5, 2) := by decide +kernel
theorem dX0_holdsIn_8 : decode cX0_holdsIn 8 = .ok (.bipush 10, 2) := by decide +kernel
theorem dX0_holdsIn_10 : decode cX0_holdsIn 10 = .ok (.if_icmp .ge 44, 3) := by decide +kernel
theorem dX0_holdsIn_13 : decode cX0_holdsIn 13 = .ok (.aload_n 0, 1) := by decide +kernel
theorem dX0_holdsIn_14 : decode cX0_holdsIn 14 = .ok (.iload 4, 2) := by decide +kernel
theorem dX0_holdsIn_16 : decode cX0_holdsIn 16 = .ok (.invokevirtual 60, 3) := by decide +kernel
theorem dX0_holdsIn_19 : decode cX0_holdsIn 19 = .ok (.ifCond .ne 5, 3) := by decide +kernel
theorem dX0_holdsIn_22 : decode cX0_holdsIn 22 = .ok (.iconst 0, 1) := by decide +kernel
theorem dX0_holdsIn_23 : decode cX0_holdsIn 23 = .ok (.ireturn, 1) := by decide +kernel
theorem dX0_holdsIn_24 : decode cX0_holdsIn 24 = .ok (.iload 4, 2) := by decide +kernel
theorem dX0_holdsIn_26 : decode cX0_holdsIn 26 = .ok (.iload_n 3, 1) := by decide +kernel
theorem dX0_holdsIn_27 : decode cX0_holdsIn 27 = .ok (.if_icmp .ne 5, 3) := by decide +kernel
theorem dX0_holdsIn_30 : decode cX0_holdsIn 30 = .ok (.iconst 1, 1) := by decide +kernel
theorem dX0_holdsIn_31 : decode cX0_holdsIn 31 = .ok (.ireturn, 1) := by decide +kernel
theorem dX0_holdsIn_32 : decode cX0_holdsIn 32 = .ok (.aload_n 0, 1) := by decide +kernel
theorem dX0_holdsIn_33 : decode cX0_holdsIn 33 = .ok (.getfield 24, 3) := by decide +kernel
theorem dX0_holdsIn_36 : decode cX0_holdsIn 36 = .ok (.aload_n 0, 1) := by decide +kernel
theorem dX0_holdsIn_37 : decode cX0_holdsIn 37 = .ok (.iload_n 1, 1) := by decide +kernel
theorem dX0_holdsIn_38 : decode cX0_holdsIn 38 = .ok (.iload 4, 2) := by decide +kernel
theorem dX0_holdsIn_40 : decode cX0_holdsIn 40 = .ok (.invokevirtual 98, 3) := by decide +kernel
theorem dX0_holdsIn_43 : decode cX0_holdsIn 43 = .ok (.invokevirtual 73, 3) := by decide +kernel
theorem dX0_holdsIn_46 : decode cX0_holdsIn 46 = .ok (.istore 4, 2) := by decide +kernel
theorem dX0_holdsIn_48 : decode cX0_holdsIn 48 = .ok (.iinc 5 1, 3) := by decide +kernel
theorem dX0_holdsIn_51 : decode cX0_holdsIn 51 = .ok (.goto (-45), 3) := by decide +kernel
theorem dX0_holdsIn_54 : decode cX0_holdsIn 54 = .ok (.iconst 0, 1) := by decide +kernel
theorem dX0_holdsIn_55 : decode cX0_holdsIn 55 = .ok (.ireturn, 1) := by decide +kernel
set_option maxRecDepth 20000 in
theorem ggX0_mendingsWithWay_X0_holdsIn : GoodIn wsX0_mendingsWithWay wsX0_holdsIn := goodIn_r _ [6, 7, 8, 9, 10, 5, 11, 12, 13, 14, 15, 16, 17, 18, 19, 20, 21, 22, 23, 24, 25, 26, 27, 28, 29, 30, 31, 32, 33, 34, 35, 36, 37, 38, 39, 40, 41, 42, 43, 44, 45, 46, 47] (by decide +kernel) (by decide +kernel)
set_option maxRecDepth 20000 in
theorem gX0_mendingsWithWay_X0_holdsIn : GoodIn wsX0_mendingsWithWay (wsV RX0 110 RX0 yX0_holdsIn wsX0_holdsIn) := goodIn_app (goodIn_of _ (by decide +kernel)) ggX0_mendingsWithWay_X0_holdsIn
theorem dX0_mendingsWithWay_0 : decode cX0_mendingsWithWay 0 = .ok (.iconst 0, 1) := by decide +kernel
theorem dX0_mendingsWithWay_1 : decode cX0_mendingsWithWay 1 = .ok (.istore_n 3, 1) := by decide +kernel
theorem dX0_mendingsWithWay_2 : decode cX0_mendingsWithWay 2 = .ok (.iconst 0, 1) := by decide +kernel
theorem dX0_mendingsWithWay_3 : decode cX0_mendingsWithWay 3 = .ok (.istore 4, 2) := by decide +kernel
theorem dX0_mendingsWithWay_5 : decode cX0_mendingsWithWay 5 = .ok (.iload 4, 2) := by decide +kernel
theorem dX0_mendingsWithWay_7 : decode cX0_mendingsWithWay 7 = .ok (.aload_n 0, 1) := by decide +kernel
theorem dX0_mendingsWithWay_8 : decode cX0_mendingsWithWay 8 = .ok (.getfield 52, 3) := by decide +kernel
theorem dX0_mendingsWithWay_11 : decode cX0_mendingsWithWay 11 = .ok (.if_icmp .ge 23, 3) := by decide +kernel
theorem dX0_mendingsWithWay_14 : decode cX0_mendingsWithWay 14 = .ok (.aload_n 0, 1) := by decide +kernel
theorem dX0_mendingsWithWay_15 : decode cX0_mendingsWithWay 15 = .ok (.iload 4, 2) := by decide +kernel
theorem dX0_mendingsWithWay_17 : decode cX0_mendingsWithWay 17 = .ok (.iload_n 1, 1) := by decide +kernel
theorem dX0_mendingsWithWay_18 : decode cX0_mendingsWithWay 18 = .ok (.iload_n 2, 1) := by decide +kernel
theorem dX0_mendingsWithWay_19 : decode cX0_mendingsWithWay 19 = .ok (.invokevirtual 110, 3) := by decide +kernel
theorem dX0_mendingsWithWay_22 : decode cX0_mendingsWithWay 22 = .ok (.ifCond .eq 6, 3) := by decide +kernel
theorem dX0_mendingsWithWay_25 : decode cX0_mendingsWithWay 25 = .ok (.iinc 3 1, 3) := by decide +kernel
theorem dX0_mendingsWithWay_28 : decode cX0_mendingsWithWay 28 = .ok (.iinc 4 1, 3) := by decide +kernel
theorem dX0_mendingsWithWay_31 : decode cX0_mendingsWithWay 31 = .ok (.goto (-26), 3) := by decide +kernel
theorem dX0_mendingsWithWay_34 : decode cX0_mendingsWithWay 34 = .ok (.iload_n 3, 1) := by decide +kernel
theorem dX0_mendingsWithWay_35 : decode cX0_mendingsWithWay 35 = .ok (.ireturn, 1) := by decide +kernel
set_option maxRecDepth 20000 in
theorem ggX0_firstMendingWithoutWay_X0_holdsIn : GoodIn wsX0_firstMendingWithoutWay wsX0_holdsIn := goodIn_r _ [6, 7, 8, 9, 10, 5, 11, 12, 13, 14, 15, 16, 17, 18, 19, 20, 21, 22, 23, 24, 25, 26, 27, 28, 29, 30, 31, 32, 33, 34, 35, 36, 37, 38, 39, 40, 41, 42, 43, 44, 45, 46, 47] (by decide +kernel) (by decide +kernel)
