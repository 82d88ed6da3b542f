theorem dX0_init_0 : decode cX0_init 0 = .ok (.aload_n 0, 1) := by decide +kernel
theorem dX0_init_1 : decode cX0_init 1 = .ok (.invokespecial 3, 3) := by decide +kernel
theorem dX0_init_4 : decode cX0_init 4 = .ok (.aload_n 0, 1) := by decide +kernel
theorem dX0_init_5 : decode cX0_init 5 = .ok (.bipush 10, 2) := by decide +kernel
theorem dX0_init_7 : decode cX0_init 7 = .ok (.newarray .int, 2) := by decide +kernel
theorem dX0_init_9 : decode cX0_init 9 = .ok (.putfield 9, 3) := by decide +kernel
theorem dX0_init_12 : decode cX0_init 12 = .ok (.aload_n 0, 1) := by decide +kernel
theorem dX0_init_13 : decode cX0_init 13 = .ok (.sipush 200, 3) := by decide +kernel
theorem dX0_init_16 : decode cX0_init 16 = .ok (.newarray .int, 2) := by decide +kernel
theorem dX0_init_18 : decode cX0_init 18 = .ok (.putfield 15, 3) := by decide +kernel
theorem dX0_init_21 : decode cX0_init 21 = .ok (.aload_n 0, 1) := by decide +kernel
theorem dX0_init_22 : decode cX0_init 22 = .ok (.bipush 10, 2) := by decide +kernel
theorem dX0_init_24 : decode cX0_init 24 = .ok (.newarray .int, 2) := by decide +kernel
theorem dX0_init_26 : decode cX0_init 26 = .ok (.putfield 18, 3) := by decide +kernel
theorem dX0_init_29 : decode cX0_init 29 = .ok (.aload_n 0, 1) := by decide +kernel
theorem dX0_init_30 : decode cX0_init 30 = .ok (.bipush 10, 2) := by decide +kernel
theorem dX0_init_32 : decode cX0_init 32 = .ok (.newarray .int, 2) := by decide +kernel
theorem dX0_init_34 : decode cX0_init 34 = .ok (.putfield 21, 3) := by decide +kernel
theorem dX0_init_37 : decode cX0_init 37 = .ok (.aload_n 0, 1) := by decide +kernel
theorem dX0_init_38 : decode cX0_init 38 = .ok (.aload_n 1, 1) := by decide +kernel
theorem dX0_init_39 : decode cX0_init 39 = .ok (.putfield 24, 3) := by decide +kernel
theorem dX0_init_42 : decode cX0_init 42 = .ok (.return_, 1) := by decide +kernel
set_option maxRecDepth 20000 in
theorem ggX0_update_J7_fill_53178 : GoodIn wsX0_update wsJ7_fill_53178 := goodIn_r _ [9] (by decide +kernel) (by decide +kernel)
set_option maxRecDepth 20000 in
theorem gX0_update_J7_fill_53178 : GoodIn wsX0_update (va_wsS RX0 28 yJ7_fill_53178 wsJ7_fill_53178) := goodIn_app (goodIn_of _ (by decide +kernel)) ggX0_update_J7_fill_53178
set_option maxRecDepth 20000 in
theorem ggX0_update_X3_size : GoodIn wsX0_update wsX3_size := goodIn_r _ [14, 15, 72, 73, 74, 75, 76, 77] (by decide +kernel) (by decide +kernel)
set_option maxRecDepth 20000 in
theorem gX0_update_X3_size : GoodIn wsX0_update (wsV RX0 34 RX3 yX3_size wsX3_size) := goodIn_app (goodIn_of _ (by decide +kernel)) ggX0_update_X3_size
set_option maxRecDepth 20000 in
theorem ggX0_update_X3_canBeKept : GoodIn wsX0_update wsX3_canBeKept := goodIn_r _ [19, 20, 21, 22, 23, 13, 24, 25, 26, 27, 28, 29, 30, 31, 32, 33, 34, 35, 36, 37, 15, 72, 73, 74, 75, 76, 77] (by decide +kernel) (by decide +kernel)
set_option maxRecDepth 20000 in
theorem gX0_update_X3_canBeKept : GoodIn wsX0_update (wsV RX0 40 RX3 yX3_canBeKept wsX3_canBeKept) := goodIn_app (goodIn_of _ (by decide +kernel)) ggX0_update_X3_canBeKept
set_option maxRecDepth 20000 in
theorem ggX0_update_X3_keyAt : GoodIn wsX0_update wsX3_keyAt := goodIn_r _ [32, 33, 26, 27, 28, 72, 73, 74, 75, 76, 77] (by decide +kernel) (by decide +kernel)
set_option maxRecDepth 20000 in
theorem gX0_update_X3_keyAt : GoodIn wsX0_update (wsV RX0 44 RX3 yX3_keyAt wsX3_keyAt) := goodIn_app (goodIn_of _ (by decide +kernel)) ggX0_update_X3_keyAt
set_option maxRecDepth 20000 in
theorem ggX0_update_X0_addOption : GoodIn wsX0_update wsX0_addOption := goodIn_r _ [43, 44, 1, 2, 45, 46, 47, 42, 48, 26, 27, 28, 49, 50, 51, 52, 53, 54, 3, 55, 56, 57, 13, 58, 59, 60, 61, 66, 67, 68, 69, 70, 71, 72, 73, 74, 75, 76, 77] (by decide +kernel) (by decide +kernel)
set_option maxRecDepth 20000 in
theorem gX0_update_X0_addOption : GoodIn wsX0_update (wsV RX0 48 RX0 yX0_addOption wsX0_addOption) := goodIn_app (goodIn_of _ (by decide +kernel)) ggX0_update_X0_addOption
set_option maxRecDepth 20000 in
theorem ggX0_update_X5_put : GoodIn wsX0_update wsX5_put := goodIn_r _ [50] (by decide +kernel) (by decide +kernel)
set_option maxRecDepth 20000 in
theorem gX0_update_X5_put_n56 : GoodIn wsX0_update (wsX5_put) := ggX0_update_X5_put
set_option maxRecDepth 20000 in
theorem ggX0_update_X0_isThere : GoodIn wsX0_update wsX0_isThere := goodIn_r _ [65, 45, 46, 47, 42, 48, 1, 26, 27, 28, 66, 67, 68, 69, 70, 71] (by decide +kernel) (by decide +kernel)
set_option maxRecDepth 20000 in
theorem gX0_update_X0_isThere : GoodIn wsX0_update (wsV RX0 60 RX0 yX0_isThere wsX0_isThere) := goodIn_app (goodIn_of _ (by decide +kernel)) ggX0_update_X0_isThere
set_option maxRecDepth 20000 in
theorem ggX0_update_X0_optionsOf : GoodIn wsX0_update wsX0_optionsOf := goodIn_r _ [48, 1, 26, 27, 28, 66, 67, 68, 69, 70, 71] (by decide +kernel) (by decide +kernel)
set_option maxRecDepth 20000 in
theorem gX0_update_X0_optionsOf : GoodIn wsX0_update (wsV RX0 63 RX0 yX0_optionsOf wsX0_optionsOf) := goodIn_app (goodIn_of _ (by decide +kernel)) ggX0_update_X0_optionsOf
theorem dX0_update_0 : decode cX0_update 0 = .ok (.aload_n 0, 1) := by decide +kernel
theorem dX0_update_1 : decode cX0_update 1 = .ok (.getfield 9, 3) := by decide +kernel
theorem dX0_update_4 : decode cX0_update 4 = .ok (.iconst 0, 1) := by decide +kernel
theorem dX0_update_5 : decode cX0_update 5 = .ok (.invokestatic 28, 3) := by decide +kernel
theorem dX0_update_8 : decode cX0_update 8 = .ok (.aload_n 0, 1) := by decide +kernel
theorem dX0_update_9 : decode cX0_update 9 = .ok (.getfield 21, 3) := by decide +kernel
theorem dX0_update_12 : decode cX0_update 12 = .ok (.iconst 0, 1) := by decide +kernel
theorem dX0_update_13 : decode cX0_update 13 = .ok (.invokestatic 28, 3) := by decide +kernel
theorem dX0_update_16 : decode cX0_update 16 = .ok (.iconst 0, 1) := by decide +kernel
theorem dX0_update_17 : decode cX0_update 17 = .ok (.istore_n 1, 1) := by decide +kernel
theorem dX0_update_18 : decode cX0_update 18 = .ok (.iload_n 1, 1) := by decide +kernel
theorem dX0_update_19 : decode cX0_update 19 = .ok (.aload_n 0, 1) := by decide +kernel
theorem dX0_update_20 : decode cX0_update 20 = .ok (.getfield 24, 3) := by decide +kernel
theorem dX0_update_23 : decode cX0_update 23 = .ok (.invokevirtual 34, 3) := by decide +kernel
theorem dX0_update_26 : decode cX0_update 26 = .ok (.if_icmp .ge 33, 3) := by decide +kernel
theorem dX0_update_29 : decode cX0_update 29 = .ok (.aload_n 0, 1) := by decide +kernel
theorem dX0_update_30 : decode cX0_update 30 = .ok (.getfield 24, 3) := by decide +kernel
theorem dX0_update_33 : decode cX0_update 33 = .ok (.iload_n 1, 1) := by decide +kernel
theorem dX0_update_34 : decode cX0_update 34 = .ok (.invokevirtual 40, 3) := by decide +kernel
theorem dX0_update_37 : decode cX0_update 37 = .ok (.ifCond .eq 16, 3) := by decide +kernel
theorem dX0_update_40 : decode cX0_update 40 = .ok (.aload_n 0, 1) := by decide +kernel
theorem dX0_update_41 : decode cX0_update 41 = .ok (.aload_n 0, 1) := by decide +kernel
theorem dX0_update_42 : decode cX0_update 42 = .ok (.getfield 24, 3) := by decide +kernel
theorem dX0_update_45 : decode cX0_update 45 = .ok (.iload_n 1, 1) := by decide +kernel
theorem dX0_update_46 : decode cX0_update 46 = .ok (.invokevirtual 44, 3) := by decide +kernel
theorem dX0_update_49 : decode cX0_update 49 = .ok (.iload_n 1, 1) := by decide +kernel
theorem dX0_update_50 : decode cX0_update 50 = .ok (.invokevirtual 48, 3) := by decide +kernel
theorem dX0_update_53 : decode cX0_update 53 = .ok (.iinc 1 1, 3) := by decide +kernel
theorem dX0_update_56 : decode cX0_update 56 = .ok (.goto (-38), 3) := by decide +kernel
theorem dX0_update_59 : decode cX0_update 59 = .ok (.aload_n 0, 1) := by decide +kernel
theorem dX0_update_60 : decode cX0_update 60 = .ok (.iconst 1, 1) := by decide +kernel
theorem dX0_update_61 : decode cX0_update 61 = .ok (.putfield 52, 3) := by decide +kernel
theorem dX0_update_64 : decode cX0_update 64 = .ok (.iconst 0, 1) := by decide +kernel
theorem dX0_update_65 : decode cX0_update 65 = .ok (.istore_n 1, 1) := by decide +kernel
theorem dX0_update_66 : decode cX0_update 66 = .ok (.iload_n 1, 1) := by decide +kernel
theorem dX0_update_67 : decode cX0_update 67 = .ok (.bipush 10, 2) := by decide +kernel
theorem dX0_update_69 : decode cX0_update 69 = .ok (.if_icmp .ge 43, 3) := by decide +kernel
theorem dX0_update_72 : decode cX0_update 72 = .ok (.aload_n 0, 1) := by decide +kernel
theorem dX0_update_73 : decode cX0_update 73 = .ok (.getfield 18, 3) := by decide +kernel
theorem dX0_update_76 : decode cX0_update 76 = .ok (.iload_n 1, 1) := by decide +kernel
theorem dX0_update_77 : decode cX0_update 77 = .ok (.aload_n 0, 1) := by decide +kernel
theorem dX0_update_78 : decode cX0_update 78 = .ok (.getfield 52, 3) := by decide +kernel
theorem dX0_update_81 : decode cX0_update 81 = .ok (.invokestatic 56, 3) := by decide +kernel
theorem dX0_update_84 : decode cX0_update 84 = .ok (.aload_n 0, 1) := by decide +kernel
theorem dX0_update_85 : decode cX0_update 85 = .ok (.iload_n 1, 1) := by decide +kernel
theorem dX0_update_86 : decode cX0_update 86 = .ok (.invokevirtual 60, 3) := by decide +kernel
theorem dX0_update_89 : decode cX0_update 89 = .ok (.ifCond .eq 17, 3) := by decide +kernel
theorem dX0_update_92 : decode cX0_update 92 = .ok (.aload_n 0, 1) := by decide +kernel
theorem dX0_update_93 : decode cX0_update 93 = .ok (.dup, 1) := by decide +kernel
theorem dX0_update_94 : decode cX0_update 94 = .ok (.getfield 52, 3) := by decide +kernel
theorem dX0_update_97 : decode cX0_update 97 = .ok (.aload_n 0, 1) := by decide +kernel
theorem dX0_update_98 : decode cX0_update 98 = .ok (.iload_n 1, 1) := by decide +kernel
theorem dX0_update_99 : decode cX0_update 99 = .ok (.invokevirtual 63, 3) := by decide +kernel
theorem dX0_update_102 : decode cX0_update 102 = .ok (.imul, 1) := by decide +kernel
theorem dX0_update_103 : decode cX0_update 103 = .ok (.putfield 52, 3) := by decide +kernel
theorem dX0_update_106 : decode cX0_update 106 = .ok (.iinc 1 1, 3) := by decide +kernel
theorem dX0_update_109 : decode cX0_update 109 = .ok (.goto (-43), 3) := by decide +kernel
theorem dX0_update_112 : decode cX0_update 112 = .ok (.return_, 1) := by decide +kernel
set_option maxRecDepth 20000 in
theorem ggX0_addOption_X0_optionsOf : GoodIn wsX0_addOption wsX0_optionsOf := goodIn_r _ [8, 2, 9, 10, 11, 27, 28, 29, 30, 31, 32] (by decide +kernel) (by decide +kernel)
set_option maxRecDepth 20000 in
theorem gX0_addOption_X0_optionsOf : GoodIn wsX0_addOption (wsV RX0 63 RX0 yX0_optionsOf wsX0_optionsOf) := goodIn_app (goodIn_of _ (by decide +kernel)) ggX0_addOption_X0_optionsOf
set_option maxRecDepth 20000 in
theorem ggX0_addOption_X5_put : GoodIn wsX0_addOption wsX5_put := goodIn_r _ [13] (by decide +kernel) (by decide +kernel)
set_option maxRecDepth 20000 in
theorem gX0_addOption_X5_put_n56 : GoodIn wsX0_addOption (wsX5_put) := ggX0_addOption_X5_put
set_option maxRecDepth 20000 in
theorem ggX0_addOption_X5_at : GoodIn wsX0_addOption wsX5_at := goodIn_r _ [11] (by decide +kernel) (by decide +kernel)
set_option maxRecDepth 20000 in
theorem gX0_addOption_X5_at_n66 : GoodIn wsX0_addOption (wsX5_at) := ggX0_addOption_X5_at
set_option maxRecDepth 20000 in
theorem ggX0_addOption_X0_targetBit : GoodIn wsX0_addOption wsX0_targetBit := goodIn_r _ [17, 18, 19, 20, 21, 22, 23, 24, 9, 10, 11, 25, 26, 27, 28, 29, 30, 31, 32, 33, 34, 35, 36, 37, 38] (by decide +kernel) (by decide +kernel)
set_option maxRecDepth 20000 in
theorem gX0_addOption_X0_targetBit : GoodIn wsX0_addOption (wsV RX0 70 RX0 yX0_targetBit wsX0_targetBit) := goodIn_app (goodIn_of _ (by decide +kernel)) ggX0_addOption_X0_targetBit
theorem dX0_addOption_0 : decode cX0_addOption 0 = .ok (.aload_n 0, 1) := by decide +kernel
theorem dX0_addOption_1 : decode cX0_addOption 1 = .ok (.iload_n 1, 1) := by decide +kernel
theorem dX0_addOption_2 : decode cX0_addOption 2 = .ok (.invokevirtual 63, 3) := by decide +kernel
theorem dX0_addOption_5 : decode cX0_addOption 5 = .ok (.istore_n 3, 1) := by decide +kernel
theorem dX0_addOption_6 : decode cX0_addOption 6 = .ok (.aload_n 0, 1) := by decide +kernel
theorem dX0_addOption_7 : decode cX0_addOption 7 = .ok (.getfield 15, 3) := by decide +kernel
theorem dX0_addOption_10 : decode cX0_addOption 10 = .ok (.iload_n 1, 1) := by decide +kernel
theorem dX0_addOption_11 : decode cX0_addOption 11 = .ok (.bipush 20, 2) := by decide +kernel
theorem dX0_addOption_13 : decode cX0_addOption 13 = .ok (.imul, 1) := by decide +kernel
theorem dX0_addOption_14 : decode cX0_addOption 14 = .ok (.iload_n 3, 1) := by decide +kernel
theorem dX0_addOption_15 : decode cX0_addOption 15 = .ok (.iadd, 1) := by decide +kernel
theorem dX0_addOption_16 : decode cX0_addOption 16 = .ok (.iload_n 2, 1) := by decide +kernel
theorem dX0_addOption_17 : decode cX0_addOption 17 = .ok (.invokestatic 56, 3) := by decide +kernel
theorem dX0_addOption_20 : decode cX0_addOption 20 = .ok (.aload_n 0, 1) := by decide +kernel
theorem dX0_addOption_21 : decode cX0_addOption 21 = .ok (.getfield 9, 3) := by decide +kernel
theorem dX0_addOption_24 : decode cX0_addOption 24 = .ok (.iload_n 1, 1) := by decide +kernel
theorem dX0_addOption_25 : decode cX0_addOption 25 = .ok (.iload_n 3, 1) := by decide +kernel
theorem dX0_addOption_26 : decode cX0_addOption 26 = .ok (.iconst 1, 1) := by decide +kernel
theorem dX0_addOption_27 : decode cX0_addOption 27 = .ok (.iadd, 1) := by decide +kernel
theorem dX0_addOption_28 : decode cX0_addOption 28 = .ok (.invokestatic 56, 3) := by decide +kernel
theorem dX0_addOption_31 : decode cX0_addOption 31 = .ok (.aload_n 0, 1) := by decide +kernel
theorem dX0_addOption_32 : decode cX0_addOption 32 = .ok (.getfield 21, 3) := by decide +kernel
theorem dX0_addOption_35 : decode cX0_addOption 35 = .ok (.iload_n 1, 1) := by decide +kernel
theorem dX0_addOption_36 : decode cX0_addOption 36 = .ok (.aload_n 0, 1) := by decide +kernel
theorem dX0_addOption_37 : decode cX0_addOption 37 = .ok (.getfield 21, 3) := by decide +kernel
theorem dX0_addOption_40 : decode cX0_addOption 40 = .ok (.iload_n 1, 1) := by decide +kernel
theorem dX0_addOption_41 : decode cX0_addOption 41 = .ok (.invokestatic 66, 3) := by decide +kernel
theorem dX0_addOption_44 : decode cX0_addOption 44 = .ok (.aload_n 0, 1) := by decide +kernel
theorem dX0_addOption_45 : decode cX0_addOption 45 = .ok (.iload_n 2, 1) := by decide +kernel
theorem dX0_addOption_46 : decode cX0_addOption 46 = .ok (.invokevirtual 70, 3) := by decide +kernel
theorem dX0_addOption_49 : decode cX0_addOption 49 = .ok (.ior, 1) := by decide +kernel
theorem dX0_addOption_50 : decode cX0_addOption 50 = .ok (.invokestatic 56, 3) := by decide +kernel
theorem dX0_addOption_53 : decode cX0_addOption 53 = .ok (.return_, 1) := by decide +kernel
set_option maxRecDepth 20000 in
theorem ggX0_targetBit_X3_targetAt : GoodIn wsX0_targetBit wsX3_targetAt := goodIn_r _ [6, 7, 8, 9, 10, 19, 20, 21, 22, 23, 24] (by decide +kernel) (by decide +kernel)
set_option maxRecDepth 20000 in
theorem gX0_targetBit_X3_targetAt : GoodIn wsX0_targetBit (wsV RX0 73 RX3 yX3_targetAt wsX3_targetAt) := goodIn_app (goodIn_of _ (by decide +kernel)) ggX0_targetBit_X3_targetAt
set_option maxRecDepth 20000 in
theorem ggX0_targetBit_X5_isKey : GoodIn wsX0_targetBit wsX5_isKey := goodIn_r _ [12] (by decide +kernel) (by decide +kernel)
set_option maxRecDepth 20000 in
theorem gX0_targetBit_X5_isKey_n76 : GoodIn wsX0_targetBit (wsX5_isKey) := ggX0_targetBit_X5_isKey
theorem dX0_targetBit_0 : decode cX0_targetBit 0 = .ok (.aload_n 0, 1) := by decide +kernel
theorem dX0_targetBit_1 : decode cX0_targetBit 1 = .ok (.getfield 24, 3) := by decide +kernel
theorem dX0_targetBit_4 : decode cX0_targetBit 4 = .ok (.iload_n 1, 1) := by decide +kernel
theorem dX0_targetBit_5 : decode cX0_targetBit 5 = .ok (.invokevirtual 73, 3) := by decide +kernel
theorem dX0_targetBit_8 : decode cX0_targetBit 8 = .ok (.istore_n 2, 1) := by decide +kernel
theorem dX0_targetBit_9 : decode cX0_targetBit 9 = .ok (.iload_n 2, 1) := by decide +kernel
theorem dX0_targetBit_10 : decode cX0_targetBit 10 = .ok (.invokestatic 76, 3) := by decide +kernel
theorem dX0_targetBit_13 : decode cX0_targetBit 13 = .ok (.ifCond .eq 9, 3) := by decide +kernel
theorem dX0_targetBit_16 : decode cX0_targetBit 16 = .ok (.iconst 1, 1) := by decide +kernel
theorem dX0_targetBit_17 : decode cX0_targetBit 17 = .ok (.iload_n 2, 1) := by decide +kernel
theorem dX0_targetBit_18 : decode cX0_targetBit 18 = .ok (.ishl, 1) := by decide +kernel
theorem dX0_targetBit_19 : decode cX0_targetBit 19 = .ok (.goto 6, 3) := by decide +kernel
theorem dX0_targetBit_22 : decode cX0_targetBit 22 = .ok (.sipush 1024, 3) := by decide +kernel
theorem dX0_targetBit_25 : decode cX0_targetBit 25 = .ok (.ireturn, 1) := by decide +kernel
theorem dX0_mendings_0 : decode cX0_mendings 0 = .ok (.aload_n 0, 1) := by decide +kernel
theorem dX0_mendings_1 : decode cX0_mendings 1 = .ok (.getfield 52, 3) := by decide +kernel
theorem dX0_mendings_4 : decode cX0_mendings 4 = .ok (.ireturn, 1) := by decide +kernel
set_option maxRecDepth 20000 in
theorem ggX0_optionsOf_X5_at : GoodIn wsX0_optionsOf wsX5_at := goodIn_r _ [4] (by decide +kernel) (by decide +kernel)
set_option maxRecDepth 20000 in
theorem gX0_optionsOf_X5_at_n66 : GoodIn wsX0_optionsOf (wsX5_at) := ggX0_optionsOf_X5_at
theorem dX0_optionsOf_0 : decode cX0_optionsOf 0 = .ok (.aload_n 0, 1) := by decide +kernel
theorem dX0_optionsOf_1 : decode cX0_optionsOf 1 = .ok (.getfield 9, 3) := by decide +kernel
theorem dX0_optionsOf_4 : decode cX0_optionsOf 4 = .ok (.iload_n 1, 1) := by decide +kernel
theorem dX0_optionsOf_5 : decode cX0_optionsOf 5 = .ok (.invokestatic 66, 3) := by decide +kernel
theorem dX0_optionsOf_8 : decode cX0_optionsOf 8 = .ok (.ireturn, 1) := by decide +kernel
set_option maxRecDepth 20000 in
theorem ggX0_isThere_X0_optionsOf : GoodIn wsX0_isThere wsX0_optionsOf := goodIn_r _ [5, 6, 7, 8, 9, 10, 11, 12, 13, 14, 15] (by decide +kernel) (by decide +kernel)
set_option maxRecDepth 20000 in
theorem gX0_isThere_X0_optionsOf : GoodIn wsX0_isThere (wsV RX0 63 RX0 yX0_optionsOf wsX0_optionsOf) := goodIn_app (goodIn_of _ (by decide +kernel)) ggX0_isThere_X0_optionsOf
theorem dX0_isThere_0 : decode cX0_isThere 0 = .ok (.aload_n 0, 1) := by decide +kernel
theorem dX0_isThere_1 : decode cX0_isThere 1 = .ok (.iload_n 1, 1) := by decide +kernel
theorem dX0_isThere_2 : decode cX0_isThere 2 = .ok (.invokevirtual 63, 3) := by decide +kernel
theorem dX0_isThere_5 : decode cX0_isThere 5 = .ok (.ifCond .le 7, 3) := by decide +kernel
theorem dX0_isThere_8 : decode cX0_isThere 8 = .ok (.iconst 1, 1) := by decide +kernel
theorem dX0_isThere_9 : decode cX0_isThere 9 = .ok (.goto 4, 3) := by decide +kernel
theorem dX0_isThere_12 : decode cX0_isThere 12 = .ok (.iconst 0, 1) := by decide +kernel
theorem dX0_isThere_13 : decode cX0_isThere 13 = .ok (.ireturn, 1) := by decide +kernel
set_option maxRecDepth 20000 in
theorem ggX0_option_X5_at : GoodIn wsX0_option wsX5_at := goodIn_r _ [4] (by decide +kernel) (by decide +kernel)
set_option maxRecDepth 20000 in
theorem gX0_option_X5_at_n66 : GoodIn wsX0_option (wsX5_at) := ggX0_option_X5_at
theorem dX0_option_0 : decode cX0_option 0 = .ok (.aload_n 0, 1) := by decide +kernel
theorem dX0_option_1 : decode cX0_option 1 = .ok (.getfield 15, 3) := by decide +kernel
theorem dX0_option_4 : decode cX0_option 4 = .ok (.iload_n 1, 1) := by decide +kernel
theorem dX0_option_5 : decode cX0_option 5 = .ok (.bipush 20, 2) := by decide +kernel
theorem dX0_option_7 : decode cX0_option 7 = .ok (.imul, 1) := by decide +kernel
theorem dX0_option_8 : decode cX0_option 8 = .ok (.iload_n 2, 1) := by decide +kernel
theorem dX0_option_9 : decode cX0_option 9 = .ok (.iadd, 1) := by decide +kernel
theorem dX0_option_10 : decode cX0_option 10 = .ok (.invokestatic 66, 3) := by decide +kernel
theorem dX0_option_13 : decode cX0_option 13 = .ok (.ireturn, 1) := by decide +kernel
set_option maxRecDepth 20000 in
theorem ggX0_rowKeptBy_X0_optionsOf : GoodIn wsX0_rowKeptBy wsX0_optionsOf := goodIn_r _ [6, 7, 8, 9, 10, 16, 17, 18, 19, 20, 21] (by decide +kernel) (by decide +kernel)
set_option maxRecDepth 20000 in
theorem gX0_rowKeptBy_X0_optionsOf : GoodIn wsX0_rowKeptBy (wsV RX0 63 RX0 yX0_optionsOf wsX0_optionsOf) := goodIn_app (goodIn_of _ (by decide +kernel)) ggX0_rowKeptBy_X0_optionsOf
set_option maxRecDepth 20000 in
theorem ggX0_rowKeptBy_X5_at : GoodIn wsX0_rowKeptBy wsX5_at := goodIn_r _ [10] (by decide +kernel) (by decide +kernel)
set_option maxRecDepth 20000 in
theorem gX0_rowKeptBy_X5_at_n66 : GoodIn wsX0_rowKeptBy (wsX5_at) := ggX0_rowKeptBy_X5_at
set_option maxRecDepth 20000 in
theorem ggX0_rowKeptBy_X0_option : GoodIn wsX0_rowKeptBy wsX0_option := goodIn_r _ [14, 15, 8, 9, 10, 16, 17, 18, 19, 20, 21] (by decide +kernel) (by decide +kernel)
set_option maxRecDepth 20000 in
theorem gX0_rowKeptBy_X0_option : GoodIn wsX0_rowKeptBy (wsV RX0 79 RX0 yX0_option wsX0_option) := goodIn_app (goodIn_of _ (by decide +kernel)) ggX0_rowKeptBy_X0_option
theorem dX0_rowKeptBy_0 : decode cX0_rowKeptBy 0 = .ok (.aload_n 0, 1) := by decide +kernel
theorem dX0_rowKeptBy_1 : decode cX0_rowKeptBy 1 = .ok (.iload_n 2, 1) := by decide +kernel
theorem dX0_rowKeptBy_2 : decode cX0_rowKeptBy 2 = .ok (.invokevirtual 63, 3) := by decide +kernel
theorem dX0_rowKeptBy_5 : decode cX0_rowKeptBy 5 = .ok (.istore_n 3, 1) := by decide +kernel
theorem dX0_rowKeptBy_6 : decode cX0_rowKeptBy 6 = .ok (.aload_n 0, 1) := by decide +kernel
theorem dX0_rowKeptBy_7 : decode cX0_rowKeptBy 7 = .ok (.getfield 18, 3) := by decide +kernel
theorem dX0_rowKeptBy_10 : decode cX0_rowKeptBy 10 = .ok (.iload_n 2, 1) := by decide +kernel
theorem dX0_rowKeptBy_11 : decode cX0_rowKeptBy 11 = .ok (.invokestatic 66, 3) := by decide +kernel
theorem dX0_rowKeptBy_14 : decode cX0_rowKeptBy 14 = .ok (.istore 4, 2) := by decide +kernel
theorem dX0_rowKeptBy_16 : decode cX0_rowKeptBy 16 = .ok (.iload_n 3, 1) := by decide +kernel
theorem dX0_rowKeptBy_17 : decode cX0_rowKeptBy 17 = .ok (.iconst 1, 1) := by decide +kernel
theorem dX0_rowKeptBy_18 : decode cX0_rowKeptBy 18 = .ok (.if_icmp .lt 9, 3) := by decide +kernel
theorem dX0_rowKeptBy_21 : decode cX0_rowKeptBy 21 = .ok (.iload 4, 2) := by decide +kernel
theorem dX0_rowKeptBy_23 : decode cX0_rowKeptBy 23 = .ok (.iconst 1, 1) := by decide +kernel
theorem dX0_rowKeptBy_24 : decode cX0_rowKeptBy 24 = .ok (.if_icmp .ge 6, 3) := by decide +kernel
theorem dX0_rowKeptBy_27 : decode cX0_rowKeptBy 27 = .ok (.bipush (-5), 2) := by decide +kernel
theorem dX0_rowKeptBy_29 : decode cX0_rowKeptBy 29 = .ok (.ireturn, 1) := by decide +kernel
theorem dX0_rowKeptBy_30 : decode cX0_rowKeptBy 30 = .ok (.aload_n 0, 1) := by decide +kernel
theorem dX0_rowKeptBy_31 : decode cX0_rowKeptBy 31 = .ok (.iload_n 2, 1) := by decide +kernel
theorem dX0_rowKeptBy_32 : decode cX0_rowKeptBy 32 = .ok (.iload_n 1, 1) := by decide +kernel
theorem dX0_rowKeptBy_33 : decode cX0_rowKeptBy 33 = .ok (.iload 4, 2) := by decide +kernel
theorem dX0_rowKeptBy_35 : decode cX0_rowKeptBy 35 = .ok (.idiv, 1) := by decide +kernel
theorem dX0_rowKeptBy_36 : decode cX0_rowKeptBy 36 = .ok (.iload_n 3, 1) := by decide +kernel
theorem dX0_rowKeptBy_37 : decode cX0_rowKeptBy 37 = .ok (.irem, 1) := by decide +kernel
theorem dX0_rowKeptBy_38 : decode cX0_rowKeptBy 38 = .ok (.invokevirtual 79, 3) := by decide +kernel
theorem dX0_rowKeptBy_41 : decode cX0_rowKeptBy 41 = .ok (.ireturn, 1) := by decide +kernel
set_option maxRecDepth 20000 in
theorem ggX0_isSureRow_X3_canBeKept : GoodIn wsX0_isSureRow wsX3_canBeKept := goodIn_r _ [6, 7, 8, 9, 10, 5, 11, 12, 13, 14, 15, 16, 17, 18, 19, 20, 21, 22, 23, 24, 25, 39, 40, 41, 42, 43, 44] (by decide +kernel) (by decide +kernel)
set_option maxRecDepth 20000 in
theorem gX0_isSureRow_X3_canBeKept : GoodIn wsX0_isSureRow (wsV RX0 40 RX3 yX3_canBeKept wsX3_canBeKept) := goodIn_app (goodIn_of _ (by decide +kernel)) ggX0_isSureRow_X3_canBeKept
set_option maxRecDepth 20000 in
theorem ggX0_isSureRow_X3_keyAt : GoodIn wsX0_isSureRow wsX3_keyAt := goodIn_r _ [19, 20, 13, 14, 15, 39, 40, 41, 42, 43, 44] (by decide +kernel) (by decide +kernel)
set_option maxRecDepth 20000 in
theorem gX0_isSureRow_X3_keyAt : GoodIn wsX0_isSureRow (wsV RX0 44 RX3 yX3_keyAt wsX3_keyAt) := goodIn_app (goodIn_of _ (by decide +kernel)) ggX0_isSureRow_X3_keyAt
set_option maxRecDepth 20000 in
theorem ggX0_isSureRow_X0_optionsOf : GoodIn wsX0_isSureRow wsX0_optionsOf := goodIn_r _ [31, 32, 13, 14, 15, 33, 34, 35, 36, 37, 38] (by decide +kernel) (by decide +kernel)
set_option maxRecDepth 20000 in
theorem gX0_isSureRow_X0_optionsOf : GoodIn wsX0_isSureRow (wsV RX0 63 RX0 yX0_optionsOf wsX0_optionsOf) := goodIn_app (goodIn_of _ (by decide +kernel)) ggX0_isSureRow_X0_optionsOf
theorem dX0_isSureRow_0 : decode cX0_isSureRow 0 = .ok (.aload_n 0, 1) := by decide +kernel
theorem dX0_isSureRow_1 : decode cX0_isSureRow 1 = .ok (.getfield 24, 3) := by decide +kernel
theorem dX0_isSureRow_4 : decode cX0_isSureRow 4 = .ok (.iload_n 1, 1) := by decide +kernel
theorem dX0_isSureRow_5 : decode cX0_isSureRow 5 = .ok (.invokevirtual 40, 3) := by decide +kernel
theorem dX0_isSureRow_8 : decode cX0_isSureRow 8 = .ok (.ifCond .eq 23, 3) := by decide +kernel
theorem dX0_isSureRow_11 : decode cX0_isSureRow 11 = .ok (.aload_n 0, 1) := by decide +kernel
theorem dX0_isSureRow_12 : decode cX0_isSureRow 12 = .ok (.aload_n 0, 1) := by decide +kernel
theorem dX0_isSureRow_13 : decode cX0_isSureRow 13 = .ok (.getfield 24, 3) := by decide +kernel
theorem dX0_isSureRow_16 : decode cX0_isSureRow 16 = .ok (.iload_n 1, 1) := by decide +kernel
theorem dX0_isSureRow_17 : decode cX0_isSureRow 17 = .ok (.invokevirtual 44, 3) := by decide +kernel
theorem dX0_isSureRow_20 : decode cX0_isSureRow 20 = .ok (.invokevirtual 63, 3) := by decide +kernel
theorem dX0_isSureRow_23 : decode cX0_isSureRow 23 = .ok (.iconst 1, 1) := by decide +kernel
theorem dX0_isSureRow_24 : decode cX0_isSureRow 24 = .ok (.if_icmp .ne 7, 3) := by decide +kernel
theorem dX0_isSureRow_27 : decode cX0_isSureRow 27 = .ok (.iconst 1, 1) := by decide +kernel
theorem dX0_isSureRow_28 : decode cX0_isSureRow 28 = .ok (.goto 4, 3) := by decide +kernel
theorem dX0_isSureRow_31 : decode cX0_isSureRow 31 = .ok (.iconst 0, 1) := by decide +kernel
theorem dX0_isSureRow_32 : decode cX0_isSureRow 32 = .ok (.ireturn, 1) := by decide +kernel
set_option maxRecDepth 20000 in
theorem ggX0_sureRows_X3_size : GoodIn wsX0_sureRows wsX3_size := goodIn_r _ [6, 7, 47, 48, 49, 50, 51, 52] (by decide +kernel) (by decide +kernel)
set_option maxRecDepth 20000 in
theorem gX0_sureRows_X3_size : GoodIn wsX0_sureRows (wsV RX0 34 RX3 yX3_size wsX3_size) := goodIn_app (goodIn_of _ (by decide +kernel)) ggX0_sureRows_X3_size
set_option maxRecDepth 20000 in
theorem ggX0_sureRows_X0_isSureRow : GoodIn wsX0_sureRows wsX0_isSureRow := goodIn_r _ [12, 1, 13, 14, 15, 5, 16, 17, 18, 19, 20, 21, 22, 23, 24, 25, 26, 27, 28, 29, 30, 31, 32, 33, 34, 7, 35, 36, 37, 38, 11, 39, 40, 41, 42, 43, 44, 45, 46, 47, 48, 49, 50, 51, 52] (by decide +kernel) (by decide +kernel)
set_option maxRecDepth 20000 in
theorem gX0_sureRows_X0_isSureRow : GoodIn wsX0_sureRows (wsV RX0 83 RX0 yX0_isSureRow wsX0_isSureRow) := goodIn_app (goodIn_of _ (by decide +kernel)) ggX0_sureRows_X0_isSureRow
theorem dX0_sureRows_0 : decode cX0_sureRows 0 = .ok (.iconst 0, 1) := by decide +kernel
theorem dX0_sureRows_1 : decode cX0_sureRows 1 = .ok (.istore_n 1, 1) := by decide +kernel
theorem dX0_sureRows_2 : decode cX0_sureRows 2 = .ok (.iconst 0, 1) := by decide +kernel
theorem dX0_sureRows_3 : decode cX0_sureRows 3 = .ok (.istore_n 2, 1) := by decide +kernel
theorem dX0_sureRows_4 : decode cX0_sureRows 4 = .ok (.iload_n 2, 1) := by decide +kernel
theorem dX0_sureRows_5 : decode cX0_sureRows 5 = .ok (.aload_n 0, 1) := by decide +kernel
theorem dX0_sureRows_6 : decode cX0_sureRows 6 = .ok (.getfield 24, 3) := by decide +kernel
theorem dX0_sureRows_9 : decode cX0_sureRows 9 = .ok (.invokevirtual 34, 3) := by decide +kernel
theorem dX0_sureRows_12 : decode cX0_sureRows 12 = .ok (.if_icmp .ge 20, 3) := by decide +kernel
theorem dX0_sureRows_15 : decode cX0_sureRows 15 = .ok (.aload_n 0, 1) := by decide +kernel
theorem dX0_sureRows_16 : decode cX0_sureRows 16 = .ok (.iload_n 2, 1) := by decide +kernel
theorem dX0_sureRows_17 : decode cX0_sureRows 17 = .ok (.invokevirtual 83, 3) := by decide +kernel
theorem dX0_sureRows_20 : decode cX0_sureRows 20 = .ok (.ifCond .eq 6, 3) := by decide +kernel
theorem dX0_sureRows_23 : decode cX0_sureRows 23 = .ok (.iinc 1 1, 3) := by decide +kernel
theorem dX0_sureRows_26 : decode cX0_sureRows 26 = .ok (.iinc 2 1, 3) := by decide +kernel
theorem dX0_sureRows_29 : decode cX0_sureRows 29 = .ok (.goto (-25), 3) := by decide +kernel
theorem dX0_sureRows_32 : decode cX0_sureRows 32 = .ok (.iload_n 1, 1) := by decide +kernel
theorem dX0_sureRows_33 : decode cX0_sureRows 33 = .ok (.ireturn, 1) := by decide +kernel
set_option maxRecDepth 20000 in
theorem ggX0_optionsWith_X0_optionsOf : GoodIn wsX0_optionsWith wsX0_optionsOf := goodIn_r _ [6, 7, 8, 9, 10, 22, 23, 24, 25, 26, 27] (by decide +kernel) (by decide +kernel)
set_option maxRecDepth 20000 in
theorem gX0_optionsWith_X0_optionsOf : GoodIn wsX0_optionsWith (wsV RX0 63 RX0 yX0_optionsOf wsX0_optionsOf) := goodIn_app (goodIn_of _ (by decide +kernel)) ggX0_optionsWith_X0_optionsOf
set_option maxRecDepth 20000 in
theorem ggX0_optionsWith_X0_option : GoodIn wsX0_optionsWith wsX0_option := goodIn_r _ [14, 15, 8, 9, 10, 22, 23, 24, 25, 26, 27] (by decide +kernel) (by decide +kernel)
set_option maxRecDepth 20000 in
theorem gX0_optionsWith_X0_option : GoodIn wsX0_optionsWith (wsV RX0 79 RX0 yX0_option wsX0_option) := goodIn_app (goodIn_of _ (by decide +kernel)) ggX0_optionsWith_X0_option
set_option maxRecDepth 20000 in
theorem ggX0_optionsWith_X3_valueAt : GoodIn wsX0_optionsWith wsX3_valueAt := goodIn_r _ [20, 21, 8, 9, 10, 28, 29, 30, 31, 32, 33] (by decide +kernel) (by decide +kernel)
set_option maxRecDepth 20000 in
theorem gX0_optionsWith_X3_valueAt : GoodIn wsX0_optionsWith (wsV RX0 86 RX3 yX3_valueAt wsX3_valueAt) := goodIn_app (goodIn_of _ (by decide +kernel)) ggX0_optionsWith_X3_valueAt
theorem dX0_optionsWith_0 : decode cX0_optionsWith 0 = .ok (.iconst 0, 1) := by decide +kernel
theorem dX0_optionsWith_1 : decode cX0_optionsWith 1 = .ok (.istore_n 3, 1) := by decide +kernel
theorem dX0_optionsWith_2 : decode cX0_optionsWith 2 = .ok (.iconst 0, 1) := by decide +kernel
theorem dX0_optionsWith_3 : decode cX0_optionsWith 3 = .ok (.istore 4, 2) := by decide +kernel
theorem dX0_optionsWith_5 : decode cX0_optionsWith 5 = .ok (.iload 4, 2) := by decide +kernel
theorem dX0_optionsWith_7 : decode cX0_optionsWith 7 = .ok (.aload_n 0, 1) := by decide +kernel
theorem dX0_optionsWith_8 : decode cX0_optionsWith 8 = .ok (.iload_n 1, 1) := by decide +kernel
theorem dX0_optionsWith_9 : decode cX0_optionsWith 9 = .ok (.invokevirtual 63, 3) := by decide +kernel
theorem dX0_optionsWith_12 : decode cX0_optionsWith 12 = .ok (.if_icmp .ge 30, 3) := by decide +kernel
theorem dX0_optionsWith_15 : decode cX0_optionsWith 15 = .ok (.aload_n 0, 1) := by decide +kernel
theorem dX0_optionsWith_16 : decode cX0_optionsWith 16 = .ok (.getfield 24, 3) := by decide +kernel
theorem dX0_optionsWith_19 : decode cX0_optionsWith 19 = .ok (.aload_n 0, 1) := by decide +kernel
theorem dX0_optionsWith_20 : decode cX0_optionsWith 20 = .ok (.iload_n 1, 1) := by decide +kernel
theorem dX0_optionsWith_21 : decode cX0_optionsWith 21 = .ok (.iload 4, 2) := by decide +kernel
theorem dX0_optionsWith_23 : decode cX0_optionsWith 23 = .ok (.invokevirtual 79, 3) := by decide +kernel
theorem dX0_optionsWith_26 : decode cX0_optionsWith 26 = .ok (.invokevirtual 86, 3) := by decide +kernel
theorem dX0_optionsWith_29 : decode cX0_optionsWith 29 = .ok (.iload_n 2, 1) := by decide +kernel
theorem dX0_optionsWith_30 : decode cX0_optionsWith 30 = .ok (.if_icmp .ne 6, 3) := by decide +kernel
theorem dX0_optionsWith_33 : decode cX0_optionsWith 33 = .ok (.iinc 3 1, 3) := by decide +kernel
theorem dX0_optionsWith_36 : decode cX0_optionsWith 36 = .ok (.iinc 4 1, 3) := by decide +kernel
theorem dX0_optionsWith_39 : decode cX0_optionsWith 39 = .ok (.goto (-34), 3) := by decide +kernel
theorem dX0_optionsWith_42 : decode cX0_optionsWith 42 = .ok (.iload_n 3, 1) := by decide +kernel
theorem dX0_optionsWith_43 : decode cX0_optionsWith 43 = .ok (.ireturn, 1) := by decide +kernel
set_option maxRecDepth 20000 in
theorem ggX0_fewestKeptWith_X0_isThere : GoodIn wsX0_fewestKeptWith wsX0_isThere := goodIn_r _ [5, 6, 7, 8, 4, 9, 10, 11, 12, 13, 30, 31, 32, 33, 34, 35] (by decide +kernel) (by decide +kernel)
set_option maxRecDepth 20000 in
theorem gX0_fewestKeptWith_X0_isThere : GoodIn wsX0_fewestKeptWith (wsV RX0 60 RX0 yX0_isThere wsX0_isThere) := goodIn_app (goodIn_of _ (by decide +kernel)) ggX0_fewestKeptWith_X0_isThere
set_option maxRecDepth 20000 in
theorem ggX0_fewestKeptWith_X0_optionsWith : GoodIn wsX0_fewestKeptWith wsX0_optionsWith := goodIn_r _ [17, 18, 6, 7, 8, 4, 9, 10, 11, 12, 13, 19, 20, 21, 22, 23, 24, 25, 26, 27, 28, 29, 30, 31, 32, 33, 34, 35, 36, 37, 38, 39, 40, 41] (by decide +kernel) (by decide +kernel)
set_option maxRecDepth 20000 in
theorem gX0_fewestKeptWith_X0_optionsWith : GoodIn wsX0_fewestKeptWith (wsV RX0 89 RX0 yX0_optionsWith wsX0_optionsWith) := goodIn_app (goodIn_of _ (by decide +kernel)) ggX0_fewestKeptWith_X0_optionsWith
set_option maxRecDepth 20000 in
theorem ggX0_fewestKeptWith_X0_optionsOf : GoodIn wsX0_fewestKeptWith wsX0_optionsOf := goodIn_r _ [9, 10, 11, 12, 13, 30, 31, 32, 33, 34, 35] (by decide +kernel) (by decide +kernel)
set_option maxRecDepth 20000 in
theorem gX0_fewestKeptWith_X0_optionsOf : GoodIn wsX0_fewestKeptWith (wsV RX0 63 RX0 yX0_optionsOf wsX0_optionsOf) := goodIn_app (goodIn_of _ (by decide +kernel)) ggX0_fewestKeptWith_X0_optionsOf
theorem dX0_fewestKeptWith_0 : decode cX0_fewestKeptWith 0 = .ok (.iconst 0, 1) := by decide +kernel
theorem dX0_fewestKeptWith_1 : decode cX0_fewestKeptWith 1 = .ok (.istore_n 2, 1) := by decide +kernel
theorem dX0_fewestKeptWith_2 : decode cX0_fewestKeptWith 2 = .ok (.iconst 0, 1) := by decide +kernel
theorem dX0_fewestKeptWith_3 : decode cX0_fewestKeptWith 3 = .ok (.istore_n 3, 1) := by decide +kernel
theorem dX0_fewestKeptWith_4 : decode cX0_fewestKeptWith 4 = .ok (.iload_n 3, 1) := by decide +kernel
theorem dX0_fewestKeptWith_5 : decode cX0_fewestKeptWith 5 = .ok (.bipush 10, 2) := by decide +kernel
theorem dX0_fewestKeptWith_7 : decode cX0_fewestKeptWith 7 = .ok (.if_icmp .ge 34, 3) := by decide +kernel
theorem dX0_fewestKeptWith_10 : decode cX0_fewestKeptWith 10 = .ok (.aload_n 0, 1) := by decide +kernel
theorem dX0_fewestKeptWith_11 : decode cX0_fewestKeptWith 11 = .ok (.iload_n 3, 1) := by decide +kernel
theorem dX0_fewestKeptWith_12 : decode cX0_fewestKeptWith 12 = .ok (.invokevirtual 60, 3) := by decide +kernel
theorem dX0_fewestKeptWith_15 : decode cX0_fewestKeptWith 15 = .ok (.ifCond .eq 20, 3) := by decide +kernel
theorem dX0_fewestKeptWith_18 : decode cX0_fewestKeptWith 18 = .ok (.aload_n 0, 1) := by decide +kernel
theorem dX0_fewestKeptWith_19 : decode cX0_fewestKeptWith 19 = .ok (.iload_n 3, 1) := by decide +kernel
theorem dX0_fewestKeptWith_20 : decode cX0_fewestKeptWith 20 = .ok (.iload_n 1, 1) := by decide +kernel
theorem dX0_fewestKeptWith_21 : decode cX0_fewestKeptWith 21 = .ok (.invokevirtual 89, 3) := by decide +kernel
theorem dX0_fewestKeptWith_24 : decode cX0_fewestKeptWith 24 = .ok (.aload_n 0, 1) := by decide +kernel
theorem dX0_fewestKeptWith_25 : decode cX0_fewestKeptWith 25 = .ok (.iload_n 3, 1) := by decide +kernel
theorem dX0_fewestKeptWith_26 : decode cX0_fewestKeptWith 26 = .ok (.invokevirtual 63, 3) := by decide +kernel
theorem dX0_fewestKeptWith_29 : decode cX0_fewestKeptWith 29 = .ok (.if_icmp .ne 6, 3) := by decide +kernel
theorem dX0_fewestKeptWith_32 : decode cX0_fewestKeptWith 32 = .ok (.iinc 2 1, 3) := by decide +kernel
theorem dX0_fewestKeptWith_35 : decode cX0_fewestKeptWith 35 = .ok (.iinc 3 1, 3) := by decide +kernel
theorem dX0_fewestKeptWith_38 : decode cX0_fewestKeptWith 38 = .ok (.goto (-34), 3) := by decide +kernel
theorem dX0_fewestKeptWith_41 : decode cX0_fewestKeptWith 41 = .ok (.iload_n 2, 1) := by decide +kernel
theorem dX0_fewestKeptWith_42 : decode cX0_fewestKeptWith 42 = .ok (.ireturn, 1) := by decide +kernel
set_option maxRecDepth 20000 in
theorem ggX0_mostKeptWith_X0_optionsWith : GoodIn wsX0_mostKeptWith wsX0_optionsWith := goodIn_r _ [5, 6, 7, 8, 9, 4, 10, 11, 12, 13, 14, 15, 16, 17, 18, 19, 20, 21, 22, 23, 24, 25, 26, 27, 28, 29, 30, 31, 32, 33, 34, 35, 36, 37] (by decide +kernel) (by decide +kernel)
set_option maxRecDepth 20000 in
theorem gX0_mostKeptWith_X0_optionsWith : GoodIn wsX0_mostKeptWith (wsV RX0 89 RX0 yX0_optionsWith wsX0_optionsWith) := goodIn_app (goodIn_of _ (by decide +kernel)) ggX0_mostKeptWith_X0_optionsWith
theorem dX0_mostKeptWith_0 : decode cX0_mostKeptWith 0 = .ok (.iconst 0, 1) := by decide +kernel
theorem dX0_mostKeptWith_1 : decode cX0_mostKeptWith 1 = .ok (.istore_n 2, 1) := by decide +kernel
theorem dX0_mostKeptWith_2 : decode cX0_mostKeptWith 2 = .ok (.iconst 0, 1) := by decide +kernel
theorem dX0_mostKeptWith_3 : decode cX0_mostKeptWith 3 = .ok (.istore_n 3, 1) := by decide +kernel
theorem dX0_mostKeptWith_4 : decode cX0_mostKeptWith 4 = .ok (.iload_n 3, 1) := by decide +kernel
theorem dX0_mostKeptWith_5 : decode cX0_mostKeptWith 5 = .ok (.bipush 10, 2) := by decide +kernel
theorem dX0_mostKeptWith_7 : decode cX0_mostKeptWith 7 = .ok (.if_icmp .ge 21, 3) := by decide +kernel
theorem dX0_mostKeptWith_10 : decode cX0_mostKeptWith 10 = .ok (.aload_n 0, 1) := by decide +kernel
theorem dX0_mostKeptWith_11 : decode cX0_mostKeptWith 11 = .ok (.iload_n 3, 1) := by decide +kernel
theorem dX0_mostKeptWith_12 : decode cX0_mostKeptWith 12 = .ok (.iload_n 1, 1) := by decide +kernel
theorem dX0_mostKeptWith_13 : decode cX0_mostKeptWith 13 = .ok (.invokevirtual 89, 3) := by decide +kernel
theorem dX0_mostKeptWith_16 : decode cX0_mostKeptWith 16 = .ok (.ifCond .le 6, 3) := by decide +kernel
theorem dX0_mostKeptWith_19 : decode cX0_mostKeptWith 19 = .ok (.iinc 2 1, 3) := by decide +kernel
theorem dX0_mostKeptWith_22 : decode cX0_mostKeptWith 22 = .ok (.iinc 3 1, 3) := by decide +kernel
theorem dX0_mostKeptWith_25 : decode cX0_mostKeptWith 25 = .ok (.goto (-21), 3) := by decide +kernel
theorem dX0_mostKeptWith_28 : decode cX0_mostKeptWith 28 = .ok (.iload_n 2, 1) := by decide +kernel
theorem dX0_mostKeptWith_29 : decode cX0_mostKeptWith 29 = .ok (.ireturn, 1) := by decide +kernel
set_option maxRecDepth 20000 in
theorem ggX0_mendingsWithout_X0_isThere : GoodIn wsX0_mendingsWithout wsX0_isThere := goodIn_r _ [5, 6, 7, 8, 4, 9, 10, 11, 12, 13, 30, 31, 32, 33, 34, 35] (by decide +kernel) (by decide +kernel)
set_option maxRecDepth 20000 in
theorem gX0_mendingsWithout_X0_isThere : GoodIn wsX0_mendingsWithout (wsV RX0 60 RX0 yX0_isThere wsX0_isThere) := goodIn_app (goodIn_of _ (by decide +kernel)) ggX0_mendingsWithout_X0_isThere
set_option maxRecDepth 20000 in
theorem ggX0_mendingsWithout_X0_optionsOf : GoodIn wsX0_mendingsWithout wsX0_optionsOf := goodIn_r _ [9, 10, 11, 12, 13, 30, 31, 32, 33, 34, 35] (by decide +kernel) (by decide +kernel)
set_option maxRecDepth 20000 in
theorem gX0_mendingsWithout_X0_optionsOf : GoodIn wsX0_mendingsWithout (wsV RX0 63 RX0 yX0_optionsOf wsX0_optionsOf) := goodIn_app (goodIn_of _ (by decide +kernel)) ggX0_mendingsWithout_X0_optionsOf
set_option maxRecDepth 20000 in
theorem ggX0_mendingsWithout_X0_optionsWith : GoodIn wsX0_mendingsWithout wsX0_optionsWith := goodIn_r _ [17, 18, 6, 7, 8, 4, 9, 10, 11, 12, 13, 19, 20, 21, 22, 23, 24, 25, 26, 27, 28, 29, 30, 31, 32, 33, 34, 35, 36, 37, 38, 39, 40, 41] (by decide +kernel) (by decide +kernel)
set_option maxRecDepth 20000 in
theorem gX0_mendingsWithout_X0_optionsWith : GoodIn wsX0_mendingsWithout (wsV RX0 89 RX0 yX0_optionsWith wsX0_optionsWith) := goodIn_app (goodIn_of _ (by decide +kernel)) ggX0_mendingsWithout_X0_optionsWith
theorem dX0_mendingsWithout_0 : decode cX0_mendingsWithout 0 = .ok (.iconst 1, 1) := by decide +kernel
theorem dX0_mendingsWithout_1 : decode cX0_mendingsWithout 1 = .ok (.istore_n 2, 1) := by decide +kernel
theorem dX0_mendingsWithout_2 : decode cX0_mendingsWithout 2 = .ok (.iconst 0, 1) := by decide +kernel
theorem dX0_mendingsWithout_3 : decode cX0_mendingsWithout 3 = .ok (.istore_n 3, 1) := by decide +kernel
theorem dX0_mendingsWithout_4 : decode cX0_mendingsWithout 4 = .ok (.iload_n 3, 1) := by decide +kernel
theorem dX0_mendingsWithout_5 : decode cX0_mendingsWithout 5 = .ok (.bipush 10, 2) := by decide +kernel
theorem dX0_mendingsWithout_7 : decode cX0_mendingsWithout 7 = .ok (.if_icmp .ge 32, 3) := by decide +kernel
theorem dX0_mendingsWithout_10 : decode cX0_mendingsWithout 10 = .ok (.aload_n 0, 1) := by decide +kernel
theorem dX0_mendingsWithout_11 : decode cX0_mendingsWithout 11 = .ok (.iload_n 3, 1) := by decide +kernel
theorem dX0_mendingsWithout_12 : decode cX0_mendingsWithout 12 = .ok (.invokevirtual 60, 3) := by decide +kernel
theorem dX0_mendingsWithout_15 : decode cX0_mendingsWithout 15 = .ok (.ifCond .eq 18, 3) := by decide +kernel
theorem dX0_mendingsWithout_18 : decode cX0_mendingsWithout 18 = .ok (.iload_n 2, 1) := by decide +kernel
theorem dX0_mendingsWithout_19 : decode cX0_mendingsWithout 19 = .ok (.aload_n 0, 1) := by decide +kernel
theorem dX0_mendingsWithout_20 : decode cX0_mendingsWithout 20 = .ok (.iload_n 3, 1) := by decide +kernel
theorem dX0_mendingsWithout_21 : decode cX0_mendingsWithout 21 = .ok (.invokevirtual 63, 3) := by decide +kernel
theorem dX0_mendingsWithout_24 : decode cX0_mendingsWithout 24 = .ok (.aload_n 0, 1) := by decide +kernel
theorem dX0_mendingsWithout_25 : decode cX0_mendingsWithout 25 = .ok (.iload_n 3, 1) := by decide +kernel
theorem dX0_mendingsWithout_26 : decode cX0_mendingsWithout 26 = .ok (.iload_n 1, 1) := by decide +kernel
theorem dX0_mendingsWithout_27 : decode cX0_mendingsWithout 27 = .ok (.invokevirtual 89, 3) := by decide +kernel
theorem dX0_mendingsWithout_30 : decode cX0_mendingsWithout 30 = .ok (.isub, 1) := by decide +kernel
theorem dX0_mendingsWithout_31 : decode cX0_mendingsWithout 31 = .ok (.imul, 1) := by decide +kernel
theorem dX0_mendingsWithout_32 : decode cX0_mendingsWithout 32 = .ok (.istore_n 2, 1) := by decide +kernel
theorem dX0_mendingsWithout_33 : decode cX0_mendingsWithout 33 = .ok (.iinc 3 1, 3) := by decide +kernel
theorem dX0_mendingsWithout_36 : decode cX0_mendingsWithout 36 = .ok (.goto (-32), 3) := by decide +kernel
theorem dX0_mendingsWithout_39 : decode cX0_mendingsWithout 39 = .ok (.iload_n 2, 1) := by decide +kernel
theorem dX0_mendingsWithout_40 : decode cX0_mendingsWithout 40 = .ok (.ireturn, 1) := by decide +kernel
set_option maxRecDepth 20000 in
theorem ggX0_sureValues_X0_fewestKeptWith : GoodIn wsX0_sureValues wsX0_fewestKeptWith := goodIn_r _ [5, 6, 7, 8, 4, 9, 10, 11, 12, 13, 14, 15, 16, 17, 18, 19, 20, 21, 22, 23, 24, 25, 26, 27, 28, 29, 30, 31, 32, 33, 34, 35, 36, 37, 38, 39, 40, 41, 42, 43, 44, 45] (by decide +kernel) (by decide +kernel)
set_option maxRecDepth 20000 in
theorem gX0_sureValues_X0_fewestKeptWith : GoodIn wsX0_sureValues (wsV RX0 92 RX0 yX0_fewestKeptWith wsX0_fewestKeptWith) := goodIn_app (goodIn_of _ (by decide +kernel)) ggX0_sureValues_X0_fewestKeptWith
theorem dX0_sureValues_0 : decode cX0_sureValues 0 = .ok (.iconst 0, 1) := by decide +kernel
theorem dX0_sureValues_1 : decode cX0_sureValues 1 = .ok (.istore_n 1, 1) := by decide +kernel
theorem dX0_sureValues_2 : decode cX0_sureValues 2 = .ok (.bipush 97, 2) := by decide +kernel
theorem dX0_sureValues_4 : decode cX0_sureValues 4 = .ok (.istore_n 2, 1) := by decide +kernel
theorem dX0_sureValues_5 : decode cX0_sureValues 5 = .ok (.iload_n 2, 1) := by decide +kernel
theorem dX0_sureValues_6 : decode cX0_sureValues 6 = .ok (.bipush 104, 2) := by decide +kernel
theorem dX0_sureValues_8 : decode cX0_sureValues 8 = .ok (.if_icmp .gt 20, 3) := by decide +kernel
theorem dX0_sureValues_11 : decode cX0_sureValues 11 = .ok (.aload_n 0, 1) := by decide +kernel
theorem dX0_sureValues_12 : decode cX0_sureValues 12 = .ok (.iload_n 2, 1) := by decide +kernel
theorem dX0_sureValues_13 : decode cX0_sureValues 13 = .ok (.invokevirtual 92, 3) := by decide +kernel
theorem dX0_sureValues_16 : decode cX0_sureValues 16 = .ok (.ifCond .le 6, 3) := by decide +kernel
theorem dX0_sureValues_19 : decode cX0_sureValues 19 = .ok (.iinc 1 1, 3) := by decide +kernel
theorem dX0_sureValues_22 : decode cX0_sureValues 22 = .ok (.iinc 2 1, 3) := by decide +kernel
theorem dX0_sureValues_25 : decode cX0_sureValues 25 = .ok (.goto (-20), 3) := by decide +kernel
theorem dX0_sureValues_28 : decode cX0_sureValues 28 = .ok (.iload_n 1, 1) := by decide +kernel
theorem dX0_sureValues_29 : decode cX0_sureValues 29 = .ok (.ireturn, 1) := by decide +kernel
set_option maxRecDepth 20000 in
theorem ggX0_possibleValues_X0_mostKeptWith : GoodIn wsX0_possibleValues wsX0_mostKeptWith := goodIn_r _ [5, 6, 7, 8, 4, 9, 10, 11, 12, 13, 14, 15, 16, 17, 18, 19, 20, 21, 22, 23, 24, 25, 26, 27, 28, 29, 30, 31, 32, 33, 34, 35, 36, 37, 38, 39, 40, 41] (by decide +kernel) (by decide +kernel)
set_option maxRecDepth 20000 in
theorem gX0_possibleValues_X0_mostKeptWith : GoodIn wsX0_possibleValues (wsV RX0 95 RX0 yX0_mostKeptWith wsX0_mostKeptWith) := goodIn_app (goodIn_of _ (by decide +kernel)) ggX0_possibleValues_X0_mostKeptWith
theorem dX0_possibleValues_0 : decode cX0_possibleValues 0 = .ok (.iconst 0, 1) := by decide +kernel
theorem dX0_possibleValues_1 : decode cX0_possibleValues 1 = .ok (.istore_n 1, 1) := by decide +kernel
theorem dX0_possibleValues_2 : decode cX0_possibleValues 2 = .ok (.bipush 97, 2) := by decide +kernel
theorem dX0_possibleValues_4 : decode cX0_possibleValues 4 = .ok (.istore_n 2, 1) := by decide +kernel
theorem dX0_possibleValues_5 : decode cX0_possibleValues 5 = .ok (.iload_n 2, 1) := by decide +kernel
theorem dX0_possibleValues_6 : decode cX0_possibleValues 6 = .ok (.bipush 104, 2) := by decide +kernel
theorem dX0_possibleValues_8 : decode cX0_possibleValues 8 = .ok (.if_icmp .gt 20, 3) := by decide +kernel
theorem dX0_possibleValues_11 : decode cX0_possibleValues 11 = .ok (.aload_n 0, 1) := by decide +kernel
theorem dX0_possibleValues_12 : decode cX0_possibleValues 12 = .ok (.iload_n 2, 1) := by decide +kernel
theorem dX0_possibleValues_13 : decode cX0_possibleValues 13 = .ok (.invokevirtual 95, 3) := by decide +kernel
theorem dX0_possibleValues_16 : decode cX0_possibleValues 16 = .ok (.ifCond .le 6, 3) := by decide +kernel
theorem dX0_possibleValues_19 : decode cX0_possibleValues 19 = .ok (.iinc 1 1, 3) := by decide +kernel
theorem dX0_possibleValues_22 : decode cX0_possibleValues 22 = .ok (.iinc 2 1, 3) := by decide +kernel
theorem dX0_possibleValues_25 : decode cX0_possibleValues 25 = .ok (.goto (-20), 3) := by decide +kernel
theorem dX0_possibleValues_28 : decode cX0_possibleValues 28 = .ok (.iload_n 1, 1) := by decide +kernel
theorem dX0_possibleValues_29 : decode cX0_possibleValues 29 = .ok (.ireturn, 1) := by decide +kernel
set_option maxRecDepth 20000 in
theorem ggX0_sumKeptBy_X0_isThere : GoodIn wsX0_sumKeptBy wsX0_isThere := goodIn_r _ [6, 7, 8, 9, 5, 10, 11, 12, 13, 14, 31, 32, 33, 34, 35, 36] (by decide +kernel) (by decide +kernel)
set_option maxRecDepth 20000 in
theorem gX0_sumKeptBy_X0_isThere : GoodIn wsX0_sumKeptBy (wsV RX0 60 RX0 yX0_isThere wsX0_isThere) := goodIn_app (goodIn_of _ (by decide +kernel)) ggX0_sumKeptBy_X0_isThere
set_option maxRecDepth 20000 in
theorem ggX0_sumKeptBy_X0_rowKeptBy : GoodIn wsX0_sumKeptBy wsX0_rowKeptBy := goodIn_r _ [18, 19, 7, 8, 9, 5, 10, 11, 12, 13, 14, 20, 21, 22, 23, 24, 31, 32, 33, 34, 35, 36] (by decide +kernel) (by decide +kernel)
set_option maxRecDepth 20000 in
theorem gX0_sumKeptBy_X0_rowKeptBy : GoodIn wsX0_sumKeptBy (wsV RX0 98 RX0 yX0_rowKeptBy wsX0_rowKeptBy) := goodIn_app (goodIn_of _ (by decide +kernel)) ggX0_sumKeptBy_X0_rowKeptBy
set_option maxRecDepth 20000 in
theorem ggX0_sumKeptBy_X3_weightAt : GoodIn wsX0_sumKeptBy wsX3_weightAt := goodIn_r _ [29, 30, 12, 13, 14, 37, 38, 39, 40, 41, 42] (by decide +kernel) (by decide +kernel)
set_option maxRecDepth 20000 in
theorem gX0_sumKeptBy_X3_weightAt : GoodIn wsX0_sumKeptBy (wsV RX0 101 RX3 yX3_weightAt wsX3_weightAt) := goodIn_app (goodIn_of _ (by decide +kernel)) ggX0_sumKeptBy_X3_weightAt
theorem dX0_sumKeptBy_0 : decode cX0_sumKeptBy 0 = .ok (.iconst 0, 1) := by decide +kernel
theorem dX0_sumKeptBy_1 : decode cX0_sumKeptBy 1 = .ok (.istore_n 2, 1) := by decide +kernel
theorem dX0_sumKeptBy_2 : decode cX0_sumKeptBy 2 = .ok (.iconst 0, 1) := by decide +kernel
theorem dX0_sumKeptBy_3 : decode cX0_sumKeptBy 3 = .ok (.istore_n 3, 1) := by decide +kernel
theorem dX0_sumKeptBy_4 : decode cX0_sumKeptBy 4 = .ok (.iload_n 3, 1) := by decide +kernel
theorem dX0_sumKeptBy_5 : decode cX0_sumKeptBy 5 = .ok (.bipush 10, 2) := by decide +kernel
theorem dX0_sumKeptBy_7 : decode cX0_sumKeptBy 7 = .ok (.if_icmp .ge 33, 3) := by decide +kernel
theorem dX0_sumKeptBy_10 : decode cX0_sumKeptBy 10 = .ok (.aload_n 0, 1) := by decide +kernel
theorem dX0_sumKeptBy_11 : decode cX0_sumKeptBy 11 = .ok (.iload_n 3, 1) := by decide +kernel
theorem dX0_sumKeptBy_12 : decode cX0_sumKeptBy 12 = .ok (.invokevirtual 60, 3) := by decide +kernel
theorem dX0_sumKeptBy_15 : decode cX0_sumKeptBy 15 = .ok (.ifCond .eq 19, 3) := by decide +kernel
theorem dX0_sumKeptBy_18 : decode cX0_sumKeptBy 18 = .ok (.iload_n 2, 1) := by decide +kernel
theorem dX0_sumKeptBy_19 : decode cX0_sumKeptBy 19 = .ok (.aload_n 0, 1) := by decide +kernel
theorem dX0_sumKeptBy_20 : decode cX0_sumKeptBy 20 = .ok (.getfield 24, 3) := by decide +kernel
theorem dX0_sumKeptBy_23 : decode cX0_sumKeptBy 23 = .ok (.aload_n 0, 1) := by decide +kernel
theorem dX0_sumKeptBy_24 : decode cX0_sumKeptBy 24 = .ok (.iload_n 1, 1) := by decide +kernel
theorem dX0_sumKeptBy_25 : decode cX0_sumKeptBy 25 = .ok (.iload_n 3, 1) := by decide +kernel
theorem dX0_sumKeptBy_26 : decode cX0_sumKeptBy 26 = .ok (.invokevirtual 98, 3) := by decide +kernel
theorem dX0_sumKeptBy_29 : decode cX0_sumKeptBy 29 = .ok (.invokevirtual 101, 3) := by decide +kernel
theorem dX0_sumKeptBy_32 : decode cX0_sumKeptBy 32 = .ok (.iadd, 1) := by decide +kernel
theorem dX0_sumKeptBy_33 : decode cX0_sumKeptBy 33 = .ok (.istore_n 2, 1) := by decide +kernel
theorem dX0_sumKeptBy_34 : decode cX0_sumKeptBy 34 = .ok (.iinc 3 1, 3) := by decide +kernel
theorem dX0_sumKeptBy_37 : decode cX0_sumKeptBy 37 = .ok (.goto (-33), 3) := by decide +kernel
theorem dX0_sumKeptBy_40 : decode cX0_sumKeptBy 40 = .ok (.iload_n 2, 1) := by decide +kernel
theorem dX0_sumKeptBy_41 : decode cX0_sumKeptBy 41 = .ok (.ireturn, 1) := by decide +kernel
set_option maxRecDepth 20000 in
theorem ggX0_firstLightestMending_X0_firstMendingByWeight : GoodIn wsX0_firstLightestMending wsX0_firstMendingByWeight := goodIn_r _ [5, 6, 7, 8, 9, 4, 10, 11, 12, 13, 14, 15, 16, 17, 18, 19, 20, 21, 22, 23, 24, 25, 26, 27, 28, 29, 30, 31, 32, 33, 34, 35, 36, 37, 38, 39, 40, 41, 42] (by decide +kernel) (by decide +kernel)
set_option maxRecDepth 20000 in
theorem gX0_firstLightestMending_X0_firstMendingByWeight : GoodIn wsX0_firstLightestMending (wsV RX0 104 RX0 yX0_firstMendingByWeight wsX0_firstMendingByWeight) := goodIn_app (goodIn_of _ (by decide +kernel)) ggX0_firstLightestMending_X0_firstMendingByWeight
theorem dX0_firstLightestMending_0 : decode cX0_firstLightestMending 0 = .ok (.aload_n 0, 1) := by decide +kernel
theorem dX0_firstLightestMending_1 : decode cX0_firstLightestMending 1 = .ok (.iconst (-1), 1) := by decide +kernel
theorem dX0_firstLightestMending_2 : decode cX0_firstLightestMending 2 = .ok (.invokevirtual 104, 3) := by decide +kernel
theorem dX0_firstLightestMending_5 : decode cX0_firstLightestMending 5 = .ok (.ireturn, 1) := by decide +kernel
set_option maxRecDepth 20000 in
theorem ggX0_firstHeaviestMending_X0_firstMendingByWeight : GoodIn wsX0_firstHeaviestMending wsX0_firstMendingByWeight := goodIn_r _ [5, 6, 7, 8, 9, 4, 10, 11, 12, 13, 14, 15, 16, 17, 18, 19, 20, 21, 22, 23, 24, 25, 26, 27, 28, 29, 30, 31, 32, 33, 34, 35, 36, 37, 38, 39, 40, 41, 42] (by decide +kernel) (by decide +kernel)
set_option maxRecDepth 20000 in
theorem gX0_firstHeaviestMending_X0_firstMendingByWeight : GoodIn wsX0_firstHeaviestMending (wsV RX0 104 RX0 yX0_firstMendingByWeight wsX0_firstMendingByWeight) := goodIn_app (goodIn_of _ (by decide +kernel)) ggX0_firstHeaviestMending_X0_firstMendingByWeight
theorem dX0_firstHeaviestMending_0 : decode cX0_firstHeaviestMending 0 = .ok (.aload_n 0, 1) := by decide +kernel
theorem dX0_firstHeaviestMending_1 : decode cX0_firstHeaviestMending 1 = .ok (.iconst 1, 1) := by decide +kernel
theorem dX0_firstHeaviestMending_2 : decode cX0_firstHeaviestMending 2 = .ok (.invokevirtual 104, 3) := by decide +kernel
theorem dX0_firstHeaviestMending_5 : decode cX0_firstHeaviestMending 5 = .ok (.ireturn, 1) := by decide +kernel
set_option maxRecDepth 20000 in
theorem ggX0_firstMendingByWeight_X0_optionsOf : GoodIn wsX0_firstMendingByWeight wsX0_optionsOf := goodIn_r _ [6, 7, 8, 9, 10, 27, 28, 29, 30, 31, 32] (by decide +kernel) (by decide +kernel)
set_option maxRecDepth 20000 in
theorem gX0_firstMendingByWeight_X0_optionsOf : GoodIn wsX0_firstMendingByWeight (wsV RX0 63 RX0 yX0_optionsOf wsX0_optionsOf) := goodIn_app (goodIn_of _ (by decide +kernel)) ggX0_firstMendingByWeight_X0_optionsOf
set_option maxRecDepth 20000 in
theorem ggX0_firstMendingByWeight_X0_optionWeight : GoodIn wsX0_firstMendingByWeight wsX0_optionWeight := goodIn_r _ [14, 15, 16, 17, 18, 5, 19, 20, 8, 9, 10, 21, 22, 23, 24, 25, 26, 27, 28, 29, 30, 31, 32, 33, 34, 35, 36, 37, 38] (by decide +kernel) (by decide +kernel)
set_option maxRecDepth 20000 in
theorem gX0_firstMendingByWeight_X0_optionWeight : GoodIn wsX0_firstMendingByWeight (wsV RX0 107 RX0 yX0_optionWeight wsX0_optionWeight) := goodIn_app (goodIn_of _ (by decide +kernel)) ggX0_firstMendingByWeight_X0_optionWeight
set_option maxRecDepth 20000 in
theorem ggX0_firstMendingByWeight_X5_at : GoodIn wsX0_firstMendingByWeight wsX5_at := goodIn_r _ [10] (by decide +kernel) (by decide +kernel)
set_option maxRecDepth 20000 in
theorem gX0_firstMendingByWeight_X5_at_n66 : GoodIn wsX0_firstMendingByWeight (wsX5_at) := ggX0_firstMendingByWeight_X5_at
theorem dX0_firstMendingByWeight_0 : decode cX0_firstMendingByWeight 0 = .ok (.iconst 0, 1) := by decide +kernel
theorem dX0_firstMendingByWeight_1 : decode cX0_firstMendingByWeight 1 = .ok (.istore_n 2, 1) := by decide +kernel
theorem dX0_firstMendingByWeight_2 : decode cX0_firstMendingByWeight 2 = .ok (.iconst 0, 1) := by decide +kernel
theorem dX0_firstMendingByWeight_3 : decode cX0_firstMendingByWeight 3 = .ok (.istore_n 3, 1) := by decide +kernel
theorem dX0_firstMendingByWeight_4 : decode cX0_firstMendingByWeight 4 = .ok (.iload_n 3, 1) := by decide +kernel
theorem dX0_firstMendingByWeight_5 : decode cX0_firstMendingByWeight 5 = .ok (.bipush 10, 2) := by decide +kernel
theorem dX0_firstMendingByWeight_7 : decode cX0_firstMendingByWeight 7 = .ok (.if_icmp .ge 70, 3) := by decide +kernel
theorem dX0_firstMendingByWeight_10 : decode cX0_firstMendingByWeight 10 = .ok (.iconst 0, 1) := by decide +kernel
theorem dX0_firstMendingByWeight_11 : decode cX0_firstMendingByWeight 11 = .ok (.istore 4, 2) := by decide +kernel
theorem dX0_firstMendingByWeight_13 : decode cX0_firstMendingByWeight 13 = .ok (.iconst 1, 1) := by decide +kernel
theorem dX0_firstMendingByWeight_14 : decode cX0_firstMendingByWeight 14 = .ok (.istore 5, 2) := by decide +kernel
theorem dX0_firstMendingByWeight_16 : decode cX0_firstMendingByWeight 16 = .ok (.iload 5, 2) := by decide +kernel
theorem dX0_firstMendingByWeight_18 : decode cX0_firstMendingByWeight 18 = .ok (.aload_n 0, 1) := by decide +kernel
theorem dX0_firstMendingByWeight_19 : decode cX0_firstMendingByWeight 19 = .ok (.iload_n 3, 1) := by decide +kernel
theorem dX0_firstMendingByWeight_20 : decode cX0_firstMendingByWeight 20 = .ok (.invokevirtual 63, 3) := by decide +kernel
theorem dX0_firstMendingByWeight_23 : decode cX0_firstMendingByWeight 23 = .ok (.if_icmp .ge 34, 3) := by decide +kernel
theorem dX0_firstMendingByWeight_26 : decode cX0_firstMendingByWeight 26 = .ok (.iload_n 1, 1) := by decide +kernel
theorem dX0_firstMendingByWeight_27 : decode cX0_firstMendingByWeight 27 = .ok (.aload_n 0, 1) := by decide +kernel
theorem dX0_firstMendingByWeight_28 : decode cX0_firstMendingByWeight 28 = .ok (.iload_n 3, 1) := by decide +kernel
theorem dX0_firstMendingByWeight_29 : decode cX0_firstMendingByWeight 29 = .ok (.iload 5, 2) := by decide +kernel
theorem dX0_firstMendingByWeight_31 : decode cX0_firstMendingByWeight 31 = .ok (.invokevirtual 107, 3) := by decide +kernel
theorem dX0_firstMendingByWeight_34 : decode cX0_firstMendingByWeight 34 = .ok (.imul, 1) := by decide +kernel
theorem dX0_firstMendingByWeight_35 : decode cX0_firstMendingByWeight 35 = .ok (.iload_n 1, 1) := by decide +kernel
theorem dX0_firstMendingByWeight_36 : decode cX0_firstMendingByWeight 36 = .ok (.aload_n 0, 1) := by decide +kernel
theorem dX0_firstMendingByWeight_37 : decode cX0_firstMendingByWeight 37 = .ok (.iload_n 3, 1) := by decide +kernel
theorem dX0_firstMendingByWeight_38 : decode cX0_firstMendingByWeight 38 = .ok (.iload 4, 2) := by decide +kernel
theorem dX0_firstMendingByWeight_40 : decode cX0_firstMendingByWeight 40 = .ok (.invokevirtual 107, 3) := by decide +kernel
theorem dX0_firstMendingByWeight_43 : decode cX0_firstMendingByWeight 43 = .ok (.imul, 1) := by decide +kernel
theorem dX0_firstMendingByWeight_44 : decode cX0_firstMendingByWeight 44 = .ok (.if_icmp .le 7, 3) := by decide +kernel
theorem dX0_firstMendingByWeight_47 : decode cX0_firstMendingByWeight 47 = .ok (.iload 5, 2) := by decide +kernel
theorem dX0_firstMendingByWeight_49 : decode cX0_firstMendingByWeight 49 = .ok (.istore 4, 2) := by decide +kernel
theorem dX0_firstMendingByWeight_51 : decode cX0_firstMendingByWeight 51 = .ok (.iinc 5 1, 3) := by decide +kernel
theorem dX0_firstMendingByWeight_54 : decode cX0_firstMendingByWeight 54 = .ok (.goto (-38), 3) := by decide +kernel
theorem dX0_firstMendingByWeight_57 : decode cX0_firstMendingByWeight 57 = .ok (.iload_n 2, 1) := by decide +kernel
theorem dX0_firstMendingByWeight_58 : decode cX0_firstMendingByWeight 58 = .ok (.iload 4, 2) := by decide +kernel
theorem dX0_firstMendingByWeight_60 : decode cX0_firstMendingByWeight 60 = .ok (.aload_n 0, 1) := by decide +kernel
theorem dX0_firstMendingByWeight_61 : decode cX0_firstMendingByWeight 61 = .ok (.getfield 18, 3) := by decide +kernel
theorem dX0_firstMendingByWeight_64 : decode cX0_firstMendingByWeight 64 = .ok (.iload_n 3, 1) := by decide +kernel
theorem dX0_firstMendingByWeight_65 : decode cX0_firstMendingByWeight 65 = .ok (.invokestatic 66, 3) := by decide +kernel
theorem dX0_firstMendingByWeight_68 : decode cX0_firstMendingByWeight 68 = .ok (.imul, 1) := by decide +kernel
theorem dX0_firstMendingByWeight_69 : decode cX0_firstMendingByWeight 69 = .ok (.iadd, 1) := by decide +kernel
theorem dX0_firstMendingByWeight_70 : decode cX0_firstMendingByWeight 70 = .ok (.istore_n 2, 1) := by decide +kernel
theorem dX0_firstMendingByWeight_71 : decode cX0_firstMendingByWeight 71 = .ok (.iinc 3 1, 3) := by decide +kernel
theorem dX0_firstMendingByWeight_74 : decode cX0_firstMendingByWeight 74 = .ok (.goto (-70), 3) := by decide +kernel
theorem dX0_firstMendingByWeight_77 : decode cX0_firstMendingByWeight 77 = .ok (.iload_n 2, 1) := by decide +kernel
theorem dX0_firstMendingByWeight_78 : decode cX0_firstMendingByWeight 78 = .ok (.ireturn, 1) := by decide +kernel
set_option maxRecDepth 20000 in
theorem ggX0_optionWeight_X0_option : GoodIn wsX0_optionWeight wsX0_option := goodIn_r _ [6, 7, 8, 9, 10, 17, 18, 19, 20, 21, 22] (by decide +kernel) (by decide +kernel)
set_option maxRecDepth 20000 in
theorem gX0_optionWeight_X0_option : GoodIn wsX0_optionWeight (wsV RX0 79 RX0 yX0_option wsX0_option) := goodIn_app (goodIn_of _ (by decide +kernel)) ggX0_optionWeight_X0_option
set_option maxRecDepth 20000 in
theorem ggX0_optionWeight_X3_weightAt : GoodIn wsX0_optionWeight wsX3_weightAt := goodIn_r _ [15, 16, 8, 9, 10, 23, 24, 25, 26, 27, 28] (by decide +kernel) (by decide +kernel)
set_option maxRecDepth 20000 in
theorem gX0_optionWeight_X3_weightAt : GoodIn wsX0_optionWeight (wsV RX0 101 RX3 yX3_weightAt wsX3_weightAt) := goodIn_app (goodIn_of _ (by decide +kernel)) ggX0_optionWeight_X3_weightAt
theorem dX0_optionWeight_0 : decode cX0_optionWeight 0 = .ok (.aload_n 0, 1) := by decide +kernel
theorem dX0_optionWeight_1 : decode cX0_optionWeight 1 = .ok (.getfield 24, 3) := by decide +kernel
theorem dX0_optionWeight_4 : decode cX0_optionWeight 4 = .ok (.aload_n 0, 1) := by decide +kernel
theorem dX0_optionWeight_5 : decode cX0_optionWeight 5 = .ok (.iload_n 1, 1) := by decide +kernel
theorem dX0_optionWeight_6 : decode cX0_optionWeight 6 = .ok (.iload_n 2, 1) := by decide +kernel
theorem dX0_optionWeight_7 : decode cX0_optionWeight 7 = .ok (.invokevirtual 79, 3) := by decide +kernel
theorem dX0_optionWeight_10 : decode cX0_optionWeight 10 = .ok (.invokevirtual 101, 3) := by decide +kernel
theorem dX0_optionWeight_13 : decode cX0_optionWeight 13 = .ok (.ireturn, 1) := by decide +kernel
set_option maxRecDepth 20000 in
theorem ggX0_holdsIn_X0_isThere : GoodIn wsX0_holdsIn wsX0_isThere := goodIn_r _ [6, 7, 8, 9, 5, 10, 11, 12, 13, 14, 31, 32, 33, 34, 35, 36] (by decide +kernel) (by decide +kernel)
set_option maxRecDepth 20000 in
theorem gX0_holdsIn_X0_isThere : GoodIn wsX0_holdsIn (wsV RX0 60 RX0 yX0_isThere wsX0_isThere) := goodIn_app (goodIn_of _ (by decide +kernel)) ggX0_holdsIn_X0_isThere
set_option maxRecDepth 20000 in
theorem ggX0_holdsIn_X0_rowKeptBy : GoodIn wsX0_holdsIn wsX0_rowKeptBy := goodIn_r _ [18, 19, 7, 8, 9, 5, 10, 11, 12, 13, 14, 20, 21, 22, 23, 24, 31, 32, 33, 34, 35, 36] (by decide +kernel) (by decide +kernel)
set_option maxRecDepth 20000 in
theorem gX0_holdsIn_X0_rowKeptBy : GoodIn wsX0_holdsIn (wsV RX0 98 RX0 yX0_rowKeptBy wsX0_rowKeptBy) := goodIn_app (goodIn_of _ (by decide +kernel)) ggX0_holdsIn_X0_rowKeptBy
set_option maxRecDepth 20000 in
theorem ggX0_holdsIn_X3_targetAt : GoodIn wsX0_holdsIn wsX3_targetAt := goodIn_r _ [29, 30, 12, 13, 14, 37, 38, 39, 40, 41, 42] (by decide +kernel) (by decide +kernel)
set_option maxRecDepth 20000 in
theorem gX0_holdsIn_X3_targetAt : GoodIn wsX0_holdsIn (wsV RX0 73 RX3 yX3_targetAt wsX3_targetAt) := goodIn_app (goodIn_of _ (by decide +kernel)) ggX0_holdsIn_X3_targetAt
theorem dX0_holdsIn_0 : decode cX0_holdsIn 0 = .ok (.iload_n 2, 1) := by decide +kernel
theorem dX0_holdsIn_1 : decode cX0_holdsIn 1 = .ok (.istore 4, 2) := by decide +kernel
theorem dX0_holdsIn_3 : decode cX0_holdsIn 3 = .ok (.iconst 0, 1) := by decide +kernel
theorem dX0_holdsIn_4 : decode cX0_holdsIn 4 = .ok (.istore 5, 2) := by decide +kernel
theorem dX0_holdsIn_6 : decode cX0_holdsIn 6 = .ok (.iload 5, 2) := by decide +kernel
theorem dX0_holdsIn_8 : decode cX0_holdsIn 8 = .ok (.bipush 10, 2) := by decide +kernel
theorem dX0_holdsIn_10 : decode cX0_holdsIn 10 = .ok (.if_icmp .ge 44, 3) := by decide +kernel
theorem dX0_holdsIn_13 : decode cX0_holdsIn 13 = .ok (.aload_n 0, 1) := by decide +kernel
theorem dX0_holdsIn_14 : decode cX0_holdsIn 14 = .ok (.iload 4, 2) := by decide +kernel
theorem dX0_holdsIn_16 : decode cX0_holdsIn 16 = .ok (.invokevirtual 60, 3) := by decide +kernel
theorem dX0_holdsIn_19 : decode cX0_holdsIn 19 = .ok (.ifCond .ne 5, 3) := by decide +kernel
theorem dX0_holdsIn_22 : decode cX0_holdsIn 22 = .ok (.iconst 0, 1) := by decide +kernel
theorem dX0_holdsIn_23 : decode cX0_holdsIn 23 = .ok (.ireturn, 1) := by decide +kernel
theorem dX0_holdsIn_24 : decode cX0_holdsIn 24 = .ok (.iload 4, 2) := by decide +kernel
theorem dX0_holdsIn_26 : decode cX0_holdsIn 26 = .ok (.iload_n 3, 1) := by decide +kernel
theorem dX0_holdsIn_27 : decode cX0_holdsIn 27 = .ok (.if_icmp .ne 5, 3) := by decide +kernel
theorem dX0_holdsIn_30 : decode cX0_holdsIn 30 = .ok (.iconst 1, 1) := by decide +kernel
theorem dX0_holdsIn_31 : decode cX0_holdsIn 31 = .ok (.ireturn, 1) := by decide +kernel
theorem dX0_holdsIn_32 : decode cX0_holdsIn 32 = .ok (.aload_n 0, 1) := by decide +kernel
theorem dX0_holdsIn_33 : decode cX0_holdsIn 33 = .ok (.getfield 24, 3) := by decide +kernel
theorem dX0_holdsIn_36 : decode cX0_holdsIn 36 = .ok (.aload_n 0, 1) := by decide +kernel
theorem dX0_holdsIn_37 : decode cX0_holdsIn 37 = .ok (.iload_n 1, 1) := by decide +kernel
theorem dX0_holdsIn_38 : decode cX0_holdsIn 38 = .ok (.iload 4, 2) := by decide +kernel
theorem dX0_holdsIn_40 : decode cX0_holdsIn 40 = .ok (.invokevirtual 98, 3) := by decide +kernel
theorem dX0_holdsIn_43 : decode cX0_holdsIn 43 = .ok (.invokevirtual 73, 3) := by decide +kernel
theorem dX0_holdsIn_46 : decode cX0_holdsIn 46 = .ok (.istore 4, 2) := by decide +kernel
theorem dX0_holdsIn_48 : decode cX0_holdsIn 48 = .ok (.iinc 5 1, 3) := by decide +kernel
theorem dX0_holdsIn_51 : decode cX0_holdsIn 51 = .ok (.goto (-45), 3) := by decide +kernel
theorem dX0_holdsIn_54 : decode cX0_holdsIn 54 = .ok (.iconst 0, 1) := by decide +kernel
theorem dX0_holdsIn_55 : decode cX0_holdsIn 55 = .ok (.ireturn, 1) := by decide +kernel
set_option maxRecDepth 20000 in
theorem ggX0_mendingsWithWay_X0_holdsIn : GoodIn wsX0_mendingsWithWay wsX0_holdsIn := goodIn_r _ [6, 7, 8, 9, 10, 5, 11, 12, 13, 14, 15, 16, 17, 18, 19, 20, 21, 22, 23, 24, 25, 26, 27, 28, 29, 30, 31, 32, 33, 34, 35, 36, 37, 38, 39, 40, 41, 42, 43, 44, 45, 46, 47] (by decide +kernel) (by decide +kernel)
set_option maxRecDepth 20000 in
theorem gX0_mendingsWithWay_X0_holdsIn : GoodIn wsX0_mendingsWithWay (wsV RX0 110 RX0 yX0_holdsIn wsX0_holdsIn) := goodIn_app (goodIn_of _ (by decide +kernel)) ggX0_mendingsWithWay_X0_holdsIn
theorem dX0_mendingsWithWay_0 : decode cX0_mendingsWithWay 0 = .ok (.iconst 0, 1) := by decide +kernel
theorem dX0_mendingsWithWay_1 : decode cX0_mendingsWithWay 1 = .ok (.istore_n 3, 1) := by decide +kernel
theorem dX0_mendingsWithWay_2 : decode cX0_mendingsWithWay 2 = .ok (.iconst 0, 1) := by decide +kernel
theorem dX0_mendingsWithWay_3 : decode cX0_mendingsWithWay 3 = .ok (.istore 4, 2) := by decide +kernel
theorem dX0_mendingsWithWay_5 : decode cX0_mendingsWithWay 5 = .ok (.iload 4, 2) := by decide +kernel
theorem dX0_mendingsWithWay_7 : decode cX0_mendingsWithWay 7 = .ok (.aload_n 0, 1) := by decide +kernel
theorem dX0_mendingsWithWay_8 : decode cX0_mendingsWithWay 8 = .ok (.getfield 52, 3) := by decide +kernel
theorem dX0_mendingsWithWay_11 : decode cX0_mendingsWithWay 11 = .ok (.if_icmp .ge 23, 3) := by decide +kernel
theorem dX0_mendingsWithWay_14 : decode cX0_mendingsWithWay 14 = .ok (.aload_n 0, 1) := by decide +kernel
theorem dX0_mendingsWithWay_15 : decode cX0_mendingsWithWay 15 = .ok (.iload 4, 2) := by decide +kernel
theorem dX0_mendingsWithWay_17 : decode cX0_mendingsWithWay 17 = .ok (.iload_n 1, 1) := by decide +kernel
theorem dX0_mendingsWithWay_18 : decode cX0_mendingsWithWay 18 = .ok (.iload_n 2, 1) := by decide +kernel
theorem dX0_mendingsWithWay_19 : decode cX0_mendingsWithWay 19 = .ok (.invokevirtual 110, 3) := by decide +kernel
theorem dX0_mendingsWithWay_22 : decode cX0_mendingsWithWay 22 = .ok (.ifCond .eq 6, 3) := by decide +kernel
theorem dX0_mendingsWithWay_25 : decode cX0_mendingsWithWay 25 = .ok (.iinc 3 1, 3) := by decide +kernel
theorem dX0_mendingsWithWay_28 : decode cX0_mendingsWithWay 28 = .ok (.iinc 4 1, 3) := by decide +kernel
theorem dX0_mendingsWithWay_31 : decode cX0_mendingsWithWay 31 = .ok (.goto (-26), 3) := by decide +kernel
theorem dX0_mendingsWithWay_34 : decode cX0_mendingsWithWay 34 = .ok (.iload_n 3, 1) := by decide +kernel
theorem dX0_mendingsWithWay_35 : decode cX0_mendingsWithWay 35 = .ok (.ireturn, 1) := by decide +kernel
set_option maxRecDepth 20000 in
theorem ggX0_firstMendingWithoutWay_X0_holdsIn : GoodIn wsX0_firstMendingWithoutWay wsX0_holdsIn := goodIn_r _ [6, 7, 8, 9, 10, 5, 11, 12, 13, 14, 15, 16, 17, 18, 19, 20, 21, 22, 23, 24, 25, 26, 27, 28, 29, 30, 31, 32, 33, 34, 35, 36, 37, 38, 39, 40, 41, 42, 43, 44, 45, 46, 47] (by decide +kernel) (by decide +kernel)
set_option maxRecDepth 20000 in
theorem gX0_firstMendingWithoutWay_X0_holdsIn : GoodIn wsX0_firstMendingWithoutWay (wsV RX0 110 RX0 yX0_holdsIn wsX0_holdsIn) := goodIn_app (goodIn_of _ (by decide +kernel)) ggX0_firstMendingWithoutWay_X0_holdsIn
theorem dX0_firstMendingWithoutWay_0 : decode cX0_firstMendingWithoutWay 0 = .ok (.iconst 0, 1) := by decide +kernel
theorem dX0_firstMendingWithoutWay_1 : decode cX0_firstMendingWithoutWay 1 = .ok (.istore_n 3, 1) := by decide +kernel
theorem dX0_firstMendingWithoutWay_2 : decode cX0_firstMendingWithoutWay 2 = .ok (.iload_n 3, 1) := by decide +kernel
theorem dX0_firstMendingWithoutWay_3 : decode cX0_firstMendingWithoutWay 3 = .ok (.aload_n 0, 1) := by decide +kernel
theorem dX0_firstMendingWithoutWay_4 : decode cX0_firstMendingWithoutWay 4 = .ok (.getfield 52, 3) := by decide +kernel
theorem dX0_firstMendingWithoutWay_7 : decode cX0_firstMendingWithoutWay 7 = .ok (.if_icmp .ge 21, 3) := by decide +kernel
theorem dX0_firstMendingWithoutWay_10 : decode cX0_firstMendingWithoutWay 10 = .ok (.aload_n 0, 1) := by decide +kernel
theorem dX0_firstMendingWithoutWay_11 : decode cX0_firstMendingWithoutWay 11 = .ok (.iload_n 3, 1) := by decide +kernel
theorem dX0_firstMendingWithoutWay_12 : decode cX0_firstMendingWithoutWay 12 = .ok (.iload_n 1, 1) := by decide +kernel
theorem dX0_firstMendingWithoutWay_13 : decode cX0_firstMendingWithoutWay 13 = .ok (.iload_n 2, 1) := by decide +kernel
theorem dX0_firstMendingWithoutWay_14 : decode cX0_firstMendingWithoutWay 14 = .ok (.invokevirtual 110, 3) := by decide +kernel
theorem dX0_firstMendingWithoutWay_17 : decode cX0_firstMendingWithoutWay 17 = .ok (.ifCond .ne 5, 3) := by decide +kernel
theorem dX0_firstMendingWithoutWay_20 : decode cX0_firstMendingWithoutWay 20 = .ok (.iload_n 3, 1) := by decide +kernel
theorem dX0_firstMendingWithoutWay_21 : decode cX0_firstMendingWithoutWay 21 = .ok (.ireturn, 1) := by decide +kernel
theorem dX0_firstMendingWithoutWay_22 : decode cX0_firstMendingWithoutWay 22 = .ok (.iinc 3 1, 3) := by decide +kernel
theorem dX0_firstMendingWithoutWay_25 : decode cX0_firstMendingWithoutWay 25 = .ok (.goto (-23), 3) := by decide +kernel
theorem dX0_firstMendingWithoutWay_28 : decode cX0_firstMendingWithoutWay 28 = .ok (.bipush (-5), 2) := by decide +kernel
theorem dX0_firstMendingWithoutWay_30 : decode cX0_firstMendingWithoutWay 30 = .ok (.ireturn, 1) := by decide +kernel
set_option maxRecDepth 20000 in
theorem ggX0_fewestPointers_X0_setOf : GoodIn wsX0_fewestPointers wsX0_setOf := goodIn_r _ [5, 6, 7, 8, 4, 9, 10, 11, 12, 13, 14, 15, 16, 17, 26, 27, 28, 29, 30, 31] (by decide +kernel) (by decide +kernel)
set_option maxRecDepth 20000 in
theorem gX0_fewestPointers_X0_setOf : GoodIn wsX0_fewestPointers (wsV RX0 114 RX0 yX0_setOf wsX0_setOf) := goodIn_app (goodIn_of _ (by decide +kernel)) ggX0_fewestPointers_X0_setOf
set_option maxRecDepth 20000 in
theorem ggX0_fewestPointers_X0_contains : GoodIn wsX0_fewestPointers wsX0_contains := goodIn_r _ [20] (by decide +kernel) (by decide +kernel)
set_option maxRecDepth 20000 in
theorem gX0_fewestPointers_X0_contains : GoodIn wsX0_fewestPointers (va_wsS RX0 117 yX0_contains wsX0_contains) := goodIn_app (goodIn_of _ (by decide +kernel)) ggX0_fewestPointers_X0_contains
set_option maxRecDepth 20000 in
theorem ggX0_fewestPointers_X0_keysThatCanPointInto : GoodIn wsX0_fewestPointers wsX0_keysThatCanPointInto := goodIn_r _ [24, 25, 15, 16, 17, 26, 27, 28, 29, 30, 31] (by decide +kernel) (by decide +kernel)
set_option maxRecDepth 20000 in
theorem gX0_fewestPointers_X0_keysThatCanPointInto : GoodIn wsX0_fewestPointers (wsV RX0 121 RX0 yX0_keysThatCanPointInto wsX0_keysThatCanPointInto) := goodIn_app (goodIn_of _ (by decide +kernel)) ggX0_fewestPointers_X0_keysThatCanPointInto
theorem dX0_fewestPointers_0 : decode cX0_fewestPointers 0 = .ok (.aload_n 0, 1) := by decide +kernel
theorem dX0_fewestPointers_1 : decode cX0_fewestPointers 1 = .ok (.iload_n 2, 1) := by decide +kernel
theorem dX0_fewestPointers_2 : decode cX0_fewestPointers 2 = .ok (.invokevirtual 114, 3) := by decide +kernel
theorem dX0_fewestPointers_5 : decode cX0_fewestPointers 5 = .ok (.istore_n 3, 1) := by decide +kernel
theorem dX0_fewestPointers_6 : decode cX0_fewestPointers 6 = .ok (.iconst 0, 1) := by decide +kernel
theorem dX0_fewestPointers_7 : decode cX0_fewestPointers 7 = .ok (.istore 4, 2) := by decide +kernel
theorem dX0_fewestPointers_9 : decode cX0_fewestPointers 9 = .ok (.iload 4, 2) := by decide +kernel
theorem dX0_fewestPointers_11 : decode cX0_fewestPointers 11 = .ok (.bipush 10, 2) := by decide +kernel
theorem dX0_fewestPointers_13 : decode cX0_fewestPointers 13 = .ok (.if_icmp .ge 28, 3) := by decide +kernel
theorem dX0_fewestPointers_16 : decode cX0_fewestPointers 16 = .ok (.iload_n 3, 1) := by decide +kernel
theorem dX0_fewestPointers_17 : decode cX0_fewestPointers 17 = .ok (.iload_n 1, 1) := by decide +kernel
theorem dX0_fewestPointers_18 : decode cX0_fewestPointers 18 = .ok (.invokestatic 117, 3) := by decide +kernel
theorem dX0_fewestPointers_21 : decode cX0_fewestPointers 21 = .ok (.ifCond .eq 6, 3) := by decide +kernel
theorem dX0_fewestPointers_24 : decode cX0_fewestPointers 24 = .ok (.iload 4, 2) := by decide +kernel
theorem dX0_fewestPointers_26 : decode cX0_fewestPointers 26 = .ok (.ireturn, 1) := by decide +kernel
theorem dX0_fewestPointers_27 : decode cX0_fewestPointers 27 = .ok (.iload_n 3, 1) := by decide +kernel
theorem dX0_fewestPointers_28 : decode cX0_fewestPointers 28 = .ok (.aload_n 0, 1) := by decide +kernel
theorem dX0_fewestPointers_29 : decode cX0_fewestPointers 29 = .ok (.iload_n 3, 1) := by decide +kernel
theorem dX0_fewestPointers_30 : decode cX0_fewestPointers 30 = .ok (.invokevirtual 121, 3) := by decide +kernel
theorem dX0_fewestPointers_33 : decode cX0_fewestPointers 33 = .ok (.ior, 1) := by decide +kernel
theorem dX0_fewestPointers_34 : decode cX0_fewestPointers 34 = .ok (.istore_n 3, 1) := by decide +kernel
theorem dX0_fewestPointers_35 : decode cX0_fewestPointers 35 = .ok (.iinc 4 1, 3) := by decide +kernel
theorem dX0_fewestPointers_38 : decode cX0_fewestPointers 38 = .ok (.goto (-29), 3) := by decide +kernel
theorem dX0_fewestPointers_41 : decode cX0_fewestPointers 41 = .ok (.bipush (-5), 2) := by decide +kernel
theorem dX0_fewestPointers_43 : decode cX0_fewestPointers 43 = .ok (.ireturn, 1) := by decide +kernel
set_option maxRecDepth 20000 in
theorem ggX0_isSureWay_X0_keysSureToReach : GoodIn wsX0_isSureWay wsX0_keysSureToReach := goodIn_r _ [5, 6, 7, 8, 4, 9, 10, 11, 12, 13, 14, 15, 16, 17, 18, 19, 20, 21, 22, 23, 24, 25, 26, 30, 31, 32, 33, 34, 35] (by decide +kernel) (by decide +kernel)
set_option maxRecDepth 20000 in
theorem gX0_isSureWay_X0_keysSureToReach : GoodIn wsX0_isSureWay (wsV RX0 124 RX0 yX0_keysSureToReach wsX0_keysSureToReach) := goodIn_app (goodIn_of _ (by decide +kernel)) ggX0_isSureWay_X0_keysSureToReach
set_option maxRecDepth 20000 in
theorem ggX0_isSureWay_X0_contains : GoodIn wsX0_isSureWay wsX0_contains := goodIn_r _ [29] (by decide +kernel) (by decide +kernel)
set_option maxRecDepth 20000 in
theorem gX0_isSureWay_X0_contains : GoodIn wsX0_isSureWay (va_wsS RX0 117 yX0_contains wsX0_contains) := goodIn_app (goodIn_of _ (by decide +kernel)) ggX0_isSureWay_X0_contains
theorem dX0_isSureWay_0 : decode cX0_isSureWay 0 = .ok (.aload_n 0, 1) := by decide +kernel
theorem dX0_isSureWay_1 : decode cX0_isSureWay 1 = .ok (.iload_n 2, 1) := by decide +kernel
theorem dX0_isSureWay_2 : decode cX0_isSureWay 2 = .ok (.invokevirtual 124, 3) := by decide +kernel
theorem dX0_isSureWay_5 : decode cX0_isSureWay 5 = .ok (.iload_n 1, 1) := by decide +kernel
theorem dX0_isSureWay_6 : decode cX0_isSureWay 6 = .ok (.invokestatic 117, 3) := by decide +kernel
theorem dX0_isSureWay_9 : decode cX0_isSureWay 9 = .ok (.ireturn, 1) := by decide +kernel
set_option maxRecDepth 20000 in
theorem ggX0_keysSureToReach_X0_setOf : GoodIn wsX0_keysSureToReach wsX0_setOf := goodIn_r _ [5, 6, 7, 8, 4, 9, 10, 11, 12, 13, 14, 15, 16, 17, 23, 24, 25, 26, 27, 28] (by decide +kernel) (by decide +kernel)
set_option maxRecDepth 20000 in
theorem gX0_keysSureToReach_X0_setOf : GoodIn wsX0_keysSureToReach (wsV RX0 114 RX0 yX0_setOf wsX0_setOf) := goodIn_app (goodIn_of _ (by decide +kernel)) ggX0_keysSureToReach_X0_setOf
set_option maxRecDepth 20000 in
theorem ggX0_keysSureToReach_X0_keysThatMustPointInto : GoodIn wsX0_keysSureToReach wsX0_keysThatMustPointInto := goodIn_r _ [21, 22, 15, 16, 17, 23, 24, 25, 26, 27, 28] (by decide +kernel) (by decide +kernel)
set_option maxRecDepth 20000 in
theorem gX0_keysSureToReach_X0_keysThatMustPointInto : GoodIn wsX0_keysSureToReach (wsV RX0 127 RX0 yX0_keysThatMustPointInto wsX0_keysThatMustPointInto) := goodIn_app (goodIn_of _ (by decide +kernel)) ggX0_keysSureToReach_X0_keysThatMustPointInto
theorem dX0_keysSureToReach_0 : decode cX0_keysSureToReach 0 = .ok (.aload_n 0, 1) := by decide +kernel
theorem dX0_keysSureToReach_1 : decode cX0_keysSureToReach 1 = .ok (.iload_n 1, 1) := by decide +kernel
theorem dX0_keysSureToReach_2 : decode cX0_keysSureToReach 2 = .ok (.invokevirtual 114, 3) := by decide +kernel
theorem dX0_keysSureToReach_5 : decode cX0_keysSureToReach 5 = .ok (.istore_n 2, 1) := by decide +kernel
theorem dX0_keysSureToReach_6 : decode cX0_keysSureToReach 6 = .ok (.iconst 1, 1) := by decide +kernel
theorem dX0_keysSureToReach_7 : decode cX0_keysSureToReach 7 = .ok (.istore_n 3, 1) := by decide +kernel
theorem dX0_keysSureToReach_8 : decode cX0_keysSureToReach 8 = .ok (.iload_n 3, 1) := by decide +kernel
theorem dX0_keysSureToReach_9 : decode cX0_keysSureToReach 9 = .ok (.bipush 10, 2) := by decide +kernel
theorem dX0_keysSureToReach_11 : decode cX0_keysSureToReach 11 = .ok (.if_icmp .ge 17, 3) := by decide +kernel
theorem dX0_keysSureToReach_14 : decode cX0_keysSureToReach 14 = .ok (.iload_n 2, 1) := by decide +kernel
theorem dX0_keysSureToReach_15 : decode cX0_keysSureToReach 15 = .ok (.aload_n 0, 1) := by decide +kernel
theorem dX0_keysSureToReach_16 : decode cX0_keysSureToReach 16 = .ok (.iload_n 2, 1) := by decide +kernel
theorem dX0_keysSureToReach_17 : decode cX0_keysSureToReach 17 = .ok (.invokevirtual 127, 3) := by decide +kernel
theorem dX0_keysSureToReach_20 : decode cX0_keysSureToReach 20 = .ok (.ior, 1) := by decide +kernel
theorem dX0_keysSureToReach_21 : decode cX0_keysSureToReach 21 = .ok (.istore_n 2, 1) := by decide +kernel
theorem dX0_keysSureToReach_22 : decode cX0_keysSureToReach 22 = .ok (.iinc 3 1, 3) := by decide +kernel
theorem dX0_keysSureToReach_25 : decode cX0_keysSureToReach 25 = .ok (.goto (-17), 3) := by decide +kernel
theorem dX0_keysSureToReach_28 : decode cX0_keysSureToReach 28 = .ok (.iload_n 2, 1) := by decide +kernel
theorem dX0_keysSureToReach_29 : decode cX0_keysSureToReach 29 = .ok (.ireturn, 1) := by decide +kernel
set_option maxRecDepth 20000 in
theorem ggX0_keysThatCanReach_X0_setOf : GoodIn wsX0_keysThatCanReach wsX0_setOf := goodIn_r _ [5, 6, 7, 8, 4, 9, 10, 11, 12, 13, 14, 15, 16, 17, 23, 24, 25, 26, 27, 28] (by decide +kernel) (by decide +kernel)
set_option maxRecDepth 20000 in
theorem gX0_keysThatCanReach_X0_setOf : GoodIn wsX0_keysThatCanReach (wsV RX0 114 RX0 yX0_setOf wsX0_setOf) := goodIn_app (goodIn_of _ (by decide +kernel)) ggX0_keysThatCanReach_X0_setOf
set_option maxRecDepth 20000 in
theorem ggX0_keysThatCanReach_X0_keysThatCanPointInto : GoodIn wsX0_keysThatCanReach wsX0_keysThatCanPointInto := goodIn_r _ [21, 22, 15, 16, 17, 23, 24, 25, 26, 27, 28] (by decide +kernel) (by decide +kernel)
set_option maxRecDepth 20000 in
theorem gX0_keysThatCanReach_X0_keysThatCanPointInto : GoodIn wsX0_keysThatCanReach (wsV RX0 121 RX0 yX0_keysThatCanPointInto wsX0_keysThatCanPointInto) := goodIn_app (goodIn_of _ (by decide +kernel)) ggX0_keysThatCanReach_X0_keysThatCanPointInto
theorem dX0_keysThatCanReach_0 : decode cX0_keysThatCanReach 0 = .ok (.aload_n 0, 1) := by decide +kernel
theorem dX0_keysThatCanReach_1 : decode cX0_keysThatCanReach 1 = .ok (.iload_n 1, 1) := by decide +kernel
theorem dX0_keysThatCanReach_2 : decode cX0_keysThatCanReach 2 = .ok (.invokevirtual 114, 3) := by decide +kernel
theorem dX0_keysThatCanReach_5 : decode cX0_keysThatCanReach 5 = .ok (.istore_n 2, 1) := by decide +kernel
theorem dX0_keysThatCanReach_6 : decode cX0_keysThatCanReach 6 = .ok (.iconst 1, 1) := by decide +kernel
theorem dX0_keysThatCanReach_7 : decode cX0_keysThatCanReach 7 = .ok (.istore_n 3, 1) := by decide +kernel
theorem dX0_keysThatCanReach_8 : decode cX0_keysThatCanReach 8 = .ok (.iload_n 3, 1) := by decide +kernel
theorem dX0_keysThatCanReach_9 : decode cX0_keysThatCanReach 9 = .ok (.bipush 10, 2) := by decide +kernel
theorem dX0_keysThatCanReach_11 : decode cX0_keysThatCanReach 11 = .ok (.if_icmp .ge 17, 3) := by decide +kernel
theorem dX0_keysThatCanReach_14 : decode cX0_keysThatCanReach 14 = .ok (.iload_n 2, 1) := by decide +kernel
theorem dX0_keysThatCanReach_15 : decode cX0_keysThatCanReach 15 = .ok (.aload_n 0, 1) := by decide +kernel
theorem dX0_keysThatCanReach_16 : decode cX0_keysThatCanReach 16 = .ok (.iload_n 2, 1) := by decide +kernel
theorem dX0_keysThatCanReach_17 : decode cX0_keysThatCanReach 17 = .ok (.invokevirtual 121, 3) := by decide +kernel
theorem dX0_keysThatCanReach_20 : decode cX0_keysThatCanReach 20 = .ok (.ior, 1) := by decide +kernel
theorem dX0_keysThatCanReach_21 : decode cX0_keysThatCanReach 21 = .ok (.istore_n 2, 1) := by decide +kernel
theorem dX0_keysThatCanReach_22 : decode cX0_keysThatCanReach 22 = .ok (.iinc 3 1, 3) := by decide +kernel
theorem dX0_keysThatCanReach_25 : decode cX0_keysThatCanReach 25 = .ok (.goto (-17), 3) := by decide +kernel
theorem dX0_keysThatCanReach_28 : decode cX0_keysThatCanReach 28 = .ok (.iload_n 2, 1) := by decide +kernel
theorem dX0_keysThatCanReach_29 : decode cX0_keysThatCanReach 29 = .ok (.ireturn, 1) := by decide +kernel
set_option maxRecDepth 20000 in
theorem ggX0_keysThatCanPointInto_X5_at : GoodIn wsX0_keysThatCanPointInto wsX5_at := goodIn_r _ [4] (by decide +kernel) (by decide +kernel)
set_option maxRecDepth 20000 in
theorem gX0_keysThatCanPointInto_X5_at_n66 : GoodIn wsX0_keysThatCanPointInto (wsX5_at) := ggX0_keysThatCanPointInto_X5_at
theorem dX0_keysThatCanPointInto_0 : decode cX0_keysThatCanPointInto 0 = .ok (.iconst 0, 1) := by decide +kernel
theorem dX0_keysThatCanPointInto_1 : decode cX0_keysThatCanPointInto 1 = .ok (.istore_n 2, 1) := by decide +kernel
theorem dX0_keysThatCanPointInto_2 : decode cX0_keysThatCanPointInto 2 = .ok (.iconst 0, 1) := by decide +kernel
theorem dX0_keysThatCanPointInto_3 : decode cX0_keysThatCanPointInto 3 = .ok (.istore_n 3, 1) := by decide +kernel
theorem dX0_keysThatCanPointInto_4 : decode cX0_keysThatCanPointInto 4 = .ok (.iload_n 3, 1) := by decide +kernel
theorem dX0_keysThatCanPointInto_5 : decode cX0_keysThatCanPointInto 5 = .ok (.bipush 10, 2) := by decide +kernel
theorem dX0_keysThatCanPointInto_7 : decode cX0_keysThatCanPointInto 7 = .ok (.if_icmp .ge 28, 3) := by decide +kernel
theorem dX0_keysThatCanPointInto_10 : decode cX0_keysThatCanPointInto 10 = .ok (.aload_n 0, 1) := by decide +kernel
theorem dX0_keysThatCanPointInto_11 : decode cX0_keysThatCanPointInto 11 = .ok (.getfield 21, 3) := by decide +kernel
theorem dX0_keysThatCanPointInto_14 : decode cX0_keysThatCanPointInto 14 = .ok (.iload_n 3, 1) := by decide +kernel
theorem dX0_keysThatCanPointInto_15 : decode cX0_keysThatCanPointInto 15 = .ok (.invokestatic 66, 3) := by decide +kernel
theorem dX0_keysThatCanPointInto_18 : decode cX0_keysThatCanPointInto 18 = .ok (.iload_n 1, 1) := by decide +kernel
theorem dX0_keysThatCanPointInto_19 : decode cX0_keysThatCanPointInto 19 = .ok (.iand, 1) := by decide +kernel
theorem dX0_keysThatCanPointInto_20 : decode cX0_keysThatCanPointInto 20 = .ok (.ifCond .eq 9, 3) := by decide +kernel
theorem dX0_keysThatCanPointInto_23 : decode cX0_keysThatCanPointInto 23 = .ok (.iload_n 2, 1) := by decide +kernel
theorem dX0_keysThatCanPointInto_24 : decode cX0_keysThatCanPointInto 24 = .ok (.iconst 1, 1) := by decide +kernel
theorem dX0_keysThatCanPointInto_25 : decode cX0_keysThatCanPointInto 25 = .ok (.iload_n 3, 1) := by decide +kernel
theorem dX0_keysThatCanPointInto_26 : decode cX0_keysThatCanPointInto 26 = .ok (.ishl, 1) := by decide +kernel
theorem dX0_keysThatCanPointInto_27 : decode cX0_keysThatCanPointInto 27 = .ok (.ior, 1) := by decide +kernel
theorem dX0_keysThatCanPointInto_28 : decode cX0_keysThatCanPointInto 28 = .ok (.istore_n 2, 1) := by decide +kernel
theorem dX0_keysThatCanPointInto_29 : decode cX0_keysThatCanPointInto 29 = .ok (.iinc 3 1, 3) := by decide +kernel
theorem dX0_keysThatCanPointInto_32 : decode cX0_keysThatCanPointInto 32 = .ok (.goto (-28), 3) := by decide +kernel
theorem dX0_keysThatCanPointInto_35 : decode cX0_keysThatCanPointInto 35 = .ok (.iload_n 2, 1) := by decide +kernel
theorem dX0_keysThatCanPointInto_36 : decode cX0_keysThatCanPointInto 36 = .ok (.ireturn, 1) := by decide +kernel
set_option maxRecDepth 20000 in
theorem ggX0_keysThatMustPointInto_X5_at : GoodIn wsX0_keysThatMustPointInto wsX5_at := goodIn_r _ [4] (by decide +kernel) (by decide +kernel)
set_option maxRecDepth 20000 in
theorem gX0_keysThatMustPointInto_X5_at_n66 : GoodIn wsX0_keysThatMustPointInto (wsX5_at) := ggX0_keysThatMustPointInto_X5_at
theorem dX0_keysThatMustPointInto_0 : decode cX0_keysThatMustPointInto 0 = .ok (.iconst 0, 1) := by decide +kernel
theorem dX0_keysThatMustPointInto_1 : decode cX0_keysThatMustPointInto 1 = .ok (.istore_n 2, 1) := by decide +kernel
theorem dX0_keysThatMustPointInto_2 : decode cX0_keysThatMustPointInto 2 = .ok (.iconst 0, 1) := by decide +kernel
theorem dX0_keysThatMustPointInto_3 : decode cX0_keysThatMustPointInto 3 = .ok (.istore_n 3, 1) := by decide +kernel
theorem dX0_keysThatMustPointInto_4 : decode cX0_keysThatMustPointInto 4 = .ok (.iload_n 3, 1) := by decide +kernel
theorem dX0_keysThatMustPointInto_5 : decode cX0_keysThatMustPointInto 5 = .ok (.bipush 10, 2) := by decide +kernel
theorem dX0_keysThatMustPointInto_7 : decode cX0_keysThatMustPointInto 7 = .ok (.if_icmp .ge 39, 3) := by decide +kernel
theorem dX0_keysThatMustPointInto_10 : decode cX0_keysThatMustPointInto 10 = .ok (.aload_n 0, 1) := by decide +kernel
theorem dX0_keysThatMustPointInto_11 : decode cX0_keysThatMustPointInto 11 = .ok (.getfield 21, 3) := by decide +kernel
theorem dX0_keysThatMustPointInto_14 : decode cX0_keysThatMustPointInto 14 = .ok (.iload_n 3, 1) := by decide +kernel
theorem dX0_keysThatMustPointInto_15 : decode cX0_keysThatMustPointInto 15 = .ok (.invokestatic 66, 3) := by decide +kernel
theorem dX0_keysThatMustPointInto_18 : decode cX0_keysThatMustPointInto 18 = .ok (.istore 4, 2) := by decide +kernel
theorem dX0_keysThatMustPointInto_20 : decode cX0_keysThatMustPointInto 20 = .ok (.iload 4, 2) := by decide +kernel
theorem dX0_keysThatMustPointInto_22 : decode cX0_keysThatMustPointInto 22 = .ok (.ifCond .eq 18, 3) := by decide +kernel
theorem dX0_keysThatMustPointInto_25 : decode cX0_keysThatMustPointInto 25 = .ok (.iload 4, 2) := by decide +kernel
theorem dX0_keysThatMustPointInto_27 : decode cX0_keysThatMustPointInto 27 = .ok (.iload_n 1, 1) := by decide +kernel
theorem dX0_keysThatMustPointInto_28 : decode cX0_keysThatMustPointInto 28 = .ok (.iconst (-1), 1) := by decide +kernel
theorem dX0_keysThatMustPointInto_29 : decode cX0_keysThatMustPointInto 29 = .ok (.ixor, 1) := by decide +kernel
theorem dX0_keysThatMustPointInto_30 : decode cX0_keysThatMustPointInto 30 = .ok (.iand, 1) := by decide +kernel
theorem dX0_keysThatMustPointInto_31 : decode cX0_keysThatMustPointInto 31 = .ok (.ifCond .ne 9, 3) := by decide +kernel
theorem dX0_keysThatMustPointInto_34 : decode cX0_keysThatMustPointInto 34 = .ok (.iload_n 2, 1) := by decide +kernel
theorem dX0_keysThatMustPointInto_35 : decode cX0_keysThatMustPointInto 35 = .ok (.iconst 1, 1) := by decide +kernel
theorem dX0_keysThatMustPointInto_36 : decode cX0_keysThatMustPointInto 36 = .ok (.iload_n 3, 1) := by decide +kernel
theorem dX0_keysThatMustPointInto_37 : decode cX0_keysThatMustPointInto 37 = .ok (.ishl, 1) := by decide +kernel
theorem dX0_keysThatMustPointInto_38 : decode cX0_keysThatMustPointInto 38 = .ok (.ior, 1) := by decide +kernel
theorem dX0_keysThatMustPointInto_39 : decode cX0_keysThatMustPointInto 39 = .ok (.istore_n 2, 1) := by decide +kernel
theorem dX0_keysThatMustPointInto_40 : decode cX0_keysThatMustPointInto 40 = .ok (.iinc 3 1, 3) := by decide +kernel
theorem dX0_keysThatMustPointInto_43 : decode cX0_keysThatMustPointInto 43 = .ok (.goto (-39), 3) := by decide +kernel
theorem dX0_keysThatMustPointInto_46 : decode cX0_keysThatMustPointInto 46 = .ok (.iload_n 2, 1) := by decide +kernel
theorem dX0_keysThatMustPointInto_47 : decode cX0_keysThatMustPointInto 47 = .ok (.ireturn, 1) := by decide +kernel
set_option maxRecDepth 20000 in
theorem ggX0_setOf_X0_isThere : GoodIn wsX0_setOf wsX0_isThere := goodIn_r _ [5, 6, 7, 8, 4, 9, 10, 11, 12, 13, 14, 15, 16, 17, 18, 19] (by decide +kernel) (by decide +kernel)
set_option maxRecDepth 20000 in
theorem gX0_setOf_X0_isThere : GoodIn wsX0_setOf (wsV RX0 60 RX0 yX0_isThere wsX0_isThere) := goodIn_app (goodIn_of _ (by decide +kernel)) ggX0_setOf_X0_isThere
theorem dX0_setOf_0 : decode cX0_setOf 0 = .ok (.aload_n 0, 1) := by decide +kernel
theorem dX0_setOf_1 : decode cX0_setOf 1 = .ok (.iload_n 1, 1) := by decide +kernel
theorem dX0_setOf_2 : decode cX0_setOf 2 = .ok (.invokevirtual 60, 3) := by decide +kernel
theorem dX0_setOf_5 : decode cX0_setOf 5 = .ok (.ifCond .eq 9, 3) := by decide +kernel
theorem dX0_setOf_8 : decode cX0_setOf 8 = .ok (.iconst 1, 1) := by decide +kernel
theorem dX0_setOf_9 : decode cX0_setOf 9 = .ok (.iload_n 1, 1) := by decide +kernel
theorem dX0_setOf_10 : decode cX0_setOf 10 = .ok (.ishl, 1) := by decide +kernel
theorem dX0_setOf_11 : decode cX0_setOf 11 = .ok (.goto 4, 3) := by decide +kernel
theorem dX0_setOf_14 : decode cX0_setOf 14 = .ok (.iconst 0, 1) := by decide +kernel
theorem dX0_setOf_15 : decode cX0_setOf 15 = .ok (.ireturn, 1) := by decide +kernel
theorem dX0_contains_0 : decode cX0_contains 0 = .ok (.iload_n 0, 1) := by decide +kernel
theorem dX0_contains_1 : decode cX0_contains 1 = .ok (.iconst 1, 1) := by decide +kernel
theorem dX0_contains_2 : decode cX0_contains 2 = .ok (.iload_n 1, 1) := by decide +kernel
theorem dX0_contains_3 : decode cX0_contains 3 = .ok (.ishl, 1) := by decide +kernel
theorem dX0_contains_4 : decode cX0_contains 4 = .ok (.iand, 1) := by decide +kernel
theorem dX0_contains_5 : decode cX0_contains 5 = .ok (.ifCond .eq 7, 3) := by decide +kernel
theorem dX0_contains_8 : decode cX0_contains 8 = .ok (.iconst 1, 1) := by decide +kernel
theorem dX0_contains_9 : decode cX0_contains 9 = .ok (.goto 4, 3) := by decide +kernel
theorem dX0_contains_12 : decode cX0_contains 12 = .ok (.iconst 0, 1) := by decide +kernel
theorem dX0_contains_13 : decode cX0_contains 13 = .ok (.ireturn, 1) := by decide +kernel
set_option maxRecDepth 20000 in
theorem ggX0_sureWays_X0_keysSureToReach : GoodIn wsX0_sureWays wsX0_keysSureToReach := goodIn_r _ [5, 6, 7, 8, 4, 9, 10, 11, 12, 13, 14, 15, 16, 17, 18, 19, 20, 21, 22, 23, 24, 25, 26, 34, 35, 36, 37, 38, 39] (by decide +kernel) (by decide +kernel)
set_option maxRecDepth 20000 in
theorem gX0_sureWays_X0_keysSureToReach : GoodIn wsX0_sureWays (wsV RX0 124 RX0 yX0_keysSureToReach wsX0_keysSureToReach) := goodIn_app (goodIn_of _ (by decide +kernel)) ggX0_sureWays_X0_keysSureToReach
set_option maxRecDepth 20000 in
theorem ggX0_sureWays_J6_bitCount_0f7a4 : GoodIn wsX0_sureWays wsJ6_bitCount_0f7a4 := goodIn_r _ [30, 31, 32, 33] (by decide +kernel) (by decide +kernel)
set_option maxRecDepth 20000 in
theorem gX0_sureWays_J6_bitCount_0f7a4 : GoodIn wsX0_sureWays (va_wsS RX0 130 yJ6_bitCount_0f7a4 wsJ6_bitCount_0f7a4) := goodIn_app (goodIn_of _ (by decide +kernel)) ggX0_sureWays_J6_bitCount_0f7a4
theorem dX0_sureWays_0 : decode cX0_sureWays 0 = .ok (.iconst 0, 1) := by decide +kernel
theorem dX0_sureWays_1 : decode cX0_sureWays 1 = .ok (.istore_n 1, 1) := by decide +kernel
theorem dX0_sureWays_2 : decode cX0_sureWays 2 = .ok (.iconst 0, 1) := by decide +kernel
theorem dX0_sureWays_3 : decode cX0_sureWays 3 = .ok (.istore_n 2, 1) := by decide +kernel
theorem dX0_sureWays_4 : decode cX0_sureWays 4 = .ok (.iload_n 2, 1) := by decide +kernel
theorem dX0_sureWays_5 : decode cX0_sureWays 5 = .ok (.bipush 10, 2) := by decide +kernel
theorem dX0_sureWays_7 : decode cX0_sureWays 7 = .ok (.if_icmp .ge 20, 3) := by decide +kernel
theorem dX0_sureWays_10 : decode cX0_sureWays 10 = .ok (.iload_n 1, 1) := by decide +kernel
theorem dX0_sureWays_11 : decode cX0_sureWays 11 = .ok (.aload_n 0, 1) := by decide +kernel
theorem dX0_sureWays_12 : decode cX0_sureWays 12 = .ok (.iload_n 2, 1) := by decide +kernel
theorem dX0_sureWays_13 : decode cX0_sureWays 13 = .ok (.invokevirtual 124, 3) := by decide +kernel
theorem dX0_sureWays_16 : decode cX0_sureWays 16 = .ok (.invokestatic 130, 3) := by decide +kernel
theorem dX0_sureWays_19 : decode cX0_sureWays 19 = .ok (.iadd, 1) := by decide +kernel
theorem dX0_sureWays_20 : decode cX0_sureWays 20 = .ok (.istore_n 1, 1) := by decide +kernel
theorem dX0_sureWays_21 : decode cX0_sureWays 21 = .ok (.iinc 2 1, 3) := by decide +kernel
theorem dX0_sureWays_24 : decode cX0_sureWays 24 = .ok (.goto (-20), 3) := by decide +kernel
theorem dX0_sureWays_27 : decode cX0_sureWays 27 = .ok (.iload_n 1, 1) := by decide +kernel
theorem dX0_sureWays_28 : decode cX0_sureWays 28 = .ok (.ireturn, 1) := by decide +kernel
set_option maxRecDepth 20000 in
theorem ggX0_possibleWays_X0_keysThatCanReach : GoodIn wsX0_possibleWays wsX0_keysThatCanReach := goodIn_r _ [5, 6, 7, 8, 4, 9, 10, 11, 12, 13, 14, 15, 16, 17, 18, 19, 20, 21, 22, 23, 24, 25, 26, 34, 35, 36, 37, 38, 39] (by decide +kernel) (by decide +kernel)
set_option maxRecDepth 20000 in
theorem gX0_possibleWays_X0_keysThatCanReach : GoodIn wsX0_possibleWays (wsV RX0 135 RX0 yX0_keysThatCanReach wsX0_keysThatCanReach) := goodIn_app (goodIn_of _ (by decide +kernel)) ggX0_possibleWays_X0_keysThatCanReach
set_option maxRecDepth 20000 in
theorem ggX0_possibleWays_J6_bitCount_0f7a4 : GoodIn wsX0_possibleWays wsJ6_bitCount_0f7a4 := goodIn_r _ [30, 31, 32, 33] (by decide +kernel) (by decide +kernel)
set_option maxRecDepth 20000 in
theorem gX0_possibleWays_J6_bitCount_0f7a4 : GoodIn wsX0_possibleWays (va_wsS RX0 130 yJ6_bitCount_0f7a4 wsJ6_bitCount_0f7a4) := goodIn_app (goodIn_of _ (by decide +kernel)) ggX0_possibleWays_J6_bitCount_0f7a4
theorem dX0_possibleWays_0 : decode cX0_possibleWays 0 = .ok (.iconst 0, 1) := by decide +kernel
theorem dX0_possibleWays_1 : decode cX0_possibleWays 1 = .ok (.istore_n 1, 1) := by decide +kernel
theorem dX0_possibleWays_2 : decode cX0_possibleWays 2 = .ok (.iconst 0, 1) := by decide +kernel
theorem dX0_possibleWays_3 : decode cX0_possibleWays 3 = .ok (.istore_n 2, 1) := by decide +kernel
theorem dX0_possibleWays_4 : decode cX0_possibleWays 4 = .ok (.iload_n 2, 1) := by decide +kernel
theorem dX0_possibleWays_5 : decode cX0_possibleWays 5 = .ok (.bipush 10, 2) := by decide +kernel
theorem dX0_possibleWays_7 : decode cX0_possibleWays 7 = .ok (.if_icmp .ge 20, 3) := by decide +kernel
theorem dX0_possibleWays_10 : decode cX0_possibleWays 10 = .ok (.iload_n 1, 1) := by decide +kernel
theorem dX0_possibleWays_11 : decode cX0_possibleWays 11 = .ok (.aload_n 0, 1) := by decide +kernel
theorem dX0_possibleWays_12 : decode cX0_possibleWays 12 = .ok (.iload_n 2, 1) := by decide +kernel
theorem dX0_possibleWays_13 : decode cX0_possibleWays 13 = .ok (.invokevirtual 135, 3) := by decide +kernel
theorem dX0_possibleWays_16 : decode cX0_possibleWays 16 = .ok (.invokestatic 130, 3) := by decide +kernel
theorem dX0_possibleWays_19 : decode cX0_possibleWays 19 = .ok (.iadd, 1) := by decide +kernel
theorem dX0_possibleWays_20 : decode cX0_possibleWays 20 = .ok (.istore_n 1, 1) := by decide +kernel
theorem dX0_possibleWays_21 : decode cX0_possibleWays 21 = .ok (.iinc 2 1, 3) := by decide +kernel
theorem dX0_possibleWays_24 : decode cX0_possibleWays 24 = .ok (.goto (-20), 3) := by decide +kernel
theorem dX0_possibleWays_27 : decode cX0_possibleWays 27 = .ok (.iload_n 1, 1) := by decide +kernel
theorem dX0_possibleWays_28 : decode cX0_possibleWays 28 = .ok (.ireturn, 1) := by decide +kernel
set_option maxRecDepth 20000 in
theorem ggX0_rowThatMakesSure_X0_isSureWay : GoodIn wsX0_rowThatMakesSure wsX0_isSureWay := goodIn_r _ [5, 6, 7, 8, 4, 9, 10, 11, 12, 13, 14, 15, 16, 17, 18, 19, 20, 21, 22, 23, 24, 25, 26, 27, 28, 29, 30, 31, 32, 33, 58, 59, 60, 61, 62, 63] (by decide +kernel) (by decide +kernel)
set_option maxRecDepth 20000 in
theorem gX0_rowThatMakesSure_X0_isSureWay : GoodIn wsX0_rowThatMakesSure (wsV RX0 138 RX0 yX0_isSureWay wsX0_isSureWay) := goodIn_app (goodIn_of _ (by decide +kernel)) ggX0_rowThatMakesSure_X0_isSureWay
set_option maxRecDepth 20000 in
theorem ggX0_rowThatMakesSure_X0_optionsOf : GoodIn wsX0_rowThatMakesSure wsX0_optionsOf := goodIn_r _ [21, 22, 23, 24, 25, 58, 59, 60, 61, 62, 63] (by decide +kernel) (by decide +kernel)
set_option maxRecDepth 20000 in
theorem gX0_rowThatMakesSure_X0_optionsOf : GoodIn wsX0_rowThatMakesSure (wsV RX0 63 RX0 yX0_optionsOf wsX0_optionsOf) := goodIn_app (goodIn_of _ (by decide +kernel)) ggX0_rowThatMakesSure_X0_optionsOf
set_option maxRecDepth 20000 in
theorem ggX0_rowThatMakesSure_X0_option : GoodIn wsX0_rowThatMakesSure wsX0_option := goodIn_r _ [37, 38, 23, 24, 25, 58, 59, 60, 61, 62, 63] (by decide +kernel) (by decide +kernel)
set_option maxRecDepth 20000 in
theorem gX0_rowThatMakesSure_X0_option : GoodIn wsX0_rowThatMakesSure (wsV RX0 79 RX0 yX0_option wsX0_option) := goodIn_app (goodIn_of _ (by decide +kernel)) ggX0_rowThatMakesSure_X0_option
set_option maxRecDepth 20000 in
theorem ggX0_rowThatMakesSure_X0_isSureWayOnceMended : GoodIn wsX0_rowThatMakesSure wsX0_isSureWayOnceMended := goodIn_r _ [42, 30, 23, 24, 25, 43, 44, 45, 4, 46, 47, 48, 49, 50, 51, 52, 53, 54, 55, 56, 57, 6, 7, 8, 9, 10, 11, 12, 13, 14, 15, 16, 17, 18, 19, 20, 21, 22, 26, 27, 28, 29, 31, 32, 33, 58, 59, 60, 61, 62, 63, 64, 65, 66, 67, 68, 69] (by decide +kernel) (by decide +kernel)
set_option maxRecDepth 20000 in
theorem gX0_rowThatMakesSure_X0_isSureWayOnceMended : GoodIn wsX0_rowThatMakesSure (wsV RX0 141 RX0 yX0_isSureWayOnceMended wsX0_isSureWayOnceMended) := goodIn_app (goodIn_of _ (by decide +kernel)) ggX0_rowThatMakesSure_X0_isSureWayOnceMended
theorem dX0_rowThatMakesSure_0 : decode cX0_rowThatMakesSure 0 = .ok (.aload_n 0, 1) := by decide +kernel
theorem dX0_rowThatMakesSure_1 : decode cX0_rowThatMakesSure 1 = .ok (.iload_n 1, 1) := by decide +kernel
theorem dX0_rowThatMakesSure_2 : decode cX0_rowThatMakesSure 2 = .ok (.iload_n 2, 1) := by decide +kernel
theorem dX0_rowThatMakesSure_3 : decode cX0_rowThatMakesSure 3 = .ok (.invokevirtual 138, 3) := by decide +kernel
theorem dX0_rowThatMakesSure_6 : decode cX0_rowThatMakesSure 6 = .ok (.ifCond .eq 6, 3) := by decide +kernel
theorem dX0_rowThatMakesSure_9 : decode cX0_rowThatMakesSure 9 = .ok (.bipush (-5), 2) := by decide +kernel
theorem dX0_rowThatMakesSure_11 : decode cX0_rowThatMakesSure 11 = .ok (.ireturn, 1) := by decide +kernel
theorem dX0_rowThatMakesSure_12 : decode cX0_rowThatMakesSure 12 = .ok (.iconst 0, 1) := by decide +kernel
theorem dX0_rowThatMakesSure_13 : decode cX0_rowThatMakesSure 13 = .ok (.istore_n 3, 1) := by decide +kernel
theorem dX0_rowThatMakesSure_14 : decode cX0_rowThatMakesSure 14 = .ok (.iload_n 3, 1) := by decide +kernel
theorem dX0_rowThatMakesSure_15 : decode cX0_rowThatMakesSure 15 = .ok (.bipush 10, 2) := by decide +kernel
theorem dX0_rowThatMakesSure_17 : decode cX0_rowThatMakesSure 17 = .ok (.if_icmp .ge 52, 3) := by decide +kernel
theorem dX0_rowThatMakesSure_20 : decode cX0_rowThatMakesSure 20 = .ok (.iconst 0, 1) := by decide +kernel
theorem dX0_rowThatMakesSure_21 : decode cX0_rowThatMakesSure 21 = .ok (.istore 4, 2) := by decide +kernel
theorem dX0_rowThatMakesSure_23 : decode cX0_rowThatMakesSure 23 = .ok (.iload 4, 2) := by decide +kernel
theorem dX0_rowThatMakesSure_25 : decode cX0_rowThatMakesSure 25 = .ok (.aload_n 0, 1) := by decide +kernel
theorem dX0_rowThatMakesSure_26 : decode cX0_rowThatMakesSure 26 = .ok (.iload_n 3, 1) := by decide +kernel
theorem dX0_rowThatMakesSure_27 : decode cX0_rowThatMakesSure 27 = .ok (.invokevirtual 63, 3) := by decide +kernel
theorem dX0_rowThatMakesSure_30 : decode cX0_rowThatMakesSure 30 = .ok (.if_icmp .ge 33, 3) := by decide +kernel
theorem dX0_rowThatMakesSure_33 : decode cX0_rowThatMakesSure 33 = .ok (.aload_n 0, 1) := by decide +kernel
theorem dX0_rowThatMakesSure_34 : decode cX0_rowThatMakesSure 34 = .ok (.iload_n 3, 1) := by decide +kernel
theorem dX0_rowThatMakesSure_35 : decode cX0_rowThatMakesSure 35 = .ok (.iload 4, 2) := by decide +kernel
theorem dX0_rowThatMakesSure_37 : decode cX0_rowThatMakesSure 37 = .ok (.invokevirtual 79, 3) := by decide +kernel
theorem dX0_rowThatMakesSure_40 : decode cX0_rowThatMakesSure 40 = .ok (.istore 5, 2) := by decide +kernel
theorem dX0_rowThatMakesSure_42 : decode cX0_rowThatMakesSure 42 = .ok (.aload_n 0, 1) := by decide +kernel
theorem dX0_rowThatMakesSure_43 : decode cX0_rowThatMakesSure 43 = .ok (.iload_n 3, 1) := by decide +kernel
theorem dX0_rowThatMakesSure_44 : decode cX0_rowThatMakesSure 44 = .ok (.iload 5, 2) := by decide +kernel
theorem dX0_rowThatMakesSure_46 : decode cX0_rowThatMakesSure 46 = .ok (.iload_n 1, 1) := by decide +kernel
theorem dX0_rowThatMakesSure_47 : decode cX0_rowThatMakesSure 47 = .ok (.iload_n 2, 1) := by decide +kernel
theorem dX0_rowThatMakesSure_48 : decode cX0_rowThatMakesSure 48 = .ok (.invokevirtual 141, 3) := by decide +kernel
theorem dX0_rowThatMakesSure_51 : decode cX0_rowThatMakesSure 51 = .ok (.ifCond .eq 6, 3) := by decide +kernel
theorem dX0_rowThatMakesSure_54 : decode cX0_rowThatMakesSure 54 = .ok (.iload 5, 2) := by decide +kernel
theorem dX0_rowThatMakesSure_56 : decode cX0_rowThatMakesSure 56 = .ok (.ireturn, 1) := by decide +kernel
theorem dX0_rowThatMakesSure_57 : decode cX0_rowThatMakesSure 57 = .ok (.iinc 4 1, 3) := by decide +kernel
theorem dX0_rowThatMakesSure_60 : decode cX0_rowThatMakesSure 60 = .ok (.goto (-37), 3) := by decide +kernel
theorem dX0_rowThatMakesSure_63 : decode cX0_rowThatMakesSure 63 = .ok (.iinc 3 1, 3) := by decide +kernel
theorem dX0_rowThatMakesSure_66 : decode cX0_rowThatMakesSure 66 = .ok (.goto (-52), 3) := by decide +kernel
theorem dX0_rowThatMakesSure_69 : decode cX0_rowThatMakesSure 69 = .ok (.bipush (-5), 2) := by decide +kernel
theorem dX0_rowThatMakesSure_71 : decode cX0_rowThatMakesSure 71 = .ok (.ireturn, 1) := by decide +kernel
set_option maxRecDepth 20000 in
theorem ggX0_isSureWayOnceMended_X5_at : GoodIn wsX0_isSureWayOnceMended wsX5_at := goodIn_r _ [4] (by decide +kernel) (by decide +kernel)
set_option maxRecDepth 20000 in
theorem gX0_isSureWayOnceMended_X5_at_n66 : GoodIn wsX0_isSureWayOnceMended (wsX5_at) := ggX0_isSureWayOnceMended_X5_at
set_option maxRecDepth 20000 in
theorem ggX0_isSureWayOnceMended_X0_targetBit : GoodIn wsX0_isSureWayOnceMended wsX0_targetBit := goodIn_r _ [9, 10, 11, 12, 13, 14, 15, 16, 2, 3, 4, 17, 18, 45, 46, 47, 48, 49, 50, 51, 52, 53, 54, 55, 56] (by decide +kernel) (by decide +kernel)
set_option maxRecDepth 20000 in
theorem gX0_isSureWayOnceMended_X0_targetBit : GoodIn wsX0_isSureWayOnceMended (wsV RX0 70 RX0 yX0_targetBit wsX0_targetBit) := goodIn_app (goodIn_of _ (by decide +kernel)) ggX0_isSureWayOnceMended_X0_targetBit
set_option maxRecDepth 20000 in
theorem ggX0_isSureWayOnceMended_X5_put : GoodIn wsX0_isSureWayOnceMended wsX5_put := goodIn_r _ [20] (by decide +kernel) (by decide +kernel)
set_option maxRecDepth 20000 in
theorem gX0_isSureWayOnceMended_X5_put_n56 : GoodIn wsX0_isSureWayOnceMended (wsX5_put) := ggX0_isSureWayOnceMended_X5_put
set_option maxRecDepth 20000 in
theorem ggX0_isSureWayOnceMended_X0_keysSureToReach : GoodIn wsX0_isSureWayOnceMended wsX0_keysSureToReach := goodIn_r _ [24, 25, 26, 27, 8, 28, 29, 30, 31, 32, 33, 34, 35, 36, 37, 2, 3, 4, 38, 39, 40, 41, 1, 45, 46, 47, 48, 49, 50] (by decide +kernel) (by decide +kernel)
set_option maxRecDepth 20000 in
theorem gX0_isSureWayOnceMended_X0_keysSureToReach : GoodIn wsX0_isSureWayOnceMended (wsV RX0 124 RX0 yX0_keysSureToReach wsX0_keysSureToReach) := goodIn_app (goodIn_of _ (by decide +kernel)) ggX0_isSureWayOnceMended_X0_keysSureToReach
set_option maxRecDepth 20000 in
theorem ggX0_isSureWayOnceMended_X0_contains : GoodIn wsX0_isSureWayOnceMended wsX0_contains := goodIn_r _ [44] (by decide +kernel) (by decide +kernel)
set_option maxRecDepth 20000 in
theorem gX0_isSureWayOnceMended_X0_contains : GoodIn wsX0_isSureWayOnceMended (va_wsS RX0 117 yX0_contains wsX0_contains) := goodIn_app (goodIn_of _ (by decide +kernel)) ggX0_isSureWayOnceMended_X0_contains
theorem dX0_isSureWayOnceMended_0 : decode cX0_isSureWayOnceMended 0 = .ok (.aload_n 0, 1) := by decide +kernel
theorem dX0_isSureWayOnceMended_1 : decode cX0_isSureWayOnceMended 1 = .ok (.getfield 21, 3) := by decide +kernel
theorem dX0_isSureWayOnceMended_4 : decode cX0_isSureWayOnceMended 4 = .ok (.iload_n 1, 1) := by decide +kernel
theorem dX0_isSureWayOnceMended_5 : decode cX0_isSureWayOnceMended 5 = .ok (.invokestatic 66, 3) := by decide +kernel
theorem dX0_isSureWayOnceMended_8 : decode cX0_isSureWayOnceMended 8 = .ok (.istore 5, 2) := by decide +kernel
theorem dX0_isSureWayOnceMended_10 : decode cX0_isSureWayOnceMended 10 = .ok (.aload_n 0, 1) := by decide +kernel
theorem dX0_isSureWayOnceMended_11 : decode cX0_isSureWayOnceMended 11 = .ok (.getfield 21, 3) := by decide +kernel
theorem dX0_isSureWayOnceMended_14 : decode cX0_isSureWayOnceMended 14 = .ok (.iload_n 1, 1) := by decide +kernel
theorem dX0_isSureWayOnceMended_15 : decode cX0_isSureWayOnceMended 15 = .ok (.aload_n 0, 1) := by decide +kernel
theorem dX0_isSureWayOnceMended_16 : decode cX0_isSureWayOnceMended 16 = .ok (.iload_n 2, 1) := by decide +kernel
theorem dX0_isSureWayOnceMended_17 : decode cX0_isSureWayOnceMended 17 = .ok (.invokevirtual 70, 3) := by decide +kernel
theorem dX0_isSureWayOnceMended_20 : decode cX0_isSureWayOnceMended 20 = .ok (.invokestatic 56, 3) := by decide +kernel
theorem dX0_isSureWayOnceMended_23 : decode cX0_isSureWayOnceMended 23 = .ok (.aload_n 0, 1) := by decide +kernel
theorem dX0_isSureWayOnceMended_24 : decode cX0_isSureWayOnceMended 24 = .ok (.iload 4, 2) := by decide +kernel
theorem dX0_isSureWayOnceMended_26 : decode cX0_isSureWayOnceMended 26 = .ok (.invokevirtual 124, 3) := by decide +kernel
theorem dX0_isSureWayOnceMended_29 : decode cX0_isSureWayOnceMended 29 = .ok (.iload_n 3, 1) := by decide +kernel
theorem dX0_isSureWayOnceMended_30 : decode cX0_isSureWayOnceMended 30 = .ok (.invokestatic 117, 3) := by decide +kernel
theorem dX0_isSureWayOnceMended_33 : decode cX0_isSureWayOnceMended 33 = .ok (.istore 6, 2) := by decide +kernel
theorem dX0_isSureWayOnceMended_35 : decode cX0_isSureWayOnceMended 35 = .ok (.aload_n 0, 1) := by decide +kernel
theorem dX0_isSureWayOnceMended_36 : decode cX0_isSureWayOnceMended 36 = .ok (.getfield 21, 3) := by decide +kernel
theorem dX0_isSureWayOnceMended_39 : decode cX0_isSureWayOnceMended 39 = .ok (.iload_n 1, 1) := by decide +kernel
theorem dX0_isSureWayOnceMended_40 : decode cX0_isSureWayOnceMended 40 = .ok (.iload 5, 2) := by decide +kernel
theorem dX0_isSureWayOnceMended_42 : decode cX0_isSureWayOnceMended 42 = .ok (.invokestatic 56, 3) := by decide +kernel
theorem dX0_isSureWayOnceMended_45 : decode cX0_isSureWayOnceMended 45 = .ok (.iload 6, 2) := by decide +kernel
theorem dX0_isSureWayOnceMended_47 : decode cX0_isSureWayOnceMended 47 = .ok (.ireturn, 1) := by decide +kernel
set_option maxRecDepth 20000 in
theorem ggX1_init_X3_init : GoodIn wsX1_init wsX3_init := goodIn_r _ [9, 10, 2, 3, 11, 12, 13, 14, 15, 19, 20, 21, 22, 23, 24] (by decide +kernel) (by decide +kernel)
set_option maxRecDepth 20000 in
theorem gX1_init_X3_init_n17 : GoodIn wsX1_init (wsX3_init) := ggX1_init_X3_init
theorem dX1_init_0 : decode cX1_init 0 = .ok (.aload_n 0, 1) := by decide +kernel
theorem dX1_init_1 : decode cX1_init 1 = .ok (.invokespecial 3, 3) := by decide +kernel
theorem dX1_init_4 : decode cX1_init 4 = .ok (.aload_n 0, 1) := by decide +kernel
theorem dX1_init_5 : decode cX1_init 5 = .ok (.iconst 4, 1) := by decide +kernel
theorem dX1_init_6 : decode cX1_init 6 = .ok (.anewarray 9, 3) := by decide +kernel
theorem dX1_init_9 : decode cX1_init 9 = .ok (.putfield 11, 3) := by decide +kernel
theorem dX1_init_12 : decode cX1_init 12 = .ok (.iconst 0, 1) := by decide +kernel
theorem dX1_init_13 : decode cX1_init 13 = .ok (.istore_n 1, 1) := by decide +kernel
theorem dX1_init_14 : decode cX1_init 14 = .ok (.iload_n 1, 1) := by decide +kernel
theorem dX1_init_15 : decode cX1_init 15 = .ok (.aload_n 0, 1) := by decide +kernel
theorem dX1_init_16 : decode cX1_init 16 = .ok (.getfield 11, 3) := by decide +kernel
theorem dX1_init_19 : decode cX1_init 19 = .ok (.arraylength, 1) := by decide +kernel
theorem dX1_init_20 : decode cX1_init 20 = .ok (.if_icmp .ge 22, 3) := by decide +kernel
theorem dX1_init_23 : decode cX1_init 23 = .ok (.aload_n 0, 1) := by decide +kernel
theorem dX1_init_24 : decode cX1_init 24 = .ok (.getfield 11, 3) := by decide +kernel
theorem dX1_init_27 : decode cX1_init 27 = .ok (.iload_n 1, 1) := by decide +kernel
theorem dX1_init_28 : decode cX1_init 28 = .ok (.new 9, 3) := by decide +kernel
theorem dX1_init_31 : decode cX1_init 31 = .ok (.dup, 1) := by decide +kernel
theorem dX1_init_32 : decode cX1_init 32 = .ok (.invokespecial 17, 3) := by decide +kernel
theorem dX1_init_35 : decode cX1_init 35 = .ok (.aastore, 1) := by decide +kernel
theorem dX1_init_36 : decode cX1_init 36 = .ok (.iinc 1 1, 3) := by decide +kernel
theorem dX1_init_39 : decode cX1_init 39 = .ok (.goto (-25), 3) := by decide +kernel
theorem dX1_init_42 : decode cX1_init 42 = .ok (.return_, 1) := by decide +kernel
theorem dX1_size_0 : decode cX1_size 0 = .ok (.aload_n 0, 1) := by decide +kernel
theorem dX1_size_1 : decode cX1_size 1 = .ok (.getfield 18, 3) := by decide +kernel
theorem dX1_size_4 : decode cX1_size 4 = .ok (.ireturn, 1) := by decide +kernel
set_option maxRecDepth 20000 in
theorem ggX1_remember_X1_slotAt : GoodIn wsX1_remember wsX1_slotAt := goodIn_r _ [11, 12, 32, 33, 34] (by decide +kernel) (by decide +kernel)
set_option maxRecDepth 20000 in
theorem gX1_remember_X1_slotAt : GoodIn wsX1_remember (wsV RX1 25 RX1 yX1_slotAt wsX1_slotAt) := goodIn_app (goodIn_of _ (by decide +kernel)) ggX1_remember_X1_slotAt
set_option maxRecDepth 20000 in
theorem ggX1_remember_X3_copyFrom : GoodIn wsX1_remember wsX3_copyFrom := goodIn_r _ [17, 18, 19, 20, 21, 22, 23, 24, 25, 26, 27, 4, 5, 6, 28, 29, 30, 31, 35, 36, 37, 38, 39, 40] (by decide +kernel) (by decide +kernel)
set_option maxRecDepth 20000 in
theorem gX1_remember_X3_copyFrom : GoodIn wsX1_remember (wsV RX1 29 RX3 yX3_copyFrom wsX3_copyFrom) := goodIn_app (goodIn_of _ (by decide +kernel)) ggX1_remember_X3_copyFrom
theorem dX1_remember_0 : decode cX1_remember 0 = .ok (.aload_n 0, 1) := by decide +kernel
theorem dX1_remember_1 : decode cX1_remember 1 = .ok (.aload_n 0, 1) := by decide +kernel
theorem dX1_remember_2 : decode cX1_remember 2 = .ok (.getfield 22, 3) := by decide +kernel
theorem dX1_remember_5 : decode cX1_remember 5 = .ok (.invokevirtual 25, 3) := by decide +kernel
theorem dX1_remember_8 : decode cX1_remember 8 = .ok (.astore_n 2, 1) := by decide +kernel
theorem dX1_remember_9 : decode cX1_remember 9 = .ok (.aload_n 2, 1) := by decide +kernel
theorem dX1_remember_10 : decode cX1_remember 10 = .ok (.ifnull 34, 3) := by decide +kernel
theorem dX1_remember_13 : decode cX1_remember 13 = .ok (.aload_n 2, 1) := by decide +kernel
theorem dX1_remember_14 : decode cX1_remember 14 = .ok (.aload_n 1, 1) := by decide +kernel
theorem dX1_remember_15 : decode cX1_remember 15 = .ok (.invokevirtual 29, 3) := by decide +kernel
theorem dX1_remember_18 : decode cX1_remember 18 = .ok (.aload_n 0, 1) := by decide +kernel
theorem dX1_remember_19 : decode cX1_remember 19 = .ok (.aload_n 0, 1) := by decide +kernel
theorem dX1_remember_20 : decode cX1_remember 20 = .ok (.getfield 22, 3) := by decide +kernel
theorem dX1_remember_23 : decode cX1_remember 23 = .ok (.iconst 1, 1) := by decide +kernel
theorem dX1_remember_24 : decode cX1_remember 24 = .ok (.iadd, 1) := by decide +kernel
theorem dX1_remember_25 : decode cX1_remember 25 = .ok (.iconst 4, 1) := by decide +kernel
theorem dX1_remember_26 : decode cX1_remember 26 = .ok (.irem, 1) := by decide +kernel
theorem dX1_remember_27 : decode cX1_remember 27 = .ok (.putfield 22, 3) := by decide +kernel
theorem dX1_remember_30 : decode cX1_remember 30 = .ok (.aload_n 0, 1) := by decide +kernel
theorem dX1_remember_31 : decode cX1_remember 31 = .ok (.aload_n 0, 1) := by decide +kernel
theorem dX1_remember_32 : decode cX1_remember 32 = .ok (.getfield 18, 3) := by decide +kernel
theorem dX1_remember_35 : decode cX1_remember 35 = .ok (.iconst 1, 1) := by decide +kernel
theorem dX1_remember_36 : decode cX1_remember 36 = .ok (.iadd, 1) := by decide +kernel
theorem dX1_remember_37 : decode cX1_remember 37 = .ok (.iconst 4, 1) := by decide +kernel
theorem dX1_remember_38 : decode cX1_remember 38 = .ok (.invokestatic 33, 3) := by decide +kernel
theorem dX1_remember_41 : decode cX1_remember 41 = .ok (.putfield 18, 3) := by decide +kernel
theorem dX1_remember_44 : decode cX1_remember 44 = .ok (.return_, 1) := by decide +kernel
set_option maxRecDepth 20000 in
theorem ggX1_takeBack_X1_slotAt : GoodIn wsX1_takeBack wsX1_slotAt := goodIn_r _ [7, 8, 31, 32, 33] (by decide +kernel) (by decide +kernel)
set_option maxRecDepth 20000 in
theorem gX1_takeBack_X1_slotAt : GoodIn wsX1_takeBack (wsV RX1 25 RX1 yX1_slotAt wsX1_slotAt) := goodIn_app (goodIn_of _ (by decide +kernel)) ggX1_takeBack_X1_slotAt
set_option maxRecDepth 20000 in
theorem ggX1_takeBack_X3_copyFrom : GoodIn wsX1_takeBack wsX3_copyFrom := goodIn_r _ [13, 14, 15, 16, 17, 18, 19, 20, 21, 22, 23, 24, 25, 26, 27, 28, 29, 30, 34, 35, 36, 37, 38, 39] (by decide +kernel) (by decide +kernel)
set_option maxRecDepth 20000 in
theorem gX1_takeBack_X3_copyFrom : GoodIn wsX1_takeBack (wsV RX1 29 RX3 yX3_copyFrom wsX3_copyFrom) := goodIn_app (goodIn_of _ (by decide +kernel)) ggX1_takeBack_X3_copyFrom
theorem dX1_takeBack_0 : decode cX1_takeBack 0 = .ok (.aload_n 0, 1) := by decide +kernel
theorem dX1_takeBack_1 : decode cX1_takeBack 1 = .ok (.getfield 22, 3) := by decide +kernel
theorem dX1_takeBack_4 : decode cX1_takeBack 4 = .ok (.iconst 4, 1) := by decide +kernel
theorem dX1_takeBack_5 : decode cX1_takeBack 5 = .ok (.iadd, 1) := by decide +kernel
theorem dX1_takeBack_6 : decode cX1_takeBack 6 = .ok (.iconst 1, 1) := by decide +kernel
theorem dX1_takeBack_7 : decode cX1_takeBack 7 = .ok (.isub, 1) := by decide +kernel
theorem dX1_takeBack_8 : decode cX1_takeBack 8 = .ok (.iconst 4, 1) := by decide +kernel
theorem dX1_takeBack_9 : decode cX1_takeBack 9 = .ok (.irem, 1) := by decide +kernel
theorem dX1_takeBack_10 : decode cX1_takeBack 10 = .ok (.istore_n 2, 1) := by decide +kernel
theorem dX1_takeBack_11 : decode cX1_takeBack 11 = .ok (.aload_n 0, 1) := by decide +kernel
theorem dX1_takeBack_12 : decode cX1_takeBack 12 = .ok (.iload_n 2, 1) := by decide +kernel
theorem dX1_takeBack_13 : decode cX1_takeBack 13 = .ok (.invokevirtual 25, 3) := by decide +kernel
theorem dX1_takeBack_16 : decode cX1_takeBack 16 = .ok (.astore_n 3, 1) := by decide +kernel
theorem dX1_takeBack_17 : decode cX1_takeBack 17 = .ok (.aload_n 0, 1) := by decide +kernel
theorem dX1_takeBack_18 : decode cX1_takeBack 18 = .ok (.getfield 18, 3) := by decide +kernel
theorem dX1_takeBack_21 : decode cX1_takeBack 21 = .ok (.iconst 1, 1) := by decide +kernel
theorem dX1_takeBack_22 : decode cX1_takeBack 22 = .ok (.if_icmp .lt 7, 3) := by decide +kernel
theorem dX1_takeBack_25 : decode cX1_takeBack 25 = .ok (.aload_n 3, 1) := by decide +kernel
theorem dX1_takeBack_26 : decode cX1_takeBack 26 = .ok (.ifnonnull 5, 3) := by decide +kernel
theorem dX1_takeBack_29 : decode cX1_takeBack 29 = .ok (.iconst 0, 1) := by decide +kernel
theorem dX1_takeBack_30 : decode cX1_takeBack 30 = .ok (.ireturn, 1) := by decide +kernel
theorem dX1_takeBack_31 : decode cX1_takeBack 31 = .ok (.aload_n 1, 1) := by decide +kernel
theorem dX1_takeBack_32 : decode cX1_takeBack 32 = .ok (.aload_n 3, 1) := by decide +kernel
theorem dX1_takeBack_33 : decode cX1_takeBack 33 = .ok (.invokevirtual 29, 3) := by decide +kernel
theorem dX1_takeBack_36 : decode cX1_takeBack 36 = .ok (.aload_n 0, 1) := by decide +kernel
theorem dX1_takeBack_37 : decode cX1_takeBack 37 = .ok (.iload_n 2, 1) := by decide +kernel
theorem dX1_takeBack_38 : decode cX1_takeBack 38 = .ok (.putfield 22, 3) := by decide +kernel
theorem dX1_takeBack_41 : decode cX1_takeBack 41 = .ok (.aload_n 0, 1) := by decide +kernel
theorem dX1_takeBack_42 : decode cX1_takeBack 42 = .ok (.dup, 1) := by decide +kernel
theorem dX1_takeBack_43 : decode cX1_takeBack 43 = .ok (.getfield 18, 3) := by decide +kernel
theorem dX1_takeBack_46 : decode cX1_takeBack 46 = .ok (.iconst 1, 1) := by decide +kernel
theorem dX1_takeBack_47 : decode cX1_takeBack 47 = .ok (.isub, 1) := by decide +kernel
theorem dX1_takeBack_48 : decode cX1_takeBack 48 = .ok (.putfield 18, 3) := by decide +kernel
theorem dX1_takeBack_51 : decode cX1_takeBack 51 = .ok (.iconst 1, 1) := by decide +kernel
theorem dX1_takeBack_52 : decode cX1_takeBack 52 = .ok (.ireturn, 1) := by decide +kernel
theorem dX1_slotAt_0 : decode cX1_slotAt 0 = .ok (.iload_n 1, 1) := by decide +kernel
theorem dX1_slotAt_1 : decode cX1_slotAt 1 = .ok (.ifCond .lt 21, 3) := by decide +kernel
theorem dX1_slotAt_4 : decode cX1_slotAt 4 = .ok (.iload_n 1, 1) := by decide +kernel
theorem dX1_slotAt_5 : decode cX1_slotAt 5 = .ok (.aload_n 0, 1) := by decide +kernel
theorem dX1_slotAt_6 : decode cX1_slotAt 6 = .ok (.getfield 11, 3) := by decide +kernel
theorem dX1_slotAt_9 : decode cX1_slotAt 9 = .ok (.arraylength, 1) := by decide +kernel
theorem dX1_slotAt_10 : decode cX1_slotAt 10 = .ok (.if_icmp .ge 12, 3) := by decide +kernel
theorem dX1_slotAt_13 : decode cX1_slotAt 13 = .ok (.aload_n 0, 1) := by decide +kernel
theorem dX1_slotAt_14 : decode cX1_slotAt 14 = .ok (.getfield 11, 3) := by decide +kernel
theorem dX1_slotAt_17 : decode cX1_slotAt 17 = .ok (.iload_n 1, 1) := by decide +kernel
theorem dX1_slotAt_18 : decode cX1_slotAt 18 = .ok (.aaload, 1) := by decide +kernel
theorem dX1_slotAt_19 : decode cX1_slotAt 19 = .ok (.goto 4, 3) := by decide +kernel
theorem dX1_slotAt_22 : decode cX1_slotAt 22 = .ok (.aconst_null, 1) := by decide +kernel
theorem dX1_slotAt_23 : decode cX1_slotAt 23 = .ok (.areturn, 1) := by decide +kernel
set_option maxRecDepth 20000 in
theorem ggX2_init_X3_init : GoodIn wsX2_init wsX3_init := goodIn_r _ [10, 11, 2, 3, 12, 13, 14, 15, 16, 17, 18, 19, 20, 21, 22] (by decide +kernel) (by decide +kernel)
set_option maxRecDepth 20000 in
theorem gX2_init_X3_init_n11 : GoodIn wsX2_init (wsX3_init) := ggX2_init_X3_init
theorem dX2_init_0 : decode cX2_init 0 = .ok (.aload_n 0, 1) := by decide +kernel
theorem dX2_init_1 : decode cX2_init 1 = .ok (.invokespecial 3, 3) := by decide +kernel
theorem dX2_init_4 : decode cX2_init 4 = .ok (.aload_n 0, 1) := by decide +kernel
theorem dX2_init_5 : decode cX2_init 5 = .ok (.new 9, 3) := by decide +kernel
theorem dX2_init_8 : decode cX2_init 8 = .ok (.dup, 1) := by decide +kernel
theorem dX2_init_9 : decode cX2_init 9 = .ok (.invokespecial 11, 3) := by decide +kernel
theorem dX2_init_12 : decode cX2_init 12 = .ok (.putfield 12, 3) := by decide +kernel
theorem dX2_init_15 : decode cX2_init 15 = .ok (.aload_n 0, 1) := by decide +kernel
theorem dX2_init_16 : decode cX2_init 16 = .ok (.aload_n 1, 1) := by decide +kernel
theorem dX2_init_17 : decode cX2_init 17 = .ok (.putfield 18, 3) := by decide +kernel
theorem dX2_init_20 : decode cX2_init 20 = .ok (.return_, 1) := by decide +kernel
theorem dX2_position_0 : decode cX2_position 0 = .ok (.aload_n 0, 1) := by decide +kernel
theorem dX2_position_1 : decode cX2_position 1 = .ok (.getfield 22, 3) := by decide +kernel
theorem dX2_position_4 : decode cX2_position 4 = .ok (.ireturn, 1) := by decide +kernel
theorem dX2_rowsRead_0 : decode cX2_rowsRead 0 = .ok (.aload_n 0, 1) := by decide +kernel
theorem dX2_rowsRead_1 : decode cX2_rowsRead 1 = .ok (.getfield 12, 3) := by decide +kernel
theorem dX2_rowsRead_4 : decode cX2_rowsRead 4 = .ok (.areturn, 1) := by decide +kernel
set_option maxRecDepth 20000 in
theorem ggX2_readAll_X3_empty : GoodIn wsX2_readAll wsX3_empty := goodIn_r _ [8, 9, 56, 57, 58, 59, 60, 61] (by decide +kernel) (by decide +kernel)
set_option maxRecDepth 20000 in
theorem gX2_readAll_X3_empty : GoodIn wsX2_readAll (wsV RX2 26 RX3 yX3_empty wsX3_empty) := goodIn_app (goodIn_of _ (by decide +kernel)) ggX2_readAll_X3_empty
set_option maxRecDepth 20000 in
theorem ggX2_readAll_X2_readOne : GoodIn wsX2_readAll wsX2_readOne := goodIn_r _ [14, 2, 15, 16, 17, 13, 18, 3, 1, 19, 20, 21, 22, 23, 24, 25, 26, 27, 28, 29, 30, 31, 32, 33, 34, 35, 36, 7, 37, 38, 9, 39, 40, 41, 42, 43, 44, 45, 46, 47, 48, 53, 54, 55, 62, 63, 56, 57, 58, 59, 60, 61] (by decide +kernel) (by decide +kernel)
set_option maxRecDepth 20000 in
theorem gX2_readAll_X2_readOne : GoodIn wsX2_readAll (wsV RX2 29 RX2 yX2_readOne wsX2_readOne) := goodIn_app (goodIn_of _ (by decide +kernel)) ggX2_readAll_X2_readOne
set_option maxRecDepth 20000 in
theorem ggX2_readAll_X2_take : GoodIn wsX2_readAll wsX2_take := goodIn_r _ [29, 15, 16, 17, 13, 18, 3, 1, 19, 20, 21, 22, 23, 24, 25, 53, 54, 55, 62, 63] (by decide +kernel) (by decide +kernel)
set_option maxRecDepth 20000 in
theorem gX2_readAll_X2_take : GoodIn wsX2_readAll (wsV RX2 33 RX2 yX2_take wsX2_take) := goodIn_app (goodIn_of _ (by decide +kernel)) ggX2_readAll_X2_take
set_option maxRecDepth 20000 in
theorem ggX2_readAll_X4_length : GoodIn wsX2_readAll wsX4_length := goodIn_r _ [52, 24, 62, 63] (by decide +kernel) (by decide +kernel)
set_option maxRecDepth 20000 in
theorem gX2_readAll_X4_length : GoodIn wsX2_readAll (wsV RX2 37 RX4 yX4_length wsX4_length) := goodIn_app (goodIn_of _ (by decide +kernel)) ggX2_readAll_X4_length
theorem dX2_readAll_0 : decode cX2_readAll 0 = .ok (.aload_n 0, 1) := by decide +kernel
theorem dX2_readAll_1 : decode cX2_readAll 1 = .ok (.iconst 0, 1) := by decide +kernel
theorem dX2_readAll_2 : decode cX2_readAll 2 = .ok (.putfield 22, 3) := by decide +kernel
theorem dX2_readAll_5 : decode cX2_readAll 5 = .ok (.aload_n 0, 1) := by decide +kernel
theorem dX2_readAll_6 : decode cX2_readAll 6 = .ok (.getfield 12, 3) := by decide +kernel
theorem dX2_readAll_9 : decode cX2_readAll 9 = .ok (.invokevirtual 26, 3) := by decide +kernel
theorem dX2_readAll_12 : decode cX2_readAll 12 = .ok (.iconst 0, 1) := by decide +kernel
theorem dX2_readAll_13 : decode cX2_readAll 13 = .ok (.istore_n 1, 1) := by decide +kernel
theorem dX2_readAll_14 : decode cX2_readAll 14 = .ok (.iload_n 1, 1) := by decide +kernel
theorem dX2_readAll_15 : decode cX2_readAll 15 = .ok (.bipush 20, 2) := by decide +kernel
theorem dX2_readAll_17 : decode cX2_readAll 17 = .ok (.if_icmp .ge 47, 3) := by decide +kernel
theorem dX2_readAll_20 : decode cX2_readAll 20 = .ok (.aload_n 0, 1) := by decide +kernel
theorem dX2_readAll_21 : decode cX2_readAll 21 = .ok (.invokevirtual 29, 3) := by decide +kernel
theorem dX2_readAll_24 : decode cX2_readAll 24 = .ok (.ifCond .ne 5, 3) := by decide +kernel
theorem dX2_readAll_27 : decode cX2_readAll 27 = .ok (.iconst 0, 1) := by decide +kernel
theorem dX2_readAll_28 : decode cX2_readAll 28 = .ok (.ireturn, 1) := by decide +kernel
theorem dX2_readAll_29 : decode cX2_readAll 29 = .ok (.aload_n 0, 1) := by decide +kernel
theorem dX2_readAll_30 : decode cX2_readAll 30 = .ok (.bipush 44, 2) := by decide +kernel
theorem dX2_readAll_32 : decode cX2_readAll 32 = .ok (.invokevirtual 33, 3) := by decide +kernel
theorem dX2_readAll_35 : decode cX2_readAll 35 = .ok (.ifCond .ne 23, 3) := by decide +kernel
theorem dX2_readAll_38 : decode cX2_readAll 38 = .ok (.aload_n 0, 1) := by decide +kernel
theorem dX2_readAll_39 : decode cX2_readAll 39 = .ok (.getfield 22, 3) := by decide +kernel
theorem dX2_readAll_42 : decode cX2_readAll 42 = .ok (.aload_n 0, 1) := by decide +kernel
theorem dX2_readAll_43 : decode cX2_readAll 43 = .ok (.getfield 18, 3) := by decide +kernel
theorem dX2_readAll_46 : decode cX2_readAll 46 = .ok (.invokevirtual 37, 3) := by decide +kernel
theorem dX2_readAll_49 : decode cX2_readAll 49 = .ok (.if_icmp .ne 7, 3) := by decide +kernel
theorem dX2_readAll_52 : decode cX2_readAll 52 = .ok (.iconst 1, 1) := by decide +kernel
theorem dX2_readAll_53 : decode cX2_readAll 53 = .ok (.goto 4, 3) := by decide +kernel
theorem dX2_readAll_56 : decode cX2_readAll 56 = .ok (.iconst 0, 1) := by decide +kernel
theorem dX2_readAll_57 : decode cX2_readAll 57 = .ok (.ireturn, 1) := by decide +kernel
theorem dX2_readAll_58 : decode cX2_readAll 58 = .ok (.iinc 1 1, 3) := by decide +kernel
theorem dX2_readAll_61 : decode cX2_readAll 61 = .ok (.goto (-47), 3) := by decide +kernel
theorem dX2_readAll_64 : decode cX2_readAll 64 = .ok (.iconst 0, 1) := by decide +kernel
theorem dX2_readAll_65 : decode cX2_readAll 65 = .ok (.ireturn, 1) := by decide +kernel
set_option maxRecDepth 20000 in
theorem ggX2_readOne_X2_takeBetween : GoodIn wsX2_readOne wsX2_takeBetween := goodIn_r _ [6, 7, 8, 9, 10, 11, 12, 13, 14, 15, 41, 42, 43, 44, 45] (by decide +kernel) (by decide +kernel)
set_option maxRecDepth 20000 in
theorem gX2_readOne_X2_takeBetween : GoodIn wsX2_readOne (wsV RX2 43 RX2 yX2_takeBetween wsX2_takeBetween) := goodIn_app (goodIn_of _ (by decide +kernel)) ggX2_readOne_X2_takeBetween
set_option maxRecDepth 20000 in
theorem ggX2_readOne_X2_take : GoodIn wsX2_readOne wsX2_take := goodIn_r _ [19, 2, 3, 4, 5, 6, 7, 8, 9, 10, 11, 12, 13, 14, 15, 41, 42, 43, 44, 45] (by decide +kernel) (by decide +kernel)
set_option maxRecDepth 20000 in
theorem gX2_readOne_X2_take : GoodIn wsX2_readOne (wsV RX2 33 RX2 yX2_take wsX2_take) := goodIn_app (goodIn_of _ (by decide +kernel)) ggX2_readOne_X2_take
set_option maxRecDepth 20000 in
theorem ggX2_readOne_X2_takeWeight : GoodIn wsX2_readOne wsX2_takeWeight := goodIn_r _ [23, 2, 3, 4, 5, 6, 7, 8, 9, 10, 11, 12, 13, 14, 15, 41, 42, 43, 44, 45] (by decide +kernel) (by decide +kernel)
set_option maxRecDepth 20000 in
theorem gX2_readOne_X2_takeWeight : GoodIn wsX2_readOne (wsV RX2 47 RX2 yX2_takeWeight wsX2_takeWeight) := goodIn_app (goodIn_of _ (by decide +kernel)) ggX2_readOne_X2_takeWeight
set_option maxRecDepth 20000 in
theorem ggX2_readOne_X3_append : GoodIn wsX2_readOne wsX3_append := goodIn_r _ [28, 29, 30, 31, 32, 33, 34, 35, 36, 27, 37, 38, 39, 40, 46, 47, 48, 49, 50, 51] (by decide +kernel) (by decide +kernel)
set_option maxRecDepth 20000 in
theorem gX2_readOne_X3_append : GoodIn wsX2_readOne (wsV RX2 50 RX3 yX3_append wsX3_append) := goodIn_app (goodIn_of _ (by decide +kernel)) ggX2_readOne_X3_append
theorem dX2_readOne_0 : decode cX2_readOne 0 = .ok (.aload_n 0, 1) := by decide +kernel
theorem dX2_readOne_1 : decode cX2_readOne 1 = .ok (.bipush 48, 2) := by decide +kernel
theorem dX2_readOne_3 : decode cX2_readOne 3 = .ok (.bipush 57, 2) := by decide +kernel
theorem dX2_readOne_5 : decode cX2_readOne 5 = .ok (.invokevirtual 43, 3) := by decide +kernel
theorem dX2_readOne_8 : decode cX2_readOne 8 = .ok (.istore_n 1, 1) := by decide +kernel
theorem dX2_readOne_9 : decode cX2_readOne 9 = .ok (.iload_n 1, 1) := by decide +kernel
theorem dX2_readOne_10 : decode cX2_readOne 10 = .ok (.bipush (-5), 2) := by decide +kernel
theorem dX2_readOne_12 : decode cX2_readOne 12 = .ok (.if_icmp .eq 12, 3) := by decide +kernel
theorem dX2_readOne_15 : decode cX2_readOne 15 = .ok (.aload_n 0, 1) := by decide +kernel
theorem dX2_readOne_16 : decode cX2_readOne 16 = .ok (.bipush 61, 2) := by decide +kernel
theorem dX2_readOne_18 : decode cX2_readOne 18 = .ok (.invokevirtual 33, 3) := by decide +kernel
theorem dX2_readOne_21 : decode cX2_readOne 21 = .ok (.ifCond .ne 5, 3) := by decide +kernel
theorem dX2_readOne_24 : decode cX2_readOne 24 = .ok (.iconst 0, 1) := by decide +kernel
theorem dX2_readOne_25 : decode cX2_readOne 25 = .ok (.ireturn, 1) := by decide +kernel
theorem dX2_readOne_26 : decode cX2_readOne 26 = .ok (.aload_n 0, 1) := by decide +kernel
theorem dX2_readOne_27 : decode cX2_readOne 27 = .ok (.bipush 97, 2) := by decide +kernel
theorem dX2_readOne_29 : decode cX2_readOne 29 = .ok (.bipush 104, 2) := by decide +kernel
theorem dX2_readOne_31 : decode cX2_readOne 31 = .ok (.invokevirtual 43, 3) := by decide +kernel
theorem dX2_readOne_34 : decode cX2_readOne 34 = .ok (.istore_n 2, 1) := by decide +kernel
theorem dX2_readOne_35 : decode cX2_readOne 35 = .ok (.iload_n 2, 1) := by decide +kernel
theorem dX2_readOne_36 : decode cX2_readOne 36 = .ok (.bipush (-5), 2) := by decide +kernel
theorem dX2_readOne_38 : decode cX2_readOne 38 = .ok (.if_icmp .ne 5, 3) := by decide +kernel
theorem dX2_readOne_41 : decode cX2_readOne 41 = .ok (.iconst 0, 1) := by decide +kernel
theorem dX2_readOne_42 : decode cX2_readOne 42 = .ok (.ireturn, 1) := by decide +kernel
theorem dX2_readOne_43 : decode cX2_readOne 43 = .ok (.aload_n 0, 1) := by decide +kernel
theorem dX2_readOne_44 : decode cX2_readOne 44 = .ok (.invokevirtual 47, 3) := by decide +kernel
theorem dX2_readOne_47 : decode cX2_readOne 47 = .ok (.istore_n 3, 1) := by decide +kernel
theorem dX2_readOne_48 : decode cX2_readOne 48 = .ok (.bipush (-5), 2) := by decide +kernel
theorem dX2_readOne_50 : decode cX2_readOne 50 = .ok (.istore 4, 2) := by decide +kernel
theorem dX2_readOne_52 : decode cX2_readOne 52 = .ok (.aload_n 0, 1) := by decide +kernel
theorem dX2_readOne_53 : decode cX2_readOne 53 = .ok (.bipush 62, 2) := by decide +kernel
theorem dX2_readOne_55 : decode cX2_readOne 55 = .ok (.invokevirtual 33, 3) := by decide +kernel
theorem dX2_readOne_58 : decode cX2_readOne 58 = .ok (.ifCond .eq 29, 3) := by decide +kernel
theorem dX2_readOne_61 : decode cX2_readOne 61 = .ok (.aload_n 0, 1) := by decide +kernel
theorem dX2_readOne_62 : decode cX2_readOne 62 = .ok (.bipush 48, 2) := by decide +kernel
theorem dX2_readOne_64 : decode cX2_readOne 64 = .ok (.bipush 57, 2) := by decide +kernel
theorem dX2_readOne_66 : decode cX2_readOne 66 = .ok (.invokevirtual 43, 3) := by decide +kernel
theorem dX2_readOne_69 : decode cX2_readOne 69 = .ok (.istore 5, 2) := by decide +kernel
theorem dX2_readOne_71 : decode cX2_readOne 71 = .ok (.iload 5, 2) := by decide +kernel
theorem dX2_readOne_73 : decode cX2_readOne 73 = .ok (.bipush (-5), 2) := by decide +kernel
theorem dX2_readOne_75 : decode cX2_readOne 75 = .ok (.if_icmp .ne 5, 3) := by decide +kernel
theorem dX2_readOne_78 : decode cX2_readOne 78 = .ok (.iconst 0, 1) := by decide +kernel
theorem dX2_readOne_79 : decode cX2_readOne 79 = .ok (.ireturn, 1) := by decide +kernel
theorem dX2_readOne_80 : decode cX2_readOne 80 = .ok (.iload 5, 2) := by decide +kernel
theorem dX2_readOne_82 : decode cX2_readOne 82 = .ok (.bipush 48, 2) := by decide +kernel
theorem dX2_readOne_84 : decode cX2_readOne 84 = .ok (.isub, 1) := by decide +kernel
theorem dX2_readOne_85 : decode cX2_readOne 85 = .ok (.istore 4, 2) := by decide +kernel
theorem dX2_readOne_87 : decode cX2_readOne 87 = .ok (.aload_n 0, 1) := by decide +kernel
theorem dX2_readOne_88 : decode cX2_readOne 88 = .ok (.getfield 12, 3) := by decide +kernel
theorem dX2_readOne_91 : decode cX2_readOne 91 = .ok (.iload_n 1, 1) := by decide +kernel
theorem dX2_readOne_92 : decode cX2_readOne 92 = .ok (.bipush 48, 2) := by decide +kernel
theorem dX2_readOne_94 : decode cX2_readOne 94 = .ok (.isub, 1) := by decide +kernel
theorem dX2_readOne_95 : decode cX2_readOne 95 = .ok (.iload_n 2, 1) := by decide +kernel
theorem dX2_readOne_96 : decode cX2_readOne 96 = .ok (.iload_n 3, 1) := by decide +kernel
theorem dX2_readOne_97 : decode cX2_readOne 97 = .ok (.iload 4, 2) := by decide +kernel
theorem dX2_readOne_99 : decode cX2_readOne 99 = .ok (.invokevirtual 50, 3) := by decide +kernel
theorem dX2_readOne_102 : decode cX2_readOne 102 = .ok (.iconst 1, 1) := by decide +kernel
theorem dX2_readOne_103 : decode cX2_readOne 103 = .ok (.ireturn, 1) := by decide +kernel
set_option maxRecDepth 20000 in
theorem ggX2_takeWeight_X2_takeBetween : GoodIn wsX2_takeWeight wsX2_takeBetween := goodIn_r _ [5, 6, 7, 8, 9, 10, 11, 12, 13, 14, 15, 16, 17, 18, 19] (by decide +kernel) (by decide +kernel)
set_option maxRecDepth 20000 in
theorem gX2_takeWeight_X2_takeBetween : GoodIn wsX2_takeWeight (wsV RX2 43 RX2 yX2_takeBetween wsX2_takeBetween) := goodIn_app (goodIn_of _ (by decide +kernel)) ggX2_takeWeight_X2_takeBetween
theorem dX2_takeWeight_0 : decode cX2_takeWeight 0 = .ok (.aload_n 0, 1) := by decide +kernel
theorem dX2_takeWeight_1 : decode cX2_takeWeight 1 = .ok (.bipush 49, 2) := by decide +kernel
theorem dX2_takeWeight_3 : decode cX2_takeWeight 3 = .ok (.bipush 57, 2) := by decide +kernel
theorem dX2_takeWeight_5 : decode cX2_takeWeight 5 = .ok (.invokevirtual 43, 3) := by decide +kernel
theorem dX2_takeWeight_8 : decode cX2_takeWeight 8 = .ok (.istore_n 1, 1) := by decide +kernel
theorem dX2_takeWeight_9 : decode cX2_takeWeight 9 = .ok (.iload_n 1, 1) := by decide +kernel
theorem dX2_takeWeight_10 : decode cX2_takeWeight 10 = .ok (.bipush (-5), 2) := by decide +kernel
theorem dX2_takeWeight_12 : decode cX2_takeWeight 12 = .ok (.if_icmp .ne 5, 3) := by decide +kernel
theorem dX2_takeWeight_15 : decode cX2_takeWeight 15 = .ok (.iconst 0, 1) := by decide +kernel
theorem dX2_takeWeight_16 : decode cX2_takeWeight 16 = .ok (.ireturn, 1) := by decide +kernel
theorem dX2_takeWeight_17 : decode cX2_takeWeight 17 = .ok (.aload_n 0, 1) := by decide +kernel
theorem dX2_takeWeight_18 : decode cX2_takeWeight 18 = .ok (.bipush 48, 2) := by decide +kernel
theorem dX2_takeWeight_20 : decode cX2_takeWeight 20 = .ok (.bipush 57, 2) := by decide +kernel
theorem dX2_takeWeight_22 : decode cX2_takeWeight 22 = .ok (.invokevirtual 43, 3) := by decide +kernel
theorem dX2_takeWeight_25 : decode cX2_takeWeight 25 = .ok (.istore_n 2, 1) := by decide +kernel
theorem dX2_takeWeight_26 : decode cX2_takeWeight 26 = .ok (.iload_n 2, 1) := by decide +kernel
