set_option maxRecDepth 20000 in
theorem gX5_key_X5_isKey : GoodIn wsX5_key (va_wsS RX5 55 yX5_isKey wsX5_isKey) := goodIn_app (goodIn_of _ (by decide +kernel)) ggX5_key_X5_isKey
set_option maxRecDepth 20000 in
theorem ggX5_key_X3_rowsWith : GoodIn wsX5_key wsX3_rowsWith := goodIn_r _ [10, 11, 12, 13, 14, 9, 15, 16, 17, 4, 18, 99, 100, 101, 102, 103, 104] (by decide +kernel) (by decide +kernel)
set_option maxRecDepth 20000 in
theorem gX5_key_X3_rowsWith : GoodIn wsX5_key (wsV RX5 102 RX3 yX3_rowsWith wsX3_rowsWith) := goodIn_app (goodIn_of _ (by decide +kernel)) ggX5_key_X3_rowsWith
set_option maxRecDepth 20000 in
theorem ggX5_key_X5_choicesNow : GoodIn wsX5_key wsX5_choicesNow := goodIn_r _ [22, 23, 24, 25, 26, 27, 28, 29, 30, 31, 32, 33, 34, 35, 36, 37, 38, 39, 40, 9, 41, 11, 42, 43, 44, 45, 46, 47, 48, 49, 50, 51, 17, 4, 18, 12, 13, 14, 15, 16, 52, 53, 54, 55, 56, 57, 58, 59, 60, 61, 62, 63, 64, 65, 66, 67, 68, 69, 70, 71, 72, 73, 74, 75, 76, 3, 5, 77, 78, 79, 80, 92, 93, 94, 95, 96, 97, 98, 105, 106, 107, 108, 109, 110, 99, 100, 101, 102, 103, 104] (by decide +kernel) (by decide +kernel)
set_option maxRecDepth 20000 in
theorem gX5_key_X5_choicesNow : GoodIn wsX5_key (wsV RX5 122 RX5 yX5_choicesNow wsX5_choicesNow) := goodIn_app (goodIn_of _ (by decide +kernel)) ggX5_key_X5_choicesNow
set_option maxRecDepth 20000 in
theorem ggX5_key_X0_optionsOf : GoodIn wsX5_key wsX0_optionsOf := goodIn_r _ [65, 29, 17, 4, 18, 105, 106, 107, 108, 109, 110] (by decide +kernel) (by decide +kernel)
set_option maxRecDepth 20000 in
theorem gX5_key_X0_optionsOf : GoodIn wsX5_key (wsV RX5 164 RX0 yX0_optionsOf wsX0_optionsOf) := goodIn_app (goodIn_of _ (by decide +kernel)) ggX5_key_X0_optionsOf
set_option maxRecDepth 20000 in
theorem ggX5_key_X3_lightestWith : GoodIn wsX5_key wsX3_lightestWith := goodIn_r _ [85, 11, 12, 13, 14, 9, 15, 16, 17, 4, 18, 47, 48, 49, 50, 51, 99, 100, 101, 102, 103, 104] (by decide +kernel) (by decide +kernel)
set_option maxRecDepth 20000 in
theorem gX5_key_X3_lightestWith : GoodIn wsX5_key (wsV RX5 167 RX3 yX3_lightestWith wsX3_lightestWith) := goodIn_app (goodIn_of _ (by decide +kernel)) ggX5_key_X3_lightestWith
set_option maxRecDepth 20000 in
theorem ggX5_key_X3_heaviestWith : GoodIn wsX5_key wsX3_heaviestWith := goodIn_r _ [55, 11, 12, 13, 14, 9, 15, 16, 17, 4, 18, 47, 48, 49, 50, 51, 99, 100, 101, 102, 103, 104] (by decide +kernel) (by decide +kernel)
set_option maxRecDepth 20000 in
theorem gX5_key_X3_heaviestWith : GoodIn wsX5_key (wsV RX5 170 RX3 yX3_heaviestWith wsX3_heaviestWith) := goodIn_app (goodIn_of _ (by decide +kernel)) ggX5_key_X3_heaviestWith
set_option maxRecDepth 20000 in
theorem ggX5_key_X3_rowsPointingTo : GoodIn wsX5_key wsX3_rowsPointingTo := goodIn_r _ [90, 11, 91, 73, 74, 9, 75, 76, 17, 4, 18, 99, 100, 101, 102, 103, 104] (by decide +kernel) (by decide +kernel)
set_option maxRecDepth 20000 in
theorem gX5_key_X3_rowsPointingTo : GoodIn wsX5_key (wsV RX5 173 RX3 yX3_rowsPointingTo wsX3_rowsPointingTo) := goodIn_app (goodIn_of _ (by decide +kernel)) ggX5_key_X3_rowsPointingTo
theorem dX5_key_0 : decode cX5_key 0 = .ok (.iload_n 1, 1) := by decide +kernel
theorem dX5_key_1 : decode cX5_key 1 = .ok (.invokestatic 55, 3) := by decide +kernel
theorem dX5_key_4 : decode cX5_key 4 = .ok (.ifCond .ne 5, 3) := by decide +kernel
theorem dX5_key_7 : decode cX5_key 7 = .ok (.iconst (-1), 1) := by decide +kernel
theorem dX5_key_8 : decode cX5_key 8 = .ok (.ireturn, 1) := by decide +kernel
theorem dX5_key_9 : decode cX5_key 9 = .ok (.iload_n 2, 1) := by decide +kernel
theorem dX5_key_10 : decode cX5_key 10 = .ok (.tableswitch 79 0 4 #[34, 43, 52, 61, 70], 34) := by decide +kernel
theorem dX5_key_44 : decode cX5_key 44 = .ok (.aload_n 0, 1) := by decide +kernel
theorem dX5_key_45 : decode cX5_key 45 = .ok (.getfield 10, 3) := by decide +kernel
theorem dX5_key_48 : decode cX5_key 48 = .ok (.iload_n 1, 1) := by decide +kernel
theorem dX5_key_49 : decode cX5_key 49 = .ok (.invokevirtual 102, 3) := by decide +kernel
theorem dX5_key_52 : decode cX5_key 52 = .ok (.ireturn, 1) := by decide +kernel
theorem dX5_key_53 : decode cX5_key 53 = .ok (.aload_n 0, 1) := by decide +kernel
theorem dX5_key_54 : decode cX5_key 54 = .ok (.invokevirtual 122, 3) := by decide +kernel
theorem dX5_key_57 : decode cX5_key 57 = .ok (.iload_n 1, 1) := by decide +kernel
theorem dX5_key_58 : decode cX5_key 58 = .ok (.invokevirtual 164, 3) := by decide +kernel
theorem dX5_key_61 : decode cX5_key 61 = .ok (.ireturn, 1) := by decide +kernel
theorem dX5_key_62 : decode cX5_key 62 = .ok (.aload_n 0, 1) := by decide +kernel
theorem dX5_key_63 : decode cX5_key 63 = .ok (.getfield 10, 3) := by decide +kernel
theorem dX5_key_66 : decode cX5_key 66 = .ok (.iload_n 1, 1) := by decide +kernel
theorem dX5_key_67 : decode cX5_key 67 = .ok (.invokevirtual 167, 3) := by decide +kernel
theorem dX5_key_70 : decode cX5_key 70 = .ok (.ireturn, 1) := by decide +kernel
theorem dX5_key_71 : decode cX5_key 71 = .ok (.aload_n 0, 1) := by decide +kernel
theorem dX5_key_72 : decode cX5_key 72 = .ok (.getfield 10, 3) := by decide +kernel
theorem dX5_key_75 : decode cX5_key 75 = .ok (.iload_n 1, 1) := by decide +kernel
theorem dX5_key_76 : decode cX5_key 76 = .ok (.invokevirtual 170, 3) := by decide +kernel
theorem dX5_key_79 : decode cX5_key 79 = .ok (.ireturn, 1) := by decide +kernel
theorem dX5_key_80 : decode cX5_key 80 = .ok (.aload_n 0, 1) := by decide +kernel
theorem dX5_key_81 : decode cX5_key 81 = .ok (.getfield 10, 3) := by decide +kernel
theorem dX5_key_84 : decode cX5_key 84 = .ok (.iload_n 1, 1) := by decide +kernel
theorem dX5_key_85 : decode cX5_key 85 = .ok (.invokevirtual 173, 3) := by decide +kernel
theorem dX5_key_88 : decode cX5_key 88 = .ok (.ireturn, 1) := by decide +kernel
theorem dX5_key_89 : decode cX5_key 89 = .ok (.bipush (-2), 2) := by decide +kernel
theorem dX5_key_91 : decode cX5_key 91 = .ok (.ireturn, 1) := by decide +kernel
set_option maxRecDepth 20000 in
theorem ggX5_value_X5_isValue : GoodIn wsX5_value wsX5_isValue := goodIn_r _ [4] (by decide +kernel) (by decide +kernel)
set_option maxRecDepth 20000 in
theorem gX5_value_X5_isValue : GoodIn wsX5_value (va_wsS RX5 59 yX5_isValue wsX5_isValue) := goodIn_app (goodIn_of _ (by decide +kernel)) ggX5_value_X5_isValue
set_option maxRecDepth 20000 in
theorem ggX5_value_X5_choicesNow : GoodIn wsX5_value wsX5_choicesNow := goodIn_r _ [8, 9, 10, 11, 12, 13, 14, 15, 16, 17, 18, 19, 20, 21, 22, 23, 24, 25, 26, 27, 28, 29, 30, 31, 32, 33, 34, 35, 36, 37, 38, 39, 40, 3, 41, 42, 43, 44, 45, 46, 47, 48, 49, 50, 51, 52, 53, 54, 55, 56, 57, 58, 59, 60, 61, 62, 63, 64, 65, 66, 67, 68, 69, 70, 71, 72, 73, 74, 75, 76, 77, 110, 111, 112, 113, 114, 115, 116, 117, 118, 119, 120, 121, 122, 123, 124, 125, 126, 127, 128] (by decide +kernel) (by decide +kernel)
set_option maxRecDepth 20000 in
theorem gX5_value_X5_choicesNow : GoodIn wsX5_value (wsV RX5 122 RX5 yX5_choicesNow wsX5_choicesNow) := goodIn_app (goodIn_of _ (by decide +kernel)) ggX5_value_X5_choicesNow
set_option maxRecDepth 20000 in
theorem ggX5_value_X0_fewestKeptWith : GoodIn wsX5_value wsX0_fewestKeptWith := goodIn_r _ [81, 74, 75, 76, 13, 77, 57, 58, 59, 60, 15, 40, 3, 41, 82, 83, 84, 85, 17, 86, 87, 88, 89, 56, 90, 91, 92, 27, 93, 94, 117, 118, 119, 120, 121, 122, 123, 124, 125, 126, 127, 128] (by decide +kernel) (by decide +kernel)
set_option maxRecDepth 20000 in
theorem gX5_value_X0_fewestKeptWith : GoodIn wsX5_value (wsV RX5 176 RX0 yX0_fewestKeptWith wsX0_fewestKeptWith) := goodIn_app (goodIn_of _ (by decide +kernel)) ggX5_value_X0_fewestKeptWith
set_option maxRecDepth 20000 in
theorem ggX5_value_X5_oneIf : GoodIn wsX5_value wsX5_oneIf := goodIn_r _ [97] (by decide +kernel) (by decide +kernel)
set_option maxRecDepth 20000 in
theorem gX5_value_X5_oneIf : GoodIn wsX5_value (va_wsS RX5 157 yX5_oneIf wsX5_oneIf) := goodIn_app (goodIn_of _ (by decide +kernel)) ggX5_value_X5_oneIf
set_option maxRecDepth 20000 in
theorem ggX5_value_X0_mostKeptWith : GoodIn wsX5_value wsX0_mostKeptWith := goodIn_r _ [101, 82, 83, 84, 13, 85, 17, 57, 58, 59, 60, 15, 40, 3, 41, 86, 87, 88, 89, 56, 90, 91, 92, 27, 93, 94, 117, 118, 119, 120, 121, 122, 123, 124, 125, 126, 127, 128] (by decide +kernel) (by decide +kernel)
set_option maxRecDepth 20000 in
theorem gX5_value_X0_mostKeptWith : GoodIn wsX5_value (wsV RX5 179 RX0 yX0_mostKeptWith wsX0_mostKeptWith) := goodIn_app (goodIn_of _ (by decide +kernel)) ggX5_value_X0_mostKeptWith
set_option maxRecDepth 20000 in
theorem ggX5_value_X0_mendings : GoodIn wsX5_value wsX0_mendings := goodIn_r _ [105, 18, 117, 118, 119, 120, 121, 122] (by decide +kernel) (by decide +kernel)
set_option maxRecDepth 20000 in
theorem gX5_value_X0_mendings : GoodIn wsX5_value (wsV RX5 126 RX0 yX0_mendings wsX0_mendings) := goodIn_app (goodIn_of _ (by decide +kernel)) ggX5_value_X0_mendings
set_option maxRecDepth 20000 in
theorem ggX5_value_X0_mendingsWithout : GoodIn wsX5_value wsX0_mendingsWithout := goodIn_r _ [109, 74, 75, 76, 13, 77, 57, 58, 59, 60, 15, 40, 3, 41, 82, 83, 84, 85, 17, 86, 87, 88, 89, 56, 90, 91, 92, 27, 93, 94, 117, 118, 119, 120, 121, 122, 123, 124, 125, 126, 127, 128] (by decide +kernel) (by decide +kernel)
set_option maxRecDepth 20000 in
theorem gX5_value_X0_mendingsWithout : GoodIn wsX5_value (wsV RX5 182 RX0 yX0_mendingsWithout wsX0_mendingsWithout) := goodIn_app (goodIn_of _ (by decide +kernel)) ggX5_value_X0_mendingsWithout
theorem dX5_value_0 : decode cX5_value 0 = .ok (.iload_n 1, 1) := by decide +kernel
theorem dX5_value_1 : decode cX5_value 1 = .ok (.invokestatic 59, 3) := by decide +kernel
theorem dX5_value_4 : decode cX5_value 4 = .ok (.ifCond .ne 6, 3) := by decide +kernel
theorem dX5_value_7 : decode cX5_value 7 = .ok (.bipush (-2), 2) := by decide +kernel
theorem dX5_value_9 : decode cX5_value 9 = .ok (.ireturn, 1) := by decide +kernel
theorem dX5_value_10 : decode cX5_value 10 = .ok (.aload_n 0, 1) := by decide +kernel
theorem dX5_value_11 : decode cX5_value 11 = .ok (.invokevirtual 122, 3) := by decide +kernel
theorem dX5_value_14 : decode cX5_value 14 = .ok (.astore_n 3, 1) := by decide +kernel
theorem dX5_value_15 : decode cX5_value 15 = .ok (.iload_n 2, 1) := by decide +kernel
theorem dX5_value_16 : decode cX5_value 16 = .ok (.tableswitch 93 0 4 #[36, 53, 70, 81, 87], 36) := by decide +kernel
theorem dX5_value_52 : decode cX5_value 52 = .ok (.aload_n 3, 1) := by decide +kernel
theorem dX5_value_53 : decode cX5_value 53 = .ok (.iload_n 1, 1) := by decide +kernel
theorem dX5_value_54 : decode cX5_value 54 = .ok (.invokevirtual 176, 3) := by decide +kernel
theorem dX5_value_57 : decode cX5_value 57 = .ok (.ifCond .le 7, 3) := by decide +kernel
theorem dX5_value_60 : decode cX5_value 60 = .ok (.iconst 1, 1) := by decide +kernel
theorem dX5_value_61 : decode cX5_value 61 = .ok (.goto 4, 3) := by decide +kernel
theorem dX5_value_64 : decode cX5_value 64 = .ok (.iconst 0, 1) := by decide +kernel
theorem dX5_value_65 : decode cX5_value 65 = .ok (.invokestatic 157, 3) := by decide +kernel
theorem dX5_value_68 : decode cX5_value 68 = .ok (.ireturn, 1) := by decide +kernel
theorem dX5_value_69 : decode cX5_value 69 = .ok (.aload_n 3, 1) := by decide +kernel
theorem dX5_value_70 : decode cX5_value 70 = .ok (.iload_n 1, 1) := by decide +kernel
theorem dX5_value_71 : decode cX5_value 71 = .ok (.invokevirtual 179, 3) := by decide +kernel
theorem dX5_value_74 : decode cX5_value 74 = .ok (.ifCond .le 7, 3) := by decide +kernel
theorem dX5_value_77 : decode cX5_value 77 = .ok (.iconst 1, 1) := by decide +kernel
theorem dX5_value_78 : decode cX5_value 78 = .ok (.goto 4, 3) := by decide +kernel
theorem dX5_value_81 : decode cX5_value 81 = .ok (.iconst 0, 1) := by decide +kernel
theorem dX5_value_82 : decode cX5_value 82 = .ok (.invokestatic 157, 3) := by decide +kernel
theorem dX5_value_85 : decode cX5_value 85 = .ok (.ireturn, 1) := by decide +kernel
theorem dX5_value_86 : decode cX5_value 86 = .ok (.aload_n 3, 1) := by decide +kernel
theorem dX5_value_87 : decode cX5_value 87 = .ok (.invokevirtual 126, 3) := by decide +kernel
theorem dX5_value_90 : decode cX5_value 90 = .ok (.aload_n 3, 1) := by decide +kernel
theorem dX5_value_91 : decode cX5_value 91 = .ok (.iload_n 1, 1) := by decide +kernel
theorem dX5_value_92 : decode cX5_value 92 = .ok (.invokevirtual 182, 3) := by decide +kernel
theorem dX5_value_95 : decode cX5_value 95 = .ok (.isub, 1) := by decide +kernel
theorem dX5_value_96 : decode cX5_value 96 = .ok (.ireturn, 1) := by decide +kernel
theorem dX5_value_97 : decode cX5_value 97 = .ok (.aload_n 3, 1) := by decide +kernel
theorem dX5_value_98 : decode cX5_value 98 = .ok (.iload_n 1, 1) := by decide +kernel
theorem dX5_value_99 : decode cX5_value 99 = .ok (.invokevirtual 176, 3) := by decide +kernel
theorem dX5_value_102 : decode cX5_value 102 = .ok (.ireturn, 1) := by decide +kernel
theorem dX5_value_103 : decode cX5_value 103 = .ok (.aload_n 3, 1) := by decide +kernel
theorem dX5_value_104 : decode cX5_value 104 = .ok (.iload_n 1, 1) := by decide +kernel
theorem dX5_value_105 : decode cX5_value 105 = .ok (.invokevirtual 179, 3) := by decide +kernel
theorem dX5_value_108 : decode cX5_value 108 = .ok (.ireturn, 1) := by decide +kernel
theorem dX5_value_109 : decode cX5_value 109 = .ok (.bipush (-2), 2) := by decide +kernel
theorem dX5_value_111 : decode cX5_value 111 = .ok (.ireturn, 1) := by decide +kernel
set_option maxRecDepth 20000 in
theorem ggX5_way_X5_isKey : GoodIn wsX5_way wsX5_isKey := goodIn_r _ [4] (by decide +kernel) (by decide +kernel)
set_option maxRecDepth 20000 in
theorem gX5_way_X5_isKey : GoodIn wsX5_way (va_wsS RX5 55 yX5_isKey wsX5_isKey) := goodIn_app (goodIn_of _ (by decide +kernel)) ggX5_way_X5_isKey
set_option maxRecDepth 20000 in
theorem ggX5_way_X5_choicesNow : GoodIn wsX5_way wsX5_choicesNow := goodIn_r _ [8, 9, 10, 11, 12, 13, 14, 15, 16, 17, 18, 19, 20, 21, 22, 23, 24, 25, 26, 27, 28, 29, 30, 31, 32, 33, 34, 35, 36, 37, 38, 39, 40, 3, 41, 42, 43, 44, 45, 46, 47, 48, 49, 50, 51, 52, 53, 54, 55, 56, 57, 58, 59, 60, 61, 62, 63, 64, 65, 66, 67, 68, 69, 70, 71, 2, 4, 72, 73, 74, 75, 126, 127, 128, 129, 130, 131, 132, 133, 134, 135, 136, 137, 138, 139, 140, 141, 142, 143, 144] (by decide +kernel) (by decide +kernel)
set_option maxRecDepth 20000 in
theorem gX5_way_X5_choicesNow : GoodIn wsX5_way (wsV RX5 122 RX5 yX5_choicesNow wsX5_choicesNow) := goodIn_app (goodIn_of _ (by decide +kernel)) ggX5_way_X5_choicesNow
set_option maxRecDepth 20000 in
theorem ggX5_way_X0_isSureWay : GoodIn wsX5_way wsX0_isSureWay := goodIn_r _ [79, 80, 81, 82, 13, 83, 84, 85, 86, 87, 72, 73, 74, 75, 57, 58, 59, 60, 15, 40, 3, 41, 88, 89, 90, 91, 16, 92, 93, 94, 133, 134, 135, 136, 137, 138] (by decide +kernel) (by decide +kernel)
set_option maxRecDepth 20000 in
theorem gX5_way_X0_isSureWay : GoodIn wsX5_way (wsV RX5 185 RX0 yX0_isSureWay wsX0_isSureWay) := goodIn_app (goodIn_of _ (by decide +kernel)) ggX5_way_X0_isSureWay
set_option maxRecDepth 20000 in
theorem ggX5_way_X5_oneIf : GoodIn wsX5_way wsX5_oneIf := goodIn_r _ [97] (by decide +kernel) (by decide +kernel)
set_option maxRecDepth 20000 in
theorem gX5_way_X5_oneIf : GoodIn wsX5_way (va_wsS RX5 157 yX5_oneIf wsX5_oneIf) := goodIn_app (goodIn_of _ (by decide +kernel)) ggX5_way_X5_oneIf
set_option maxRecDepth 20000 in
theorem ggX5_way_X0_fewestPointers : GoodIn wsX5_way wsX0_fewestPointers := goodIn_r _ [101, 84, 85, 86, 13, 87, 72, 73, 74, 75, 57, 58, 59, 60, 15, 40, 3, 41, 92, 93, 94, 102, 103, 104, 105, 16, 133, 134, 135, 136, 137, 138] (by decide +kernel) (by decide +kernel)
set_option maxRecDepth 20000 in
theorem gX5_way_X0_fewestPointers : GoodIn wsX5_way (wsV RX5 189 RX0 yX0_fewestPointers wsX0_fewestPointers) := goodIn_app (goodIn_of _ (by decide +kernel)) ggX5_way_X0_fewestPointers
set_option maxRecDepth 20000 in
theorem ggX5_way_X0_mendingsWithWay : GoodIn wsX5_way wsX0_mendingsWithWay := goodIn_r _ [109, 18, 110, 111, 112, 13, 113, 17, 72, 73, 74, 75, 57, 58, 59, 60, 15, 40, 3, 41, 114, 115, 116, 117, 19, 118, 119, 120, 121, 56, 67, 68, 69, 27, 70, 71, 133, 134, 135, 136, 137, 138, 139, 140, 141, 142, 143, 144] (by decide +kernel) (by decide +kernel)
set_option maxRecDepth 20000 in
theorem gX5_way_X0_mendingsWithWay : GoodIn wsX5_way (wsV RX5 192 RX0 yX0_mendingsWithWay wsX0_mendingsWithWay) := goodIn_app (goodIn_of _ (by decide +kernel)) ggX5_way_X0_mendingsWithWay
set_option maxRecDepth 20000 in
theorem ggX5_way_X0_firstMendingWithoutWay : GoodIn wsX5_way wsX0_firstMendingWithoutWay := goodIn_r _ [125, 18, 110, 111, 112, 13, 113, 17, 72, 73, 74, 75, 57, 58, 59, 60, 15, 40, 3, 41, 114, 115, 116, 117, 19, 118, 119, 120, 121, 56, 67, 68, 69, 27, 70, 71, 133, 134, 135, 136, 137, 138, 139, 140, 141, 142, 143, 144] (by decide +kernel) (by decide +kernel)
set_option maxRecDepth 20000 in
theorem gX5_way_X0_firstMendingWithoutWay : GoodIn wsX5_way (wsV RX5 195 RX0 yX0_firstMendingWithoutWay wsX0_firstMendingWithoutWay) := goodIn_app (goodIn_of _ (by decide +kernel)) ggX5_way_X0_firstMendingWithoutWay
theorem dX5_way_0 : decode cX5_way 0 = .ok (.iload_n 1, 1) := by decide +kernel
theorem dX5_way_1 : decode cX5_way 1 = .ok (.invokestatic 55, 3) := by decide +kernel
theorem dX5_way_4 : decode cX5_way 4 = .ok (.ifCond .eq 10, 3) := by decide +kernel
theorem dX5_way_7 : decode cX5_way 7 = .ok (.iload_n 2, 1) := by decide +kernel
theorem dX5_way_8 : decode cX5_way 8 = .ok (.invokestatic 55, 3) := by decide +kernel
theorem dX5_way_11 : decode cX5_way 11 = .ok (.ifCond .ne 5, 3) := by decide +kernel
theorem dX5_way_14 : decode cX5_way 14 = .ok (.iconst (-1), 1) := by decide +kernel
theorem dX5_way_15 : decode cX5_way 15 = .ok (.ireturn, 1) := by decide +kernel
theorem dX5_way_16 : decode cX5_way 16 = .ok (.aload_n 0, 1) := by decide +kernel
theorem dX5_way_17 : decode cX5_way 17 = .ok (.invokevirtual 122, 3) := by decide +kernel
theorem dX5_way_20 : decode cX5_way 20 = .ok (.astore 4, 2) := by decide +kernel
theorem dX5_way_22 : decode cX5_way 22 = .ok (.iload_n 3, 1) := by decide +kernel
theorem dX5_way_23 : decode cX5_way 23 = .ok (.tableswitch 89 0 4 #[33, 44, 65, 73, 81], 33) := by decide +kernel
theorem dX5_way_56 : decode cX5_way 56 = .ok (.aload 4, 2) := by decide +kernel
theorem dX5_way_58 : decode cX5_way 58 = .ok (.iload_n 1, 1) := by decide +kernel
theorem dX5_way_59 : decode cX5_way 59 = .ok (.iload_n 2, 1) := by decide +kernel
theorem dX5_way_60 : decode cX5_way 60 = .ok (.invokevirtual 185, 3) := by decide +kernel
theorem dX5_way_63 : decode cX5_way 63 = .ok (.invokestatic 157, 3) := by decide +kernel
theorem dX5_way_66 : decode cX5_way 66 = .ok (.ireturn, 1) := by decide +kernel
theorem dX5_way_67 : decode cX5_way 67 = .ok (.aload 4, 2) := by decide +kernel
theorem dX5_way_69 : decode cX5_way 69 = .ok (.iload_n 1, 1) := by decide +kernel
theorem dX5_way_70 : decode cX5_way 70 = .ok (.iload_n 2, 1) := by decide +kernel
theorem dX5_way_71 : decode cX5_way 71 = .ok (.invokevirtual 189, 3) := by decide +kernel
theorem dX5_way_74 : decode cX5_way 74 = .ok (.bipush (-5), 2) := by decide +kernel
theorem dX5_way_76 : decode cX5_way 76 = .ok (.if_icmp .eq 7, 3) := by decide +kernel
theorem dX5_way_79 : decode cX5_way 79 = .ok (.iconst 1, 1) := by decide +kernel
theorem dX5_way_80 : decode cX5_way 80 = .ok (.goto 4, 3) := by decide +kernel
theorem dX5_way_83 : decode cX5_way 83 = .ok (.iconst 0, 1) := by decide +kernel
theorem dX5_way_84 : decode cX5_way 84 = .ok (.invokestatic 157, 3) := by decide +kernel
theorem dX5_way_87 : decode cX5_way 87 = .ok (.ireturn, 1) := by decide +kernel
theorem dX5_way_88 : decode cX5_way 88 = .ok (.aload 4, 2) := by decide +kernel
theorem dX5_way_90 : decode cX5_way 90 = .ok (.iload_n 1, 1) := by decide +kernel
theorem dX5_way_91 : decode cX5_way 91 = .ok (.iload_n 2, 1) := by decide +kernel
theorem dX5_way_92 : decode cX5_way 92 = .ok (.invokevirtual 192, 3) := by decide +kernel
theorem dX5_way_95 : decode cX5_way 95 = .ok (.ireturn, 1) := by decide +kernel
theorem dX5_way_96 : decode cX5_way 96 = .ok (.aload 4, 2) := by decide +kernel
theorem dX5_way_98 : decode cX5_way 98 = .ok (.iload_n 1, 1) := by decide +kernel
theorem dX5_way_99 : decode cX5_way 99 = .ok (.iload_n 2, 1) := by decide +kernel
theorem dX5_way_100 : decode cX5_way 100 = .ok (.invokevirtual 195, 3) := by decide +kernel
theorem dX5_way_103 : decode cX5_way 103 = .ok (.ireturn, 1) := by decide +kernel
theorem dX5_way_104 : decode cX5_way 104 = .ok (.aload 4, 2) := by decide +kernel
theorem dX5_way_106 : decode cX5_way 106 = .ok (.iload_n 1, 1) := by decide +kernel
theorem dX5_way_107 : decode cX5_way 107 = .ok (.iload_n 2, 1) := by decide +kernel
theorem dX5_way_108 : decode cX5_way 108 = .ok (.invokevirtual 189, 3) := by decide +kernel
theorem dX5_way_111 : decode cX5_way 111 = .ok (.ireturn, 1) := by decide +kernel
theorem dX5_way_112 : decode cX5_way 112 = .ok (.bipush (-2), 2) := by decide +kernel
theorem dX5_way_114 : decode cX5_way 114 = .ok (.ireturn, 1) := by decide +kernel
set_option maxRecDepth 20000 in
theorem ggX5_kept_X5_isKey : GoodIn wsX5_kept wsX5_isKey := goodIn_r _ [4] (by decide +kernel) (by decide +kernel)
set_option maxRecDepth 20000 in
theorem gX5_kept_X5_isKey : GoodIn wsX5_kept (va_wsS RX5 55 yX5_isKey wsX5_isKey) := goodIn_app (goodIn_of _ (by decide +kernel)) ggX5_kept_X5_isKey
set_option maxRecDepth 20000 in
theorem ggX5_kept_X5_choicesNow : GoodIn wsX5_kept wsX5_choicesNow := goodIn_r _ [8, 9, 10, 11, 12, 13, 14, 15, 16, 17, 18, 19, 20, 21, 22, 23, 24, 25, 26, 27, 28, 29, 30, 31, 32, 33, 34, 35, 36, 37, 38, 39, 40, 3, 41, 42, 43, 44, 45, 46, 47, 48, 49, 50, 51, 52, 53, 54, 55, 56, 57, 58, 59, 60, 61, 62, 63, 64, 65, 66, 67, 68, 69, 70, 71, 2, 4, 72, 73, 74, 75, 88, 89, 90, 91, 92, 93, 94, 95, 96, 97, 98, 99, 100, 101, 102, 103, 104, 105, 106] (by decide +kernel) (by decide +kernel)
set_option maxRecDepth 20000 in
theorem gX5_kept_X5_choicesNow : GoodIn wsX5_kept (wsV RX5 122 RX5 yX5_choicesNow wsX5_choicesNow) := goodIn_app (goodIn_of _ (by decide +kernel)) ggX5_kept_X5_choicesNow
set_option maxRecDepth 20000 in
theorem ggX5_kept_X0_mendings : GoodIn wsX5_kept wsX0_mendings := goodIn_r _ [79, 18, 95, 96, 97, 98, 99, 100] (by decide +kernel) (by decide +kernel)
set_option maxRecDepth 20000 in
theorem gX5_kept_X0_mendings : GoodIn wsX5_kept (wsV RX5 126 RX0 yX0_mendings wsX0_mendings) := goodIn_app (goodIn_of _ (by decide +kernel)) ggX5_kept_X0_mendings
set_option maxRecDepth 20000 in
theorem ggX5_kept_X0_rowKeptBy : GoodIn wsX5_kept wsX0_rowKeptBy := goodIn_r _ [83, 19, 57, 58, 59, 13, 60, 15, 40, 3, 41, 84, 85, 86, 87, 56, 95, 96, 97, 98, 99, 100] (by decide +kernel) (by decide +kernel)
set_option maxRecDepth 20000 in
theorem gX5_kept_X0_rowKeptBy : GoodIn wsX5_kept (wsV RX5 198 RX0 yX0_rowKeptBy wsX0_rowKeptBy) := goodIn_app (goodIn_of _ (by decide +kernel)) ggX5_kept_X0_rowKeptBy
theorem dX5_kept_0 : decode cX5_kept 0 = .ok (.iload_n 2, 1) := by decide +kernel
theorem dX5_kept_1 : decode cX5_kept 1 = .ok (.invokestatic 55, 3) := by decide +kernel
theorem dX5_kept_4 : decode cX5_kept 4 = .ok (.ifCond .ne 5, 3) := by decide +kernel
theorem dX5_kept_7 : decode cX5_kept 7 = .ok (.iconst (-1), 1) := by decide +kernel
theorem dX5_kept_8 : decode cX5_kept 8 = .ok (.ireturn, 1) := by decide +kernel
theorem dX5_kept_9 : decode cX5_kept 9 = .ok (.aload_n 0, 1) := by decide +kernel
theorem dX5_kept_10 : decode cX5_kept 10 = .ok (.invokevirtual 122, 3) := by decide +kernel
theorem dX5_kept_13 : decode cX5_kept 13 = .ok (.astore_n 3, 1) := by decide +kernel
theorem dX5_kept_14 : decode cX5_kept 14 = .ok (.iload_n 1, 1) := by decide +kernel
theorem dX5_kept_15 : decode cX5_kept 15 = .ok (.ifCond .lt 11, 3) := by decide +kernel
theorem dX5_kept_18 : decode cX5_kept 18 = .ok (.iload_n 1, 1) := by decide +kernel
theorem dX5_kept_19 : decode cX5_kept 19 = .ok (.aload_n 3, 1) := by decide +kernel
theorem dX5_kept_20 : decode cX5_kept 20 = .ok (.invokevirtual 126, 3) := by decide +kernel
theorem dX5_kept_23 : decode cX5_kept 23 = .ok (.if_icmp .lt 6, 3) := by decide +kernel
theorem dX5_kept_26 : decode cX5_kept 26 = .ok (.bipush (-2), 2) := by decide +kernel
theorem dX5_kept_28 : decode cX5_kept 28 = .ok (.ireturn, 1) := by decide +kernel
theorem dX5_kept_29 : decode cX5_kept 29 = .ok (.aload_n 3, 1) := by decide +kernel
theorem dX5_kept_30 : decode cX5_kept 30 = .ok (.iload_n 1, 1) := by decide +kernel
theorem dX5_kept_31 : decode cX5_kept 31 = .ok (.iload_n 2, 1) := by decide +kernel
theorem dX5_kept_32 : decode cX5_kept 32 = .ok (.invokevirtual 198, 3) := by decide +kernel
theorem dX5_kept_35 : decode cX5_kept 35 = .ok (.ireturn, 1) := by decide +kernel
set_option maxRecDepth 20000 in
theorem ggX5_sum_X5_choicesNow : GoodIn wsX5_sum wsX5_choicesNow := goodIn_r _ [5, 6, 7, 8, 9, 10, 11, 12, 13, 14, 15, 16, 17, 18, 19, 20, 21, 22, 23, 24, 25, 26, 27, 28, 29, 30, 31, 32, 33, 34, 35, 36, 37, 4, 38, 39, 40, 41, 42, 43, 44, 45, 46, 47, 48, 49, 50, 51, 52, 53, 54, 55, 56, 57, 58, 59, 60, 61, 62, 63, 64, 65, 66, 67, 68, 69, 70, 71, 72, 73, 74, 104, 105, 106, 107, 108, 109, 110, 111, 112, 113, 114, 115, 116, 117, 118, 119, 120, 121, 122] (by decide +kernel) (by decide +kernel)
set_option maxRecDepth 20000 in
theorem gX5_sum_X5_choicesNow : GoodIn wsX5_sum (wsV RX5 122 RX5 yX5_choicesNow wsX5_choicesNow) := goodIn_app (goodIn_of _ (by decide +kernel)) ggX5_sum_X5_choicesNow
set_option maxRecDepth 20000 in
theorem ggX5_sum_X0_firstLightestMending : GoodIn wsX5_sum wsX0_firstLightestMending := goodIn_r _ [78, 79, 80, 81, 10, 82, 16, 54, 55, 56, 57, 12, 37, 4, 38, 83, 84, 85, 86, 14, 87, 88, 89, 90, 53, 91, 33, 34, 24, 35, 36, 111, 112, 113, 114, 115, 116, 117, 118, 119, 120, 121, 122] (by decide +kernel) (by decide +kernel)
set_option maxRecDepth 20000 in
theorem gX5_sum_X0_firstLightestMending : GoodIn wsX5_sum (wsV RX5 201 RX0 yX0_firstLightestMending wsX0_firstLightestMending) := goodIn_app (goodIn_of _ (by decide +kernel)) ggX5_sum_X0_firstLightestMending
set_option maxRecDepth 20000 in
theorem ggX5_sum_X0_sumKeptBy : GoodIn wsX5_sum wsX0_sumKeptBy := goodIn_r _ [95, 14, 71, 72, 73, 10, 74, 54, 55, 56, 57, 12, 37, 4, 38, 96, 97, 98, 99, 16, 87, 88, 89, 90, 53, 91, 33, 34, 24, 35, 36, 111, 112, 113, 114, 115, 116, 117, 118, 119, 120, 121, 122] (by decide +kernel) (by decide +kernel)
set_option maxRecDepth 20000 in
theorem gX5_sum_X0_sumKeptBy : GoodIn wsX5_sum (wsV RX5 204 RX0 yX0_sumKeptBy wsX0_sumKeptBy) := goodIn_app (goodIn_of _ (by decide +kernel)) ggX5_sum_X0_sumKeptBy
set_option maxRecDepth 20000 in
theorem ggX5_sum_X0_firstHeaviestMending : GoodIn wsX5_sum wsX0_firstHeaviestMending := goodIn_r _ [103, 79, 80, 81, 10, 82, 16, 54, 55, 56, 57, 12, 37, 4, 38, 83, 84, 85, 86, 14, 87, 88, 89, 90, 53, 91, 33, 34, 24, 35, 36, 111, 112, 113, 114, 115, 116, 117, 118, 119, 120, 121, 122] (by decide +kernel) (by decide +kernel)
set_option maxRecDepth 20000 in
theorem gX5_sum_X0_firstHeaviestMending : GoodIn wsX5_sum (wsV RX5 207 RX0 yX0_firstHeaviestMending wsX0_firstHeaviestMending) := goodIn_app (goodIn_of _ (by decide +kernel)) ggX5_sum_X0_firstHeaviestMending
theorem dX5_sum_0 : decode cX5_sum 0 = .ok (.aload_n 0, 1) := by decide +kernel
theorem dX5_sum_1 : decode cX5_sum 1 = .ok (.invokevirtual 122, 3) := by decide +kernel
theorem dX5_sum_4 : decode cX5_sum 4 = .ok (.astore_n 2, 1) := by decide +kernel
theorem dX5_sum_5 : decode cX5_sum 5 = .ok (.iload_n 1, 1) := by decide +kernel
theorem dX5_sum_6 : decode cX5_sum 6 = .ok (.tableswitch 58 0 3 #[30, 39, 48, 53], 30) := by decide +kernel
theorem dX5_sum_36 : decode cX5_sum 36 = .ok (.aload_n 2, 1) := by decide +kernel
theorem dX5_sum_37 : decode cX5_sum 37 = .ok (.aload_n 2, 1) := by decide +kernel
theorem dX5_sum_38 : decode cX5_sum 38 = .ok (.invokevirtual 201, 3) := by decide +kernel
theorem dX5_sum_41 : decode cX5_sum 41 = .ok (.invokevirtual 204, 3) := by decide +kernel
theorem dX5_sum_44 : decode cX5_sum 44 = .ok (.ireturn, 1) := by decide +kernel
theorem dX5_sum_45 : decode cX5_sum 45 = .ok (.aload_n 2, 1) := by decide +kernel
theorem dX5_sum_46 : decode cX5_sum 46 = .ok (.aload_n 2, 1) := by decide +kernel
theorem dX5_sum_47 : decode cX5_sum 47 = .ok (.invokevirtual 207, 3) := by decide +kernel
theorem dX5_sum_50 : decode cX5_sum 50 = .ok (.invokevirtual 204, 3) := by decide +kernel
theorem dX5_sum_53 : decode cX5_sum 53 = .ok (.ireturn, 1) := by decide +kernel
theorem dX5_sum_54 : decode cX5_sum 54 = .ok (.aload_n 2, 1) := by decide +kernel
theorem dX5_sum_55 : decode cX5_sum 55 = .ok (.invokevirtual 201, 3) := by decide +kernel
theorem dX5_sum_58 : decode cX5_sum 58 = .ok (.ireturn, 1) := by decide +kernel
theorem dX5_sum_59 : decode cX5_sum 59 = .ok (.aload_n 2, 1) := by decide +kernel
theorem dX5_sum_60 : decode cX5_sum 60 = .ok (.invokevirtual 207, 3) := by decide +kernel
theorem dX5_sum_63 : decode cX5_sum 63 = .ok (.ireturn, 1) := by decide +kernel
theorem dX5_sum_64 : decode cX5_sum 64 = .ok (.bipush (-2), 2) := by decide +kernel
theorem dX5_sum_66 : decode cX5_sum 66 = .ok (.ireturn, 1) := by decide +kernel
set_option maxRecDepth 20000 in
theorem ggX5_bestMended_X5_isKey : GoodIn wsX5_bestMended wsX5_isKey := goodIn_r _ [5] (by decide +kernel) (by decide +kernel)
set_option maxRecDepth 20000 in
theorem gX5_bestMended_X5_isKey : GoodIn wsX5_bestMended (va_wsS RX5 55 yX5_isKey wsX5_isKey) := goodIn_app (goodIn_of _ (by decide +kernel)) ggX5_bestMended_X5_isKey
set_option maxRecDepth 20000 in
theorem ggX5_bestMended_X5_choicesNow : GoodIn wsX5_bestMended wsX5_choicesNow := goodIn_r _ [9, 10, 11, 12, 13, 14, 15, 16, 17, 18, 19, 20, 21, 22, 23, 24, 25, 26, 27, 28, 29, 30, 31, 32, 33, 34, 35, 36, 37, 38, 39, 40, 41, 4, 42, 43, 44, 45, 46, 47, 48, 49, 50, 51, 52, 53, 54, 55, 56, 57, 58, 59, 60, 61, 62, 63, 64, 65, 66, 67, 68, 69, 70, 71, 72, 3, 5, 73, 74, 75, 76, 109, 110, 111, 112, 113, 114, 115, 116, 117, 118, 119, 120, 121, 122, 123, 124, 125, 126, 127] (by decide +kernel) (by decide +kernel)
set_option maxRecDepth 20000 in
theorem gX5_bestMended_X5_choicesNow : GoodIn wsX5_bestMended (wsV RX5 122 RX5 yX5_choicesNow wsX5_choicesNow) := goodIn_app (goodIn_of _ (by decide +kernel)) ggX5_bestMended_X5_choicesNow
set_option maxRecDepth 20000 in
theorem ggX5_bestMended_X0_rowThatMakesSure : GoodIn wsX5_bestMended wsX0_rowThatMakesSure := goodIn_r _ [80, 81, 82, 83, 14, 84, 85, 86, 87, 88, 89, 90, 91, 92, 73, 74, 75, 76, 58, 59, 60, 61, 16, 41, 4, 42, 93, 94, 95, 96, 17, 97, 98, 99, 100, 101, 102, 103, 57, 104, 105, 106, 107, 64, 65, 66, 67, 18, 68, 69, 70, 28, 71, 72, 3, 5, 62, 63, 116, 117, 118, 119, 120, 121, 122, 123, 124, 125, 126, 127] (by decide +kernel) (by decide +kernel)
set_option maxRecDepth 20000 in
theorem gX5_bestMended_X0_rowThatMakesSure : GoodIn wsX5_bestMended (wsV RX5 210 RX0 yX0_rowThatMakesSure wsX0_rowThatMakesSure) := goodIn_app (goodIn_of _ (by decide +kernel)) ggX5_bestMended_X0_rowThatMakesSure
set_option maxRecDepth 20000 in
theorem ggX5_bestMended_X3_keyAt : GoodIn wsX5_bestMended wsX3_keyAt := goodIn_r _ [46, 47, 41, 4, 42, 122, 123, 124, 125, 126, 127] (by decide +kernel) (by decide +kernel)
set_option maxRecDepth 20000 in
theorem gX5_bestMended_X3_keyAt : GoodIn wsX5_bestMended (wsV RX5 98 RX3 yX3_keyAt wsX3_keyAt) := goodIn_app (goodIn_of _ (by decide +kernel)) ggX5_bestMended_X3_keyAt
theorem dX5_bestMended_0 : decode cX5_bestMended 0 = .ok (.iload_n 1, 1) := by decide +kernel
theorem dX5_bestMended_1 : decode cX5_bestMended 1 = .ok (.invokestatic 55, 3) := by decide +kernel
theorem dX5_bestMended_4 : decode cX5_bestMended 4 = .ok (.ifCond .eq 10, 3) := by decide +kernel
theorem dX5_bestMended_7 : decode cX5_bestMended 7 = .ok (.iload_n 2, 1) := by decide +kernel
theorem dX5_bestMended_8 : decode cX5_bestMended 8 = .ok (.invokestatic 55, 3) := by decide +kernel
theorem dX5_bestMended_11 : decode cX5_bestMended 11 = .ok (.ifCond .ne 5, 3) := by decide +kernel
theorem dX5_bestMended_14 : decode cX5_bestMended 14 = .ok (.iconst (-1), 1) := by decide +kernel
theorem dX5_bestMended_15 : decode cX5_bestMended 15 = .ok (.ireturn, 1) := by decide +kernel
theorem dX5_bestMended_16 : decode cX5_bestMended 16 = .ok (.iload_n 3, 1) := by decide +kernel
theorem dX5_bestMended_17 : decode cX5_bestMended 17 = .ok (.ifCond .eq 11, 3) := by decide +kernel
theorem dX5_bestMended_20 : decode cX5_bestMended 20 = .ok (.iload_n 3, 1) := by decide +kernel
theorem dX5_bestMended_21 : decode cX5_bestMended 21 = .ok (.iconst 1, 1) := by decide +kernel
theorem dX5_bestMended_22 : decode cX5_bestMended 22 = .ok (.if_icmp .eq 6, 3) := by decide +kernel
theorem dX5_bestMended_25 : decode cX5_bestMended 25 = .ok (.bipush (-2), 2) := by decide +kernel
theorem dX5_bestMended_27 : decode cX5_bestMended 27 = .ok (.ireturn, 1) := by decide +kernel
theorem dX5_bestMended_28 : decode cX5_bestMended 28 = .ok (.aload_n 0, 1) := by decide +kernel
theorem dX5_bestMended_29 : decode cX5_bestMended 29 = .ok (.invokevirtual 122, 3) := by decide +kernel
theorem dX5_bestMended_32 : decode cX5_bestMended 32 = .ok (.iload_n 1, 1) := by decide +kernel
theorem dX5_bestMended_33 : decode cX5_bestMended 33 = .ok (.iload_n 2, 1) := by decide +kernel
theorem dX5_bestMended_34 : decode cX5_bestMended 34 = .ok (.invokevirtual 210, 3) := by decide +kernel
theorem dX5_bestMended_37 : decode cX5_bestMended 37 = .ok (.istore 4, 2) := by decide +kernel
theorem dX5_bestMended_39 : decode cX5_bestMended 39 = .ok (.iload 4, 2) := by decide +kernel
theorem dX5_bestMended_41 : decode cX5_bestMended 41 = .ok (.bipush (-5), 2) := by decide +kernel
theorem dX5_bestMended_43 : decode cX5_bestMended 43 = .ok (.if_icmp .ne 6, 3) := by decide +kernel
theorem dX5_bestMended_46 : decode cX5_bestMended 46 = .ok (.bipush (-5), 2) := by decide +kernel
theorem dX5_bestMended_48 : decode cX5_bestMended 48 = .ok (.ireturn, 1) := by decide +kernel
theorem dX5_bestMended_49 : decode cX5_bestMended 49 = .ok (.iload_n 3, 1) := by decide +kernel
theorem dX5_bestMended_50 : decode cX5_bestMended 50 = .ok (.ifCond .ne 15, 3) := by decide +kernel
theorem dX5_bestMended_53 : decode cX5_bestMended 53 = .ok (.aload_n 0, 1) := by decide +kernel
theorem dX5_bestMended_54 : decode cX5_bestMended 54 = .ok (.getfield 10, 3) := by decide +kernel
theorem dX5_bestMended_57 : decode cX5_bestMended 57 = .ok (.iload 4, 2) := by decide +kernel
theorem dX5_bestMended_59 : decode cX5_bestMended 59 = .ok (.invokevirtual 98, 3) := by decide +kernel
theorem dX5_bestMended_62 : decode cX5_bestMended 62 = .ok (.goto 5, 3) := by decide +kernel
theorem dX5_bestMended_65 : decode cX5_bestMended 65 = .ok (.iload 4, 2) := by decide +kernel
theorem dX5_bestMended_67 : decode cX5_bestMended 67 = .ok (.ireturn, 1) := by decide +kernel
set_option maxRecDepth 20000 in
theorem ggX5_count_X3_size : GoodIn wsX5_count wsX3_size := goodIn_r _ [8, 9, 197, 198, 199, 200, 201, 202] (by decide +kernel) (by decide +kernel)
set_option maxRecDepth 20000 in
theorem gX5_count_X3_size : GoodIn wsX5_count (wsV RX5 74 RX3 yX3_size wsX3_size) := goodIn_app (goodIn_of _ (by decide +kernel)) ggX5_count_X3_size
set_option maxRecDepth 20000 in
theorem ggX5_count_X3_keysThere : GoodIn wsX5_count wsX3_keysThere := goodIn_r _ [13, 14, 15, 16, 7, 17, 18, 19, 20, 21, 9, 22, 23, 24, 25, 26, 27, 28, 29, 197, 198, 199, 200, 201, 202] (by decide +kernel) (by decide +kernel)
set_option maxRecDepth 20000 in
theorem gX5_count_X3_keysThere : GoodIn wsX5_count (wsV RX5 213 RX3 yX3_keysThere wsX3_keysThere) := goodIn_app (goodIn_of _ (by decide +kernel)) ggX5_count_X3_keysThere
set_option maxRecDepth 20000 in
theorem ggX5_count_X3_doubledKeys : GoodIn wsX5_count wsX3_doubledKeys := goodIn_r _ [33, 14, 15, 16, 7, 17, 18, 19, 20, 21, 9, 22, 23, 24, 25, 26, 27, 28, 29, 197, 198, 199, 200, 201, 202] (by decide +kernel) (by decide +kernel)
set_option maxRecDepth 20000 in
theorem gX5_count_X3_doubledKeys : GoodIn wsX5_count (wsV RX5 108 RX3 yX3_doubledKeys wsX3_doubledKeys) := goodIn_app (goodIn_of _ (by decide +kernel)) ggX5_count_X3_doubledKeys
set_option maxRecDepth 20000 in
theorem ggX5_count_X5_choicesNow : GoodIn wsX5_count wsX5_choicesNow := goodIn_r _ [37, 38, 39, 40, 41, 42, 43, 44, 45, 46, 47, 48, 49, 50, 51, 52, 53, 5, 6, 7, 8, 9, 54, 55, 56, 57, 58, 59, 60, 61, 62, 63, 27, 28, 29, 22, 23, 24, 25, 26, 64, 65, 66, 67, 68, 69, 70, 71, 72, 73, 74, 75, 76, 77, 78, 79, 80, 81, 82, 83, 84, 85, 86, 87, 88, 89, 90, 91, 92, 93, 94, 190, 191, 192, 193, 194, 195, 196, 203, 204, 205, 206, 207, 208, 197, 198, 199, 200, 201, 202] (by decide +kernel) (by decide +kernel)
set_option maxRecDepth 20000 in
theorem gX5_count_X5_choicesNow : GoodIn wsX5_count (wsV RX5 122 RX5 yX5_choicesNow wsX5_choicesNow) := goodIn_app (goodIn_of _ (by decide +kernel)) ggX5_count_X5_choicesNow
set_option maxRecDepth 20000 in
theorem ggX5_count_X0_mendings : GoodIn wsX5_count wsX0_mendings := goodIn_r _ [98, 47, 203, 204, 205, 206, 207, 208] (by decide +kernel) (by decide +kernel)
set_option maxRecDepth 20000 in
theorem gX5_count_X0_mendings : GoodIn wsX5_count (wsV RX5 126 RX0 yX0_mendings wsX0_mendings) := goodIn_app (goodIn_of _ (by decide +kernel)) ggX5_count_X0_mendings
set_option maxRecDepth 20000 in
theorem ggX5_count_X0_sureRows : GoodIn wsX5_count wsX0_sureRows := goodIn_r _ [102, 46, 53, 5, 6, 7, 8, 9, 103, 104, 105, 42, 106, 54, 55, 56, 57, 58, 59, 60, 61, 62, 63, 27, 28, 29, 22, 23, 24, 25, 26, 64, 65, 66, 67, 68, 74, 75, 76, 77, 44, 203, 204, 205, 206, 207, 208, 197, 198, 199, 200, 201, 202] (by decide +kernel) (by decide +kernel)
set_option maxRecDepth 20000 in
theorem gX5_count_X0_sureRows : GoodIn wsX5_count (wsV RX5 216 RX0 yX0_sureRows wsX0_sureRows) := goodIn_app (goodIn_of _ (by decide +kernel)) ggX5_count_X0_sureRows
set_option maxRecDepth 20000 in
theorem ggX5_count_X0_sureValues : GoodIn wsX5_count wsX0_sureValues := goodIn_r _ [110, 111, 112, 113, 42, 114, 91, 92, 93, 94, 74, 75, 76, 77, 44, 27, 28, 29, 115, 116, 117, 118, 46, 119, 120, 121, 122, 73, 123, 124, 125, 7, 126, 127, 203, 204, 205, 206, 207, 208, 197, 198, 199, 200, 201, 202] (by decide +kernel) (by decide +kernel)
set_option maxRecDepth 20000 in
theorem gX5_count_X0_sureValues : GoodIn wsX5_count (wsV RX5 219 RX0 yX0_sureValues wsX0_sureValues) := goodIn_app (goodIn_of _ (by decide +kernel)) ggX5_count_X0_sureValues
set_option maxRecDepth 20000 in
theorem ggX5_count_X0_possibleValues : GoodIn wsX5_count wsX0_possibleValues := goodIn_r _ [131, 132, 133, 134, 42, 135, 115, 116, 117, 118, 46, 74, 75, 76, 77, 44, 27, 28, 29, 119, 120, 121, 122, 73, 123, 124, 125, 7, 126, 127, 203, 204, 205, 206, 207, 208, 197, 198, 199, 200, 201, 202] (by decide +kernel) (by decide +kernel)
set_option maxRecDepth 20000 in
theorem gX5_count_X0_possibleValues : GoodIn wsX5_count (wsV RX5 222 RX0 yX0_possibleValues wsX0_possibleValues) := goodIn_app (goodIn_of _ (by decide +kernel)) ggX5_count_X0_possibleValues
set_option maxRecDepth 20000 in
theorem ggX5_count_X0_sureWays : GoodIn wsX5_count wsX0_sureWays := goodIn_r _ [139, 140, 141, 142, 42, 143, 144, 145, 146, 147, 91, 92, 93, 94, 74, 75, 76, 77, 44, 27, 28, 29, 148, 149, 150, 151, 45, 152, 153, 154, 155, 156, 157, 158, 203, 204, 205, 206, 207, 208] (by decide +kernel) (by decide +kernel)
set_option maxRecDepth 20000 in
theorem gX5_count_X0_sureWays : GoodIn wsX5_count (wsV RX5 225 RX0 yX0_sureWays wsX0_sureWays) := goodIn_app (goodIn_of _ (by decide +kernel)) ggX5_count_X0_sureWays
set_option maxRecDepth 20000 in
theorem ggX5_count_X0_possibleWays : GoodIn wsX5_count wsX0_possibleWays := goodIn_r _ [162, 163, 164, 165, 42, 166, 144, 145, 146, 147, 91, 92, 93, 94, 74, 75, 76, 77, 44, 27, 28, 29, 167, 168, 169, 170, 45, 152, 153, 154, 155, 156, 157, 158, 203, 204, 205, 206, 207, 208] (by decide +kernel) (by decide +kernel)
set_option maxRecDepth 20000 in
theorem gX5_count_X0_possibleWays : GoodIn wsX5_count (wsV RX5 228 RX0 yX0_possibleWays wsX0_possibleWays) := goodIn_app (goodIn_of _ (by decide +kernel)) ggX5_count_X0_possibleWays
set_option maxRecDepth 20000 in
theorem ggX5_count_X3_prefersHeaviest : GoodIn wsX5_count wsX3_prefersHeaviest := goodIn_r _ [174, 58, 197, 198, 199, 200, 201, 202] (by decide +kernel) (by decide +kernel)
set_option maxRecDepth 20000 in
theorem gX5_count_X3_prefersHeaviest : GoodIn wsX5_count (wsV RX5 115 RX3 yX3_prefersHeaviest wsX3_prefersHeaviest) := goodIn_app (goodIn_of _ (by decide +kernel)) ggX5_count_X3_prefersHeaviest
set_option maxRecDepth 20000 in
theorem ggX5_count_X5_oneIf : GoodIn wsX5_count wsX5_oneIf := goodIn_r _ [177] (by decide +kernel) (by decide +kernel)
set_option maxRecDepth 20000 in
theorem gX5_count_X5_oneIf : GoodIn wsX5_count (va_wsS RX5 157 yX5_oneIf wsX5_oneIf) := goodIn_app (goodIn_of _ (by decide +kernel)) ggX5_count_X5_oneIf
set_option maxRecDepth 20000 in
theorem ggX5_count_X1_size : GoodIn wsX5_count wsX1_size := goodIn_r _ [182, 183, 209, 210, 211] (by decide +kernel) (by decide +kernel)
set_option maxRecDepth 20000 in
theorem gX5_count_X1_size : GoodIn wsX5_count (wsV RX5 141 RX1 yX1_size wsX1_size) := goodIn_app (goodIn_of _ (by decide +kernel)) ggX5_count_X1_size
set_option maxRecDepth 20000 in
theorem ggX5_count_X4_length : GoodIn wsX5_count wsX4_length := goodIn_r _ [188, 189, 212, 213] (by decide +kernel) (by decide +kernel)
set_option maxRecDepth 20000 in
theorem gX5_count_X4_length : GoodIn wsX5_count (wsV RX5 131 RX4 yX4_length wsX4_length) := goodIn_app (goodIn_of _ (by decide +kernel)) ggX5_count_X4_length
theorem dX5_count_0 : decode cX5_count 0 = .ok (.iload_n 1, 1) := by decide +kernel
theorem dX5_count_1 : decode cX5_count 1 = .ok (.tableswitch 162 0 11 #[63, 71, 79, 87, 95, 103, 111, 119, 127, 135, 146, 154], 63) := by decide +kernel
theorem dX5_count_64 : decode cX5_count 64 = .ok (.aload_n 0, 1) := by decide +kernel
theorem dX5_count_65 : decode cX5_count 65 = .ok (.getfield 10, 3) := by decide +kernel
theorem dX5_count_68 : decode cX5_count 68 = .ok (.invokevirtual 74, 3) := by decide +kernel
theorem dX5_count_71 : decode cX5_count 71 = .ok (.ireturn, 1) := by decide +kernel
theorem dX5_count_72 : decode cX5_count 72 = .ok (.aload_n 0, 1) := by decide +kernel
theorem dX5_count_73 : decode cX5_count 73 = .ok (.getfield 10, 3) := by decide +kernel
theorem dX5_count_76 : decode cX5_count 76 = .ok (.invokevirtual 213, 3) := by decide +kernel
theorem dX5_count_79 : decode cX5_count 79 = .ok (.ireturn, 1) := by decide +kernel
theorem dX5_count_80 : decode cX5_count 80 = .ok (.aload_n 0, 1) := by decide +kernel
theorem dX5_count_81 : decode cX5_count 81 = .ok (.getfield 10, 3) := by decide +kernel
theorem dX5_count_84 : decode cX5_count 84 = .ok (.invokevirtual 108, 3) := by decide +kernel
theorem dX5_count_87 : decode cX5_count 87 = .ok (.ireturn, 1) := by decide +kernel
theorem dX5_count_88 : decode cX5_count 88 = .ok (.aload_n 0, 1) := by decide +kernel
theorem dX5_count_89 : decode cX5_count 89 = .ok (.invokevirtual 122, 3) := by decide +kernel
theorem dX5_count_92 : decode cX5_count 92 = .ok (.invokevirtual 126, 3) := by decide +kernel
theorem dX5_count_95 : decode cX5_count 95 = .ok (.ireturn, 1) := by decide +kernel
theorem dX5_count_96 : decode cX5_count 96 = .ok (.aload_n 0, 1) := by decide +kernel
theorem dX5_count_97 : decode cX5_count 97 = .ok (.invokevirtual 122, 3) := by decide +kernel
theorem dX5_count_100 : decode cX5_count 100 = .ok (.invokevirtual 216, 3) := by decide +kernel
theorem dX5_count_103 : decode cX5_count 103 = .ok (.ireturn, 1) := by decide +kernel
theorem dX5_count_104 : decode cX5_count 104 = .ok (.aload_n 0, 1) := by decide +kernel
theorem dX5_count_105 : decode cX5_count 105 = .ok (.invokevirtual 122, 3) := by decide +kernel
theorem dX5_count_108 : decode cX5_count 108 = .ok (.invokevirtual 219, 3) := by decide +kernel
theorem dX5_count_111 : decode cX5_count 111 = .ok (.ireturn, 1) := by decide +kernel
theorem dX5_count_112 : decode cX5_count 112 = .ok (.aload_n 0, 1) := by decide +kernel
theorem dX5_count_113 : decode cX5_count 113 = .ok (.invokevirtual 122, 3) := by decide +kernel
theorem dX5_count_116 : decode cX5_count 116 = .ok (.invokevirtual 222, 3) := by decide +kernel
theorem dX5_count_119 : decode cX5_count 119 = .ok (.ireturn, 1) := by decide +kernel
theorem dX5_count_120 : decode cX5_count 120 = .ok (.aload_n 0, 1) := by decide +kernel
theorem dX5_count_121 : decode cX5_count 121 = .ok (.invokevirtual 122, 3) := by decide +kernel
theorem dX5_count_124 : decode cX5_count 124 = .ok (.invokevirtual 225, 3) := by decide +kernel
theorem dX5_count_127 : decode cX5_count 127 = .ok (.ireturn, 1) := by decide +kernel
theorem dX5_count_128 : decode cX5_count 128 = .ok (.aload_n 0, 1) := by decide +kernel
theorem dX5_count_129 : decode cX5_count 129 = .ok (.invokevirtual 122, 3) := by decide +kernel
theorem dX5_count_132 : decode cX5_count 132 = .ok (.invokevirtual 228, 3) := by decide +kernel
theorem dX5_count_135 : decode cX5_count 135 = .ok (.ireturn, 1) := by decide +kernel
theorem dX5_count_136 : decode cX5_count 136 = .ok (.aload_n 0, 1) := by decide +kernel
theorem dX5_count_137 : decode cX5_count 137 = .ok (.getfield 10, 3) := by decide +kernel
theorem dX5_count_140 : decode cX5_count 140 = .ok (.invokevirtual 115, 3) := by decide +kernel
theorem dX5_count_143 : decode cX5_count 143 = .ok (.invokestatic 157, 3) := by decide +kernel
theorem dX5_count_146 : decode cX5_count 146 = .ok (.ireturn, 1) := by decide +kernel
theorem dX5_count_147 : decode cX5_count 147 = .ok (.aload_n 0, 1) := by decide +kernel
theorem dX5_count_148 : decode cX5_count 148 = .ok (.getfield 28, 3) := by decide +kernel
theorem dX5_count_151 : decode cX5_count 151 = .ok (.invokevirtual 141, 3) := by decide +kernel
theorem dX5_count_154 : decode cX5_count 154 = .ok (.ireturn, 1) := by decide +kernel
theorem dX5_count_155 : decode cX5_count 155 = .ok (.aload_n 0, 1) := by decide +kernel
theorem dX5_count_156 : decode cX5_count 156 = .ok (.getfield 42, 3) := by decide +kernel
theorem dX5_count_159 : decode cX5_count 159 = .ok (.invokevirtual 131, 3) := by decide +kernel
theorem dX5_count_162 : decode cX5_count 162 = .ok (.ireturn, 1) := by decide +kernel
theorem dX5_count_163 : decode cX5_count 163 = .ok (.bipush (-2), 2) := by decide +kernel
theorem dX5_count_165 : decode cX5_count 165 = .ok (.ireturn, 1) := by decide +kernel
set_option maxRecDepth 20000 in
theorem ggX5_choicesNow_X0_update : GoodIn wsX5_choicesNow wsX0_update := goodIn_r _ [6, 7, 8, 9, 10, 11, 12, 13, 14, 15, 16, 17, 18, 19, 20, 21, 22, 23, 24, 25, 26, 27, 28, 29, 30, 31, 32, 33, 34, 35, 36, 37, 38, 39, 40, 41, 42, 43, 44, 45, 46, 47, 5, 48, 49, 50, 51, 52, 53, 54, 55, 56, 57, 58, 59, 60, 61, 62, 63, 64, 65, 66, 67, 68, 69, 70, 78, 79, 80, 81, 82, 83, 84, 85, 86, 87, 88, 89] (by decide +kernel) (by decide +kernel)
set_option maxRecDepth 20000 in
theorem gX5_choicesNow_X0_update : GoodIn wsX5_choicesNow (wsV RX5 231 RX0 yX0_update wsX0_update) := goodIn_app (goodIn_of _ (by decide +kernel)) ggX5_choicesNow_X0_update
theorem dX5_choicesNow_0 : decode cX5_choicesNow 0 = .ok (.aload_n 0, 1) := by decide +kernel
theorem dX5_choicesNow_1 : decode cX5_choicesNow 1 = .ok (.getfield 21, 3) := by decide +kernel
theorem dX5_choicesNow_4 : decode cX5_choicesNow 4 = .ok (.invokevirtual 231, 3) := by decide +kernel
theorem dX5_choicesNow_7 : decode cX5_choicesNow 7 = .ok (.aload_n 0, 1) := by decide +kernel
theorem dX5_choicesNow_8 : decode cX5_choicesNow 8 = .ok (.getfield 21, 3) := by decide +kernel
theorem dX5_choicesNow_11 : decode cX5_choicesNow 11 = .ok (.areturn, 1) := by decide +kernel
set_option maxRecDepth 20000 in
theorem ggX5_chosenBy_X3_firstWith : GoodIn wsX5_chosenBy wsX3_firstWith := goodIn_r _ [6, 7, 8, 9, 10, 5, 11, 12, 13, 14, 15, 36, 37, 38, 39, 40, 41] (by decide +kernel) (by decide +kernel)
set_option maxRecDepth 20000 in
theorem gX5_chosenBy_X3_firstWith : GoodIn wsX5_chosenBy (wsV RX5 234 RX3 yX3_firstWith wsX3_firstWith) := goodIn_app (goodIn_of _ (by decide +kernel)) ggX5_chosenBy_X3_firstWith
set_option maxRecDepth 20000 in
theorem ggX5_chosenBy_X3_lastWith : GoodIn wsX5_chosenBy wsX3_lastWith := goodIn_r _ [19, 7, 8, 9, 10, 5, 11, 12, 13, 14, 15, 36, 37, 38, 39, 40, 41] (by decide +kernel) (by decide +kernel)
set_option maxRecDepth 20000 in
theorem gX5_chosenBy_X3_lastWith : GoodIn wsX5_chosenBy (wsV RX5 237 RX3 yX3_lastWith wsX3_lastWith) := goodIn_app (goodIn_of _ (by decide +kernel)) ggX5_chosenBy_X3_lastWith
set_option maxRecDepth 20000 in
theorem ggX5_chosenBy_X3_heaviestWith : GoodIn wsX5_chosenBy wsX3_heaviestWith := goodIn_r _ [23, 7, 8, 9, 10, 5, 11, 12, 13, 14, 15, 24, 25, 26, 27, 28, 36, 37, 38, 39, 40, 41] (by decide +kernel) (by decide +kernel)
set_option maxRecDepth 20000 in
theorem gX5_chosenBy_X3_heaviestWith : GoodIn wsX5_chosenBy (wsV RX5 170 RX3 yX3_heaviestWith wsX3_heaviestWith) := goodIn_app (goodIn_of _ (by decide +kernel)) ggX5_chosenBy_X3_heaviestWith
theorem dX5_chosenBy_0 : decode cX5_chosenBy 0 = .ok (.iload_n 1, 1) := by decide +kernel
theorem dX5_chosenBy_1 : decode cX5_chosenBy 1 = .ok (.lookupswitch 45 #[(0, 27), (1, 36)], 27) := by decide +kernel
theorem dX5_chosenBy_28 : decode cX5_chosenBy 28 = .ok (.aload_n 0, 1) := by decide +kernel
theorem dX5_chosenBy_29 : decode cX5_chosenBy 29 = .ok (.getfield 10, 3) := by decide +kernel
theorem dX5_chosenBy_32 : decode cX5_chosenBy 32 = .ok (.iload_n 2, 1) := by decide +kernel
theorem dX5_chosenBy_33 : decode cX5_chosenBy 33 = .ok (.invokevirtual 234, 3) := by decide +kernel
theorem dX5_chosenBy_36 : decode cX5_chosenBy 36 = .ok (.ireturn, 1) := by decide +kernel
theorem dX5_chosenBy_37 : decode cX5_chosenBy 37 = .ok (.aload_n 0, 1) := by decide +kernel
theorem dX5_chosenBy_38 : decode cX5_chosenBy 38 = .ok (.getfield 10, 3) := by decide +kernel
theorem dX5_chosenBy_41 : decode cX5_chosenBy 41 = .ok (.iload_n 2, 1) := by decide +kernel
theorem dX5_chosenBy_42 : decode cX5_chosenBy 42 = .ok (.invokevirtual 237, 3) := by decide +kernel
theorem dX5_chosenBy_45 : decode cX5_chosenBy 45 = .ok (.ireturn, 1) := by decide +kernel
theorem dX5_chosenBy_46 : decode cX5_chosenBy 46 = .ok (.aload_n 0, 1) := by decide +kernel
theorem dX5_chosenBy_47 : decode cX5_chosenBy 47 = .ok (.getfield 10, 3) := by decide +kernel
theorem dX5_chosenBy_50 : decode cX5_chosenBy 50 = .ok (.iload_n 2, 1) := by decide +kernel
theorem dX5_chosenBy_51 : decode cX5_chosenBy 51 = .ok (.invokevirtual 170, 3) := by decide +kernel
theorem dX5_chosenBy_54 : decode cX5_chosenBy 54 = .ok (.ireturn, 1) := by decide +kernel
theorem dX5_isKey_0 : decode cX5_isKey 0 = .ok (.iload_n 0, 1) := by decide +kernel
theorem dX5_isKey_1 : decode cX5_isKey 1 = .ok (.ifCond .lt 13, 3) := by decide +kernel
theorem dX5_isKey_4 : decode cX5_isKey 4 = .ok (.iload_n 0, 1) := by decide +kernel
theorem dX5_isKey_5 : decode cX5_isKey 5 = .ok (.bipush 10, 2) := by decide +kernel
theorem dX5_isKey_7 : decode cX5_isKey 7 = .ok (.if_icmp .ge 7, 3) := by decide +kernel
theorem dX5_isKey_10 : decode cX5_isKey 10 = .ok (.iconst 1, 1) := by decide +kernel
theorem dX5_isKey_11 : decode cX5_isKey 11 = .ok (.goto 4, 3) := by decide +kernel
theorem dX5_isKey_14 : decode cX5_isKey 14 = .ok (.iconst 0, 1) := by decide +kernel
theorem dX5_isKey_15 : decode cX5_isKey 15 = .ok (.ireturn, 1) := by decide +kernel
theorem dX5_isValue_0 : decode cX5_isValue 0 = .ok (.iload_n 0, 1) := by decide +kernel
theorem dX5_isValue_1 : decode cX5_isValue 1 = .ok (.bipush 97, 2) := by decide +kernel
theorem dX5_isValue_3 : decode cX5_isValue 3 = .ok (.if_icmp .lt 13, 3) := by decide +kernel
theorem dX5_isValue_6 : decode cX5_isValue 6 = .ok (.iload_n 0, 1) := by decide +kernel
theorem dX5_isValue_7 : decode cX5_isValue 7 = .ok (.bipush 104, 2) := by decide +kernel
theorem dX5_isValue_9 : decode cX5_isValue 9 = .ok (.if_icmp .gt 7, 3) := by decide +kernel
theorem dX5_isValue_12 : decode cX5_isValue 12 = .ok (.iconst 1, 1) := by decide +kernel
theorem dX5_isValue_13 : decode cX5_isValue 13 = .ok (.goto 4, 3) := by decide +kernel
theorem dX5_isValue_16 : decode cX5_isValue 16 = .ok (.iconst 0, 1) := by decide +kernel
theorem dX5_isValue_17 : decode cX5_isValue 17 = .ok (.ireturn, 1) := by decide +kernel
theorem dX5_oneIf_0 : decode cX5_oneIf 0 = .ok (.iload_n 0, 1) := by decide +kernel
theorem dX5_oneIf_1 : decode cX5_oneIf 1 = .ok (.ifCond .eq 7, 3) := by decide +kernel
theorem dX5_oneIf_4 : decode cX5_oneIf 4 = .ok (.iconst 1, 1) := by decide +kernel
theorem dX5_oneIf_5 : decode cX5_oneIf 5 = .ok (.goto 4, 3) := by decide +kernel
theorem dX5_oneIf_8 : decode cX5_oneIf 8 = .ok (.iconst 0, 1) := by decide +kernel
theorem dX5_oneIf_9 : decode cX5_oneIf 9 = .ok (.ireturn, 1) := by decide +kernel
theorem dX5_at_0 : decode cX5_at 0 = .ok (.iload_n 1, 1) := by decide +kernel
theorem dX5_at_1 : decode cX5_at 1 = .ok (.ifCond .lt 15, 3) := by decide +kernel
theorem dX5_at_4 : decode cX5_at 4 = .ok (.iload_n 1, 1) := by decide +kernel
theorem dX5_at_5 : decode cX5_at 5 = .ok (.aload_n 0, 1) := by decide +kernel
theorem dX5_at_6 : decode cX5_at 6 = .ok (.arraylength, 1) := by decide +kernel
theorem dX5_at_7 : decode cX5_at 7 = .ok (.if_icmp .ge 9, 3) := by decide +kernel
theorem dX5_at_10 : decode cX5_at 10 = .ok (.aload_n 0, 1) := by decide +kernel
theorem dX5_at_11 : decode cX5_at 11 = .ok (.iload_n 1, 1) := by decide +kernel
theorem dX5_at_12 : decode cX5_at 12 = .ok (.iaload, 1) := by decide +kernel
theorem dX5_at_13 : decode cX5_at 13 = .ok (.goto 5, 3) := by decide +kernel
theorem dX5_at_16 : decode cX5_at 16 = .ok (.bipush (-5), 2) := by decide +kernel
theorem dX5_at_18 : decode cX5_at 18 = .ok (.ireturn, 1) := by decide +kernel
theorem dX5_put_0 : decode cX5_put 0 = .ok (.iload_n 1, 1) := by decide +kernel
theorem dX5_put_1 : decode cX5_put 1 = .ok (.ifCond .lt 13, 3) := by decide +kernel
theorem dX5_put_4 : decode cX5_put 4 = .ok (.iload_n 1, 1) := by decide +kernel
theorem dX5_put_5 : decode cX5_put 5 = .ok (.aload_n 0, 1) := by decide +kernel
theorem dX5_put_6 : decode cX5_put 6 = .ok (.arraylength, 1) := by decide +kernel
theorem dX5_put_7 : decode cX5_put 7 = .ok (.if_icmp .ge 7, 3) := by decide +kernel
theorem dX5_put_10 : decode cX5_put 10 = .ok (.aload_n 0, 1) := by decide +kernel
theorem dX5_put_11 : decode cX5_put 11 = .ok (.iload_n 1, 1) := by decide +kernel
theorem dX5_put_12 : decode cX5_put 12 = .ok (.iload_n 2, 1) := by decide +kernel
theorem dX5_put_13 : decode cX5_put 13 = .ok (.iastore, 1) := by decide +kernel
theorem dX5_put_14 : decode cX5_put 14 = .ok (.return_, 1) := by decide +kernel
theorem dX5_copy_0 : decode cX5_copy 0 = .ok (.aload_n 0, 1) := by decide +kernel
theorem dX5_copy_1 : decode cX5_copy 1 = .ok (.iconst 0, 1) := by decide +kernel
theorem dX5_copy_2 : decode cX5_copy 2 = .ok (.aload_n 1, 1) := by decide +kernel
theorem dX5_copy_3 : decode cX5_copy 3 = .ok (.iconst 0, 1) := by decide +kernel
theorem dX5_copy_4 : decode cX5_copy 4 = .ok (.aload_n 0, 1) := by decide +kernel
theorem dX5_copy_5 : decode cX5_copy 5 = .ok (.arraylength, 1) := by decide +kernel
theorem dX5_copy_6 : decode cX5_copy 6 = .ok (.aload_n 1, 1) := by decide +kernel
theorem dX5_copy_7 : decode cX5_copy 7 = .ok (.arraylength, 1) := by decide +kernel
theorem dX5_copy_8 : decode cX5_copy 8 = .ok (.invokestatic 240, 3) := by decide +kernel
theorem dX5_copy_11 : decode cX5_copy 11 = .ok (.invokestatic 245, 3) := by decide +kernel
theorem dX5_copy_14 : decode cX5_copy 14 = .ok (.return_, 1) := by decide +kernel
theorem dX6_init_0 : decode cX6_init 0 = .ok (.aload_n 0, 1) := by decide +kernel
theorem dX6_init_1 : decode cX6_init 1 = .ok (.invokespecial 1, 3) := by decide +kernel
theorem dX6_init_4 : decode cX6_init 4 = .ok (.aload_n 0, 1) := by decide +kernel
theorem dX6_init_5 : decode cX6_init 5 = .ok (.bipush 82, 2) := by decide +kernel
theorem dX6_init_7 : decode cX6_init 7 = .ok (.newarray .int, 2) := by decide +kernel
theorem dX6_init_9 : decode cX6_init 9 = .ok (.putfield 7, 3) := by decide +kernel
theorem dX6_init_12 : decode cX6_init 12 = .ok (.aload_n 0, 1) := by decide +kernel
theorem dX6_init_13 : decode cX6_init 13 = .ok (.bipush 82, 2) := by decide +kernel
theorem dX6_init_15 : decode cX6_init 15 = .ok (.newarray .int, 2) := by decide +kernel
theorem dX6_init_17 : decode cX6_init 17 = .ok (.putfield 13, 3) := by decide +kernel
theorem dX6_init_20 : decode cX6_init 20 = .ok (.aload_n 0, 1) := by decide +kernel
theorem dX6_init_21 : decode cX6_init 21 = .ok (.sipush 328, 3) := by decide +kernel
theorem dX6_init_24 : decode cX6_init 24 = .ok (.newarray .int, 2) := by decide +kernel
theorem dX6_init_26 : decode cX6_init 26 = .ok (.putfield 16, 3) := by decide +kernel
theorem dX6_init_29 : decode cX6_init 29 = .ok (.aload_n 0, 1) := by decide +kernel
theorem dX6_init_30 : decode cX6_init 30 = .ok (.bipush 82, 2) := by decide +kernel
theorem dX6_init_32 : decode cX6_init 32 = .ok (.newarray .int, 2) := by decide +kernel
theorem dX6_init_34 : decode cX6_init 34 = .ok (.putfield 19, 3) := by decide +kernel
theorem dX6_init_37 : decode cX6_init 37 = .ok (.aload_n 0, 1) := by decide +kernel
theorem dX6_init_38 : decode cX6_init 38 = .ok (.sipush 200, 3) := by decide +kernel
theorem dX6_init_41 : decode cX6_init 41 = .ok (.newarray .int, 2) := by decide +kernel
theorem dX6_init_43 : decode cX6_init 43 = .ok (.putfield 22, 3) := by decide +kernel
theorem dX6_init_46 : decode cX6_init 46 = .ok (.aload_n 0, 1) := by decide +kernel
theorem dX6_init_47 : decode cX6_init 47 = .ok (.bipush 10, 2) := by decide +kernel
theorem dX6_init_49 : decode cX6_init 49 = .ok (.newarray .int, 2) := by decide +kernel
theorem dX6_init_51 : decode cX6_init 51 = .ok (.putfield 25, 3) := by decide +kernel
theorem dX6_init_54 : decode cX6_init 54 = .ok (.aload_n 0, 1) := by decide +kernel
theorem dX6_init_55 : decode cX6_init 55 = .ok (.bipush 10, 2) := by decide +kernel
theorem dX6_init_57 : decode cX6_init 57 = .ok (.newarray .int, 2) := by decide +kernel
theorem dX6_init_59 : decode cX6_init 59 = .ok (.putfield 28, 3) := by decide +kernel
theorem dX6_init_62 : decode cX6_init 62 = .ok (.aload_n 0, 1) := by decide +kernel
theorem dX6_init_63 : decode cX6_init 63 = .ok (.bipush (-5), 2) := by decide +kernel
theorem dX6_init_65 : decode cX6_init 65 = .ok (.putfield 31, 3) := by decide +kernel
theorem dX6_init_68 : decode cX6_init 68 = .ok (.aload_n 0, 1) := by decide +kernel
theorem dX6_init_69 : decode cX6_init 69 = .ok (.bipush 80, 2) := by decide +kernel
theorem dX6_init_71 : decode cX6_init 71 = .ok (.newarray .int, 2) := by decide +kernel
theorem dX6_init_73 : decode cX6_init 73 = .ok (.putfield 35, 3) := by decide +kernel
theorem dX6_init_76 : decode cX6_init 76 = .ok (.aload_n 0, 1) := by decide +kernel
theorem dX6_init_77 : decode cX6_init 77 = .ok (.bipush 84, 2) := by decide +kernel
theorem dX6_init_79 : decode cX6_init 79 = .ok (.newarray .int, 2) := by decide +kernel
theorem dX6_init_81 : decode cX6_init 81 = .ok (.putfield 38, 3) := by decide +kernel
theorem dX6_init_84 : decode cX6_init 84 = .ok (.aload_n 0, 1) := by decide +kernel
theorem dX6_init_85 : decode cX6_init 85 = .ok (.bipush 100, 2) := by decide +kernel
theorem dX6_init_87 : decode cX6_init 87 = .ok (.newarray .int, 2) := by decide +kernel
theorem dX6_init_89 : decode cX6_init 89 = .ok (.putfield 41, 3) := by decide +kernel
theorem dX6_init_92 : decode cX6_init 92 = .ok (.return_, 1) := by decide +kernel
theorem dX6_in_0 : decode cX6_in 0 = .ok (.lload_n 0, 1) := by decide +kernel
theorem dX6_in_1 : decode cX6_in 1 = .ok (.lload_n 2, 1) := by decide +kernel
theorem dX6_in_2 : decode cX6_in 2 = .ok (.lcmp, 1) := by decide +kernel
theorem dX6_in_3 : decode cX6_in 3 = .ok (.ifCond .lt 14, 3) := by decide +kernel
theorem dX6_in_6 : decode cX6_in 6 = .ok (.lload_n 0, 1) := by decide +kernel
theorem dX6_in_7 : decode cX6_in 7 = .ok (.lload 4, 2) := by decide +kernel
theorem dX6_in_9 : decode cX6_in 9 = .ok (.lcmp, 1) := by decide +kernel
theorem dX6_in_10 : decode cX6_in 10 = .ok (.ifCond .gt 7, 3) := by decide +kernel
theorem dX6_in_13 : decode cX6_in 13 = .ok (.iconst 1, 1) := by decide +kernel
theorem dX6_in_14 : decode cX6_in 14 = .ok (.goto 4, 3) := by decide +kernel
theorem dX6_in_17 : decode cX6_in 17 = .ok (.iconst 0, 1) := by decide +kernel
theorem dX6_in_18 : decode cX6_in 18 = .ok (.ireturn, 1) := by decide +kernel
theorem dX6_remember_0 : decode cX6_remember 0 = .ok (.iconst 0, 1) := by decide +kernel
theorem dX6_remember_1 : decode cX6_remember 1 = .ok (.istore_n 1, 1) := by decide +kernel
theorem dX6_remember_2 : decode cX6_remember 2 = .ok (.iload_n 1, 1) := by decide +kernel
theorem dX6_remember_3 : decode cX6_remember 3 = .ok (.bipush 82, 2) := by decide +kernel
theorem dX6_remember_5 : decode cX6_remember 5 = .ok (.if_icmp .ge 21, 3) := by decide +kernel
theorem dX6_remember_8 : decode cX6_remember 8 = .ok (.aload_n 0, 1) := by decide +kernel
theorem dX6_remember_9 : decode cX6_remember 9 = .ok (.getfield 13, 3) := by decide +kernel
theorem dX6_remember_12 : decode cX6_remember 12 = .ok (.iload_n 1, 1) := by decide +kernel
theorem dX6_remember_13 : decode cX6_remember 13 = .ok (.aload_n 0, 1) := by decide +kernel
theorem dX6_remember_14 : decode cX6_remember 14 = .ok (.getfield 7, 3) := by decide +kernel
theorem dX6_remember_17 : decode cX6_remember 17 = .ok (.iload_n 1, 1) := by decide +kernel
theorem dX6_remember_18 : decode cX6_remember 18 = .ok (.iaload, 1) := by decide +kernel
theorem dX6_remember_19 : decode cX6_remember 19 = .ok (.iastore, 1) := by decide +kernel
theorem dX6_remember_20 : decode cX6_remember 20 = .ok (.iinc 1 1, 3) := by decide +kernel
theorem dX6_remember_23 : decode cX6_remember 23 = .ok (.goto (-21), 3) := by decide +kernel
theorem dX6_remember_26 : decode cX6_remember 26 = .ok (.return_, 1) := by decide +kernel
theorem dX6_acted_0 : decode cX6_acted 0 = .ok (.aload_n 0, 1) := by decide +kernel
theorem dX6_acted_1 : decode cX6_acted 1 = .ok (.getfield 44, 3) := by decide +kernel
theorem dX6_acted_4 : decode cX6_acted 4 = .ok (.iconst 4, 1) := by decide +kernel
theorem dX6_acted_5 : decode cX6_acted 5 = .ok (.if_icmp .ne 43, 3) := by decide +kernel
theorem dX6_acted_8 : decode cX6_acted 8 = .ok (.iconst 0, 1) := by decide +kernel
theorem dX6_acted_9 : decode cX6_acted 9 = .ok (.istore_n 2, 1) := by decide +kernel
theorem dX6_acted_10 : decode cX6_acted 10 = .ok (.iload_n 2, 1) := by decide +kernel
theorem dX6_acted_11 : decode cX6_acted 11 = .ok (.sipush 246, 3) := by decide +kernel
theorem dX6_acted_14 : decode cX6_acted 14 = .ok (.if_icmp .ge 24, 3) := by decide +kernel
theorem dX6_acted_17 : decode cX6_acted 17 = .ok (.aload_n 0, 1) := by decide +kernel
theorem dX6_acted_18 : decode cX6_acted 18 = .ok (.getfield 16, 3) := by decide +kernel
theorem dX6_acted_21 : decode cX6_acted 21 = .ok (.iload_n 2, 1) := by decide +kernel
theorem dX6_acted_22 : decode cX6_acted 22 = .ok (.aload_n 0, 1) := by decide +kernel
theorem dX6_acted_23 : decode cX6_acted 23 = .ok (.getfield 16, 3) := by decide +kernel
theorem dX6_acted_26 : decode cX6_acted 26 = .ok (.iload_n 2, 1) := by decide +kernel
theorem dX6_acted_27 : decode cX6_acted 27 = .ok (.bipush 82, 2) := by decide +kernel
theorem dX6_acted_29 : decode cX6_acted 29 = .ok (.iadd, 1) := by decide +kernel
theorem dX6_acted_30 : decode cX6_acted 30 = .ok (.iaload, 1) := by decide +kernel
theorem dX6_acted_31 : decode cX6_acted 31 = .ok (.iastore, 1) := by decide +kernel
theorem dX6_acted_32 : decode cX6_acted 32 = .ok (.iinc 2 1, 3) := by decide +kernel
theorem dX6_acted_35 : decode cX6_acted 35 = .ok (.goto (-25), 3) := by decide +kernel
theorem dX6_acted_38 : decode cX6_acted 38 = .ok (.aload_n 0, 1) := by decide +kernel
theorem dX6_acted_39 : decode cX6_acted 39 = .ok (.dup, 1) := by decide +kernel
theorem dX6_acted_40 : decode cX6_acted 40 = .ok (.getfield 44, 3) := by decide +kernel
theorem dX6_acted_43 : decode cX6_acted 43 = .ok (.iconst 1, 1) := by decide +kernel
theorem dX6_acted_44 : decode cX6_acted 44 = .ok (.isub, 1) := by decide +kernel
theorem dX6_acted_45 : decode cX6_acted 45 = .ok (.putfield 44, 3) := by decide +kernel
theorem dX6_acted_48 : decode cX6_acted 48 = .ok (.iconst 0, 1) := by decide +kernel
theorem dX6_acted_49 : decode cX6_acted 49 = .ok (.istore_n 2, 1) := by decide +kernel
theorem dX6_acted_50 : decode cX6_acted 50 = .ok (.iload_n 2, 1) := by decide +kernel
theorem dX6_acted_51 : decode cX6_acted 51 = .ok (.bipush 82, 2) := by decide +kernel
theorem dX6_acted_53 : decode cX6_acted 53 = .ok (.if_icmp .ge 29, 3) := by decide +kernel
theorem dX6_acted_56 : decode cX6_acted 56 = .ok (.aload_n 0, 1) := by decide +kernel
theorem dX6_acted_57 : decode cX6_acted 57 = .ok (.getfield 16, 3) := by decide +kernel
theorem dX6_acted_60 : decode cX6_acted 60 = .ok (.bipush 82, 2) := by decide +kernel
theorem dX6_acted_62 : decode cX6_acted 62 = .ok (.aload_n 0, 1) := by decide +kernel
theorem dX6_acted_63 : decode cX6_acted 63 = .ok (.getfield 44, 3) := by decide +kernel
theorem dX6_acted_66 : decode cX6_acted 66 = .ok (.imul, 1) := by decide +kernel
theorem dX6_acted_67 : decode cX6_acted 67 = .ok (.iload_n 2, 1) := by decide +kernel
theorem dX6_acted_68 : decode cX6_acted 68 = .ok (.iadd, 1) := by decide +kernel
theorem dX6_acted_69 : decode cX6_acted 69 = .ok (.aload_n 0, 1) := by decide +kernel
theorem dX6_acted_70 : decode cX6_acted 70 = .ok (.getfield 13, 3) := by decide +kernel
theorem dX6_acted_73 : decode cX6_acted 73 = .ok (.iload_n 2, 1) := by decide +kernel
theorem dX6_acted_74 : decode cX6_acted 74 = .ok (.iaload, 1) := by decide +kernel
theorem dX6_acted_75 : decode cX6_acted 75 = .ok (.iastore, 1) := by decide +kernel
theorem dX6_acted_76 : decode cX6_acted 76 = .ok (.iinc 2 1, 3) := by decide +kernel
theorem dX6_acted_79 : decode cX6_acted 79 = .ok (.goto (-29), 3) := by decide +kernel
theorem dX6_acted_82 : decode cX6_acted 82 = .ok (.aload_n 0, 1) := by decide +kernel
theorem dX6_acted_83 : decode cX6_acted 83 = .ok (.dup, 1) := by decide +kernel
theorem dX6_acted_84 : decode cX6_acted 84 = .ok (.getfield 44, 3) := by decide +kernel
theorem dX6_acted_87 : decode cX6_acted 87 = .ok (.iconst 1, 1) := by decide +kernel
theorem dX6_acted_88 : decode cX6_acted 88 = .ok (.iadd, 1) := by decide +kernel
theorem dX6_acted_89 : decode cX6_acted 89 = .ok (.putfield 44, 3) := by decide +kernel
theorem dX6_acted_92 : decode cX6_acted 92 = .ok (.iload_n 1, 1) := by decide +kernel
theorem dX6_acted_93 : decode cX6_acted 93 = .ok (.ireturn, 1) := by decide +kernel
theorem dX6_of_0 : decode cX6_of 0 = .ok (.aload_n 0, 1) := by decide +kernel
theorem dX6_of_1 : decode cX6_of 1 = .ok (.getfield 7, 3) := by decide +kernel
theorem dX6_of_4 : decode cX6_of 4 = .ok (.iconst 2, 1) := by decide +kernel
theorem dX6_of_5 : decode cX6_of 5 = .ok (.iconst 4, 1) := by decide +kernel
theorem dX6_of_6 : decode cX6_of 6 = .ok (.iload_n 1, 1) := by decide +kernel
theorem dX6_of_7 : decode cX6_of 7 = .ok (.imul, 1) := by decide +kernel
theorem dX6_of_8 : decode cX6_of 8 = .ok (.iadd, 1) := by decide +kernel
theorem dX6_of_9 : decode cX6_of 9 = .ok (.iload_n 2, 1) := by decide +kernel
theorem dX6_of_10 : decode cX6_of 10 = .ok (.iadd, 1) := by decide +kernel
theorem dX6_of_11 : decode cX6_of 11 = .ok (.iaload, 1) := by decide +kernel
theorem dX6_of_12 : decode cX6_of 12 = .ok (.ireturn, 1) := by decide +kernel
set_option maxRecDepth 20000 in
theorem ggX6_isRow_X6_in : GoodIn wsX6_isRow wsX6_in := goodIn_r _ [5] (by decide +kernel) (by decide +kernel)
set_option maxRecDepth 20000 in
theorem gX6_isRow_X6_in : GoodIn wsX6_isRow (va_wsS RX6 47 yX6_in wsX6_in) := goodIn_app (goodIn_of _ (by decide +kernel)) ggX6_isRow_X6_in
theorem dX6_isRow_0 : decode cX6_isRow 0 = .ok (.iload_n 1, 1) := by decide +kernel
theorem dX6_isRow_1 : decode cX6_isRow 1 = .ok (.i2l, 1) := by decide +kernel
theorem dX6_isRow_2 : decode cX6_isRow 2 = .ok (.lconst 0, 1) := by decide +kernel
theorem dX6_isRow_3 : decode cX6_isRow 3 = .ok (.aload_n 0, 1) := by decide +kernel
theorem dX6_isRow_4 : decode cX6_isRow 4 = .ok (.getfield 7, 3) := by decide +kernel
theorem dX6_isRow_7 : decode cX6_isRow 7 = .ok (.iconst 0, 1) := by decide +kernel
theorem dX6_isRow_8 : decode cX6_isRow 8 = .ok (.iaload, 1) := by decide +kernel
theorem dX6_isRow_9 : decode cX6_isRow 9 = .ok (.i2l, 1) := by decide +kernel
theorem dX6_isRow_10 : decode cX6_isRow 10 = .ok (.lconst 1, 1) := by decide +kernel
theorem dX6_isRow_11 : decode cX6_isRow 11 = .ok (.lsub, 1) := by decide +kernel
theorem dX6_isRow_12 : decode cX6_isRow 12 = .ok (.invokestatic 47, 3) := by decide +kernel
theorem dX6_isRow_15 : decode cX6_isRow 15 = .ok (.ireturn, 1) := by decide +kernel
set_option maxRecDepth 20000 in
theorem ggX6_isKey_X6_in : GoodIn wsX6_isKey wsX6_in := goodIn_r _ [5] (by decide +kernel) (by decide +kernel)
set_option maxRecDepth 20000 in
theorem gX6_isKey_X6_in : GoodIn wsX6_isKey (va_wsS RX6 47 yX6_in wsX6_in) := goodIn_app (goodIn_of _ (by decide +kernel)) ggX6_isKey_X6_in
theorem dX6_isKey_0 : decode cX6_isKey 0 = .ok (.iload_n 0, 1) := by decide +kernel
theorem dX6_isKey_1 : decode cX6_isKey 1 = .ok (.i2l, 1) := by decide +kernel
theorem dX6_isKey_2 : decode cX6_isKey 2 = .ok (.lconst 0, 1) := by decide +kernel
theorem dX6_isKey_3 : decode cX6_isKey 3 = .ok (.ldc2_w 51, 3) := by decide +kernel
theorem dX6_isKey_6 : decode cX6_isKey 6 = .ok (.invokestatic 47, 3) := by decide +kernel
theorem dX6_isKey_9 : decode cX6_isKey 9 = .ok (.ireturn, 1) := by decide +kernel
set_option maxRecDepth 20000 in
theorem ggX6_rowsOf_X6_of : GoodIn wsX6_rowsOf wsX6_of := goodIn_r _ [6, 1, 7, 8, 9, 10, 11, 12, 13, 14, 15, 16, 17, 18, 19, 20, 21, 22, 23, 24, 25, 26] (by decide +kernel) (by decide +kernel)
set_option maxRecDepth 20000 in
theorem gX6_rowsOf_X6_of : GoodIn wsX6_rowsOf (wsV RX6 53 RX6 yX6_of wsX6_of) := goodIn_app (goodIn_of _ (by decide +kernel)) ggX6_rowsOf_X6_of
theorem dX6_rowsOf_0 : decode cX6_rowsOf 0 = .ok (.iconst 0, 1) := by decide +kernel
theorem dX6_rowsOf_1 : decode cX6_rowsOf 1 = .ok (.istore_n 2, 1) := by decide +kernel
theorem dX6_rowsOf_2 : decode cX6_rowsOf 2 = .ok (.iconst 0, 1) := by decide +kernel
theorem dX6_rowsOf_3 : decode cX6_rowsOf 3 = .ok (.istore_n 3, 1) := by decide +kernel
theorem dX6_rowsOf_4 : decode cX6_rowsOf 4 = .ok (.iload_n 3, 1) := by decide +kernel
theorem dX6_rowsOf_5 : decode cX6_rowsOf 5 = .ok (.aload_n 0, 1) := by decide +kernel
theorem dX6_rowsOf_6 : decode cX6_rowsOf 6 = .ok (.getfield 7, 3) := by decide +kernel
theorem dX6_rowsOf_9 : decode cX6_rowsOf 9 = .ok (.iconst 0, 1) := by decide +kernel
theorem dX6_rowsOf_10 : decode cX6_rowsOf 10 = .ok (.iaload, 1) := by decide +kernel
theorem dX6_rowsOf_11 : decode cX6_rowsOf 11 = .ok (.if_icmp .ge 27, 3) := by decide +kernel
theorem dX6_rowsOf_14 : decode cX6_rowsOf 14 = .ok (.iload_n 2, 1) := by decide +kernel
theorem dX6_rowsOf_15 : decode cX6_rowsOf 15 = .ok (.aload_n 0, 1) := by decide +kernel
theorem dX6_rowsOf_16 : decode cX6_rowsOf 16 = .ok (.iload_n 3, 1) := by decide +kernel
theorem dX6_rowsOf_17 : decode cX6_rowsOf 17 = .ok (.iconst 0, 1) := by decide +kernel
theorem dX6_rowsOf_18 : decode cX6_rowsOf 18 = .ok (.invokevirtual 53, 3) := by decide +kernel
theorem dX6_rowsOf_21 : decode cX6_rowsOf 21 = .ok (.iload_n 1, 1) := by decide +kernel
theorem dX6_rowsOf_22 : decode cX6_rowsOf 22 = .ok (.if_icmp .ne 7, 3) := by decide +kernel
theorem dX6_rowsOf_25 : decode cX6_rowsOf 25 = .ok (.iconst 1, 1) := by decide +kernel
theorem dX6_rowsOf_26 : decode cX6_rowsOf 26 = .ok (.goto 4, 3) := by decide +kernel
theorem dX6_rowsOf_29 : decode cX6_rowsOf 29 = .ok (.iconst 0, 1) := by decide +kernel
theorem dX6_rowsOf_30 : decode cX6_rowsOf 30 = .ok (.iadd, 1) := by decide +kernel
theorem dX6_rowsOf_31 : decode cX6_rowsOf 31 = .ok (.istore_n 2, 1) := by decide +kernel
theorem dX6_rowsOf_32 : decode cX6_rowsOf 32 = .ok (.iinc 3 1, 3) := by decide +kernel
theorem dX6_rowsOf_35 : decode cX6_rowsOf 35 = .ok (.goto (-31), 3) := by decide +kernel
theorem dX6_rowsOf_38 : decode cX6_rowsOf 38 = .ok (.iload_n 2, 1) := by decide +kernel
theorem dX6_rowsOf_39 : decode cX6_rowsOf 39 = .ok (.ireturn, 1) := by decide +kernel
set_option maxRecDepth 20000 in
theorem ggX6_outermost_X6_of : GoodIn wsX6_outermost wsX6_of := goodIn_r _ [6, 1, 7, 8, 9, 10, 11, 12, 13, 14, 15, 16, 17, 18, 19, 20, 21, 22, 23, 24, 25, 26] (by decide +kernel) (by decide +kernel)
set_option maxRecDepth 20000 in
theorem gX6_outermost_X6_of : GoodIn wsX6_outermost (wsV RX6 53 RX6 yX6_of wsX6_of) := goodIn_app (goodIn_of _ (by decide +kernel)) ggX6_outermost_X6_of
theorem dX6_outermost_0 : decode cX6_outermost 0 = .ok (.bipush (-5), 2) := by decide +kernel
theorem dX6_outermost_2 : decode cX6_outermost 2 = .ok (.istore_n 3, 1) := by decide +kernel
theorem dX6_outermost_3 : decode cX6_outermost 3 = .ok (.iconst 0, 1) := by decide +kernel
theorem dX6_outermost_4 : decode cX6_outermost 4 = .ok (.istore 4, 2) := by decide +kernel
theorem dX6_outermost_6 : decode cX6_outermost 6 = .ok (.iload 4, 2) := by decide +kernel
theorem dX6_outermost_8 : decode cX6_outermost 8 = .ok (.aload_n 0, 1) := by decide +kernel
theorem dX6_outermost_9 : decode cX6_outermost 9 = .ok (.getfield 7, 3) := by decide +kernel
theorem dX6_outermost_12 : decode cX6_outermost 12 = .ok (.iconst 0, 1) := by decide +kernel
theorem dX6_outermost_13 : decode cX6_outermost 13 = .ok (.iaload, 1) := by decide +kernel
theorem dX6_outermost_14 : decode cX6_outermost 14 = .ok (.if_icmp .ge 79, 3) := by decide +kernel
theorem dX6_outermost_17 : decode cX6_outermost 17 = .ok (.aload_n 0, 1) := by decide +kernel
theorem dX6_outermost_18 : decode cX6_outermost 18 = .ok (.iload 4, 2) := by decide +kernel
theorem dX6_outermost_20 : decode cX6_outermost 20 = .ok (.iconst 0, 1) := by decide +kernel
theorem dX6_outermost_21 : decode cX6_outermost 21 = .ok (.invokevirtual 53, 3) := by decide +kernel
theorem dX6_outermost_24 : decode cX6_outermost 24 = .ok (.iload_n 1, 1) := by decide +kernel
theorem dX6_outermost_25 : decode cX6_outermost 25 = .ok (.if_icmp .ne 62, 3) := by decide +kernel
theorem dX6_outermost_28 : decode cX6_outermost 28 = .ok (.iload_n 3, 1) := by decide +kernel
theorem dX6_outermost_29 : decode cX6_outermost 29 = .ok (.bipush (-5), 2) := by decide +kernel
theorem dX6_outermost_31 : decode cX6_outermost 31 = .ok (.if_icmp .ne 7, 3) := by decide +kernel
theorem dX6_outermost_34 : decode cX6_outermost 34 = .ok (.iconst 1, 1) := by decide +kernel
theorem dX6_outermost_35 : decode cX6_outermost 35 = .ok (.goto 38, 3) := by decide +kernel
theorem dX6_outermost_38 : decode cX6_outermost 38 = .ok (.iload_n 2, 1) := by decide +kernel
theorem dX6_outermost_39 : decode cX6_outermost 39 = .ok (.ifCond .eq 20, 3) := by decide +kernel
theorem dX6_outermost_42 : decode cX6_outermost 42 = .ok (.aload_n 0, 1) := by decide +kernel
theorem dX6_outermost_43 : decode cX6_outermost 43 = .ok (.iload 4, 2) := by decide +kernel
theorem dX6_outermost_45 : decode cX6_outermost 45 = .ok (.iconst 2, 1) := by decide +kernel
theorem dX6_outermost_46 : decode cX6_outermost 46 = .ok (.invokevirtual 53, 3) := by decide +kernel
theorem dX6_outermost_49 : decode cX6_outermost 49 = .ok (.aload_n 0, 1) := by decide +kernel
theorem dX6_outermost_50 : decode cX6_outermost 50 = .ok (.iload_n 3, 1) := by decide +kernel
theorem dX6_outermost_51 : decode cX6_outermost 51 = .ok (.iconst 2, 1) := by decide +kernel
theorem dX6_outermost_52 : decode cX6_outermost 52 = .ok (.invokevirtual 53, 3) := by decide +kernel
theorem dX6_outermost_55 : decode cX6_outermost 55 = .ok (.isub, 1) := by decide +kernel
theorem dX6_outermost_56 : decode cX6_outermost 56 = .ok (.goto 17, 3) := by decide +kernel
theorem dX6_outermost_59 : decode cX6_outermost 59 = .ok (.aload_n 0, 1) := by decide +kernel
theorem dX6_outermost_60 : decode cX6_outermost 60 = .ok (.iload_n 3, 1) := by decide +kernel
theorem dX6_outermost_61 : decode cX6_outermost 61 = .ok (.iconst 2, 1) := by decide +kernel
theorem dX6_outermost_62 : decode cX6_outermost 62 = .ok (.invokevirtual 53, 3) := by decide +kernel
theorem dX6_outermost_65 : decode cX6_outermost 65 = .ok (.aload_n 0, 1) := by decide +kernel
theorem dX6_outermost_66 : decode cX6_outermost 66 = .ok (.iload 4, 2) := by decide +kernel
theorem dX6_outermost_68 : decode cX6_outermost 68 = .ok (.iconst 2, 1) := by decide +kernel
theorem dX6_outermost_69 : decode cX6_outermost 69 = .ok (.invokevirtual 53, 3) := by decide +kernel
theorem dX6_outermost_72 : decode cX6_outermost 72 = .ok (.isub, 1) := by decide +kernel
theorem dX6_outermost_73 : decode cX6_outermost 73 = .ok (.istore 5, 2) := by decide +kernel
theorem dX6_outermost_75 : decode cX6_outermost 75 = .ok (.iload 5, 2) := by decide +kernel
theorem dX6_outermost_77 : decode cX6_outermost 77 = .ok (.ifCond .le 8, 3) := by decide +kernel
theorem dX6_outermost_80 : decode cX6_outermost 80 = .ok (.iload 4, 2) := by decide +kernel
theorem dX6_outermost_82 : decode cX6_outermost 82 = .ok (.goto 4, 3) := by decide +kernel
theorem dX6_outermost_85 : decode cX6_outermost 85 = .ok (.iload_n 3, 1) := by decide +kernel
theorem dX6_outermost_86 : decode cX6_outermost 86 = .ok (.istore_n 3, 1) := by decide +kernel
theorem dX6_outermost_87 : decode cX6_outermost 87 = .ok (.iinc 4 1, 3) := by decide +kernel
theorem dX6_outermost_90 : decode cX6_outermost 90 = .ok (.goto (-84), 3) := by decide +kernel
theorem dX6_outermost_93 : decode cX6_outermost 93 = .ok (.iload_n 3, 1) := by decide +kernel
theorem dX6_outermost_94 : decode cX6_outermost 94 = .ok (.ireturn, 1) := by decide +kernel
set_option maxRecDepth 20000 in
theorem ggX6_canBeKept_X6_of : GoodIn wsX6_canBeKept wsX6_of := goodIn_r _ [6, 1, 11, 12, 13, 14, 15, 16, 17, 18, 19, 20, 21, 22, 23, 24, 25, 26, 27, 28, 29, 30] (by decide +kernel) (by decide +kernel)
set_option maxRecDepth 20000 in
theorem gX6_canBeKept_X6_of : GoodIn wsX6_canBeKept (wsV RX6 53 RX6 yX6_of wsX6_of) := goodIn_app (goodIn_of _ (by decide +kernel)) ggX6_canBeKept_X6_of
set_option maxRecDepth 20000 in
theorem ggX6_canBeKept_X6_outermost : GoodIn wsX6_canBeKept wsX6_outermost := goodIn_r _ [10, 1, 2, 3, 4, 5, 6, 11, 12, 13, 14, 15, 16, 17, 18, 19, 20, 21, 22, 23, 24, 25, 26, 27, 28, 29, 30] (by decide +kernel) (by decide +kernel)
set_option maxRecDepth 20000 in
theorem gX6_canBeKept_X6_outermost : GoodIn wsX6_canBeKept (wsV RX6 57 RX6 yX6_outermost wsX6_outermost) := goodIn_app (goodIn_of _ (by decide +kernel)) ggX6_canBeKept_X6_outermost
theorem dX6_canBeKept_0 : decode cX6_canBeKept 0 = .ok (.aload_n 0, 1) := by decide +kernel
theorem dX6_canBeKept_1 : decode cX6_canBeKept 1 = .ok (.getfield 7, 3) := by decide +kernel
theorem dX6_canBeKept_4 : decode cX6_canBeKept 4 = .ok (.iconst 1, 1) := by decide +kernel
theorem dX6_canBeKept_5 : decode cX6_canBeKept 5 = .ok (.iaload, 1) := by decide +kernel
theorem dX6_canBeKept_6 : decode cX6_canBeKept 6 = .ok (.ifCond .eq 28, 3) := by decide +kernel
theorem dX6_canBeKept_9 : decode cX6_canBeKept 9 = .ok (.aload_n 0, 1) := by decide +kernel
theorem dX6_canBeKept_10 : decode cX6_canBeKept 10 = .ok (.iload_n 1, 1) := by decide +kernel
theorem dX6_canBeKept_11 : decode cX6_canBeKept 11 = .ok (.iconst 2, 1) := by decide +kernel
theorem dX6_canBeKept_12 : decode cX6_canBeKept 12 = .ok (.invokevirtual 53, 3) := by decide +kernel
theorem dX6_canBeKept_15 : decode cX6_canBeKept 15 = .ok (.aload_n 0, 1) := by decide +kernel
theorem dX6_canBeKept_16 : decode cX6_canBeKept 16 = .ok (.aload_n 0, 1) := by decide +kernel
theorem dX6_canBeKept_17 : decode cX6_canBeKept 17 = .ok (.aload_n 0, 1) := by decide +kernel
theorem dX6_canBeKept_18 : decode cX6_canBeKept 18 = .ok (.iload_n 1, 1) := by decide +kernel
theorem dX6_canBeKept_19 : decode cX6_canBeKept 19 = .ok (.iconst 0, 1) := by decide +kernel
theorem dX6_canBeKept_20 : decode cX6_canBeKept 20 = .ok (.invokevirtual 53, 3) := by decide +kernel
theorem dX6_canBeKept_23 : decode cX6_canBeKept 23 = .ok (.iconst 1, 1) := by decide +kernel
theorem dX6_canBeKept_24 : decode cX6_canBeKept 24 = .ok (.invokevirtual 57, 3) := by decide +kernel
theorem dX6_canBeKept_27 : decode cX6_canBeKept 27 = .ok (.iconst 2, 1) := by decide +kernel
theorem dX6_canBeKept_28 : decode cX6_canBeKept 28 = .ok (.invokevirtual 53, 3) := by decide +kernel
theorem dX6_canBeKept_31 : decode cX6_canBeKept 31 = .ok (.if_icmp .ne 7, 3) := by decide +kernel
theorem dX6_canBeKept_34 : decode cX6_canBeKept 34 = .ok (.iconst 1, 1) := by decide +kernel
theorem dX6_canBeKept_35 : decode cX6_canBeKept 35 = .ok (.goto 4, 3) := by decide +kernel
theorem dX6_canBeKept_38 : decode cX6_canBeKept 38 = .ok (.iconst 0, 1) := by decide +kernel
theorem dX6_canBeKept_39 : decode cX6_canBeKept 39 = .ok (.ireturn, 1) := by decide +kernel
theorem dX6_puts_0 : decode cX6_puts 0 = .ok (.iconst 2, 1) := by decide +kernel
theorem dX6_puts_1 : decode cX6_puts 1 = .ok (.iconst 4, 1) := by decide +kernel
theorem dX6_puts_2 : decode cX6_puts 2 = .ok (.aload_n 0, 1) := by decide +kernel
theorem dX6_puts_3 : decode cX6_puts 3 = .ok (.getfield 7, 3) := by decide +kernel
theorem dX6_puts_6 : decode cX6_puts 6 = .ok (.iconst 0, 1) := by decide +kernel
theorem dX6_puts_7 : decode cX6_puts 7 = .ok (.iaload, 1) := by decide +kernel
theorem dX6_puts_8 : decode cX6_puts 8 = .ok (.imul, 1) := by decide +kernel
theorem dX6_puts_9 : decode cX6_puts 9 = .ok (.iadd, 1) := by decide +kernel
theorem dX6_puts_10 : decode cX6_puts 10 = .ok (.istore 5, 2) := by decide +kernel
theorem dX6_puts_12 : decode cX6_puts 12 = .ok (.aload_n 0, 1) := by decide +kernel
theorem dX6_puts_13 : decode cX6_puts 13 = .ok (.getfield 7, 3) := by decide +kernel
theorem dX6_puts_16 : decode cX6_puts 16 = .ok (.iload 5, 2) := by decide +kernel
theorem dX6_puts_18 : decode cX6_puts 18 = .ok (.iconst 0, 1) := by decide +kernel
theorem dX6_puts_19 : decode cX6_puts 19 = .ok (.iadd, 1) := by decide +kernel
theorem dX6_puts_20 : decode cX6_puts 20 = .ok (.iload_n 1, 1) := by decide +kernel
theorem dX6_puts_21 : decode cX6_puts 21 = .ok (.iastore, 1) := by decide +kernel
theorem dX6_puts_22 : decode cX6_puts 22 = .ok (.aload_n 0, 1) := by decide +kernel
theorem dX6_puts_23 : decode cX6_puts 23 = .ok (.getfield 7, 3) := by decide +kernel
theorem dX6_puts_26 : decode cX6_puts 26 = .ok (.iload 5, 2) := by decide +kernel
theorem dX6_puts_28 : decode cX6_puts 28 = .ok (.iconst 1, 1) := by decide +kernel
theorem dX6_puts_29 : decode cX6_puts 29 = .ok (.iadd, 1) := by decide +kernel
theorem dX6_puts_30 : decode cX6_puts 30 = .ok (.iload_n 2, 1) := by decide +kernel
theorem dX6_puts_31 : decode cX6_puts 31 = .ok (.iastore, 1) := by decide +kernel
theorem dX6_puts_32 : decode cX6_puts 32 = .ok (.aload_n 0, 1) := by decide +kernel
theorem dX6_puts_33 : decode cX6_puts 33 = .ok (.getfield 7, 3) := by decide +kernel
theorem dX6_puts_36 : decode cX6_puts 36 = .ok (.iload 5, 2) := by decide +kernel
theorem dX6_puts_38 : decode cX6_puts 38 = .ok (.iconst 2, 1) := by decide +kernel
theorem dX6_puts_39 : decode cX6_puts 39 = .ok (.iadd, 1) := by decide +kernel
theorem dX6_puts_40 : decode cX6_puts 40 = .ok (.iload_n 3, 1) := by decide +kernel
theorem dX6_puts_41 : decode cX6_puts 41 = .ok (.iastore, 1) := by decide +kernel
theorem dX6_puts_42 : decode cX6_puts 42 = .ok (.aload_n 0, 1) := by decide +kernel
theorem dX6_puts_43 : decode cX6_puts 43 = .ok (.getfield 7, 3) := by decide +kernel
theorem dX6_puts_46 : decode cX6_puts 46 = .ok (.iload 5, 2) := by decide +kernel
theorem dX6_puts_48 : decode cX6_puts 48 = .ok (.iconst 3, 1) := by decide +kernel
theorem dX6_puts_49 : decode cX6_puts 49 = .ok (.iadd, 1) := by decide +kernel
theorem dX6_puts_50 : decode cX6_puts 50 = .ok (.iload 4, 2) := by decide +kernel
theorem dX6_puts_52 : decode cX6_puts 52 = .ok (.iastore, 1) := by decide +kernel
theorem dX6_puts_53 : decode cX6_puts 53 = .ok (.aload_n 0, 1) := by decide +kernel
theorem dX6_puts_54 : decode cX6_puts 54 = .ok (.getfield 7, 3) := by decide +kernel
theorem dX6_puts_57 : decode cX6_puts 57 = .ok (.iconst 0, 1) := by decide +kernel
theorem dX6_puts_58 : decode cX6_puts 58 = .ok (.dup2, 1) := by decide +kernel
theorem dX6_puts_59 : decode cX6_puts 59 = .ok (.iaload, 1) := by decide +kernel
theorem dX6_puts_60 : decode cX6_puts 60 = .ok (.iconst 1, 1) := by decide +kernel
theorem dX6_puts_61 : decode cX6_puts 61 = .ok (.iadd, 1) := by decide +kernel
theorem dX6_puts_62 : decode cX6_puts 62 = .ok (.iastore, 1) := by decide +kernel
theorem dX6_puts_63 : decode cX6_puts 63 = .ok (.return_, 1) := by decide +kernel
theorem dX6_takesOut_0 : decode cX6_takesOut 0 = .ok (.aload_n 0, 1) := by decide +kernel
theorem dX6_takesOut_1 : decode cX6_takesOut 1 = .ok (.getfield 7, 3) := by decide +kernel
theorem dX6_takesOut_4 : decode cX6_takesOut 4 = .ok (.iconst 0, 1) := by decide +kernel
theorem dX6_takesOut_5 : decode cX6_takesOut 5 = .ok (.dup2, 1) := by decide +kernel
theorem dX6_takesOut_6 : decode cX6_takesOut 6 = .ok (.iaload, 1) := by decide +kernel
theorem dX6_takesOut_7 : decode cX6_takesOut 7 = .ok (.iconst 1, 1) := by decide +kernel
theorem dX6_takesOut_8 : decode cX6_takesOut 8 = .ok (.isub, 1) := by decide +kernel
theorem dX6_takesOut_9 : decode cX6_takesOut 9 = .ok (.iastore, 1) := by decide +kernel
theorem dX6_takesOut_10 : decode cX6_takesOut 10 = .ok (.iconst 2, 1) := by decide +kernel
theorem dX6_takesOut_11 : decode cX6_takesOut 11 = .ok (.iconst 4, 1) := by decide +kernel
theorem dX6_takesOut_12 : decode cX6_takesOut 12 = .ok (.iload_n 1, 1) := by decide +kernel
theorem dX6_takesOut_13 : decode cX6_takesOut 13 = .ok (.imul, 1) := by decide +kernel
theorem dX6_takesOut_14 : decode cX6_takesOut 14 = .ok (.iadd, 1) := by decide +kernel
theorem dX6_takesOut_15 : decode cX6_takesOut 15 = .ok (.istore_n 2, 1) := by decide +kernel
theorem dX6_takesOut_16 : decode cX6_takesOut 16 = .ok (.iload_n 2, 1) := by decide +kernel
theorem dX6_takesOut_17 : decode cX6_takesOut 17 = .ok (.iconst 2, 1) := by decide +kernel
theorem dX6_takesOut_18 : decode cX6_takesOut 18 = .ok (.iconst 4, 1) := by decide +kernel
theorem dX6_takesOut_19 : decode cX6_takesOut 19 = .ok (.aload_n 0, 1) := by decide +kernel
theorem dX6_takesOut_20 : decode cX6_takesOut 20 = .ok (.getfield 7, 3) := by decide +kernel
theorem dX6_takesOut_23 : decode cX6_takesOut 23 = .ok (.iconst 0, 1) := by decide +kernel
theorem dX6_takesOut_24 : decode cX6_takesOut 24 = .ok (.iaload, 1) := by decide +kernel
theorem dX6_takesOut_25 : decode cX6_takesOut 25 = .ok (.imul, 1) := by decide +kernel
theorem dX6_takesOut_26 : decode cX6_takesOut 26 = .ok (.iadd, 1) := by decide +kernel
theorem dX6_takesOut_27 : decode cX6_takesOut 27 = .ok (.if_icmp .ge 23, 3) := by decide +kernel
theorem dX6_takesOut_30 : decode cX6_takesOut 30 = .ok (.aload_n 0, 1) := by decide +kernel
theorem dX6_takesOut_31 : decode cX6_takesOut 31 = .ok (.getfield 7, 3) := by decide +kernel
theorem dX6_takesOut_34 : decode cX6_takesOut 34 = .ok (.iload_n 2, 1) := by decide +kernel
theorem dX6_takesOut_35 : decode cX6_takesOut 35 = .ok (.aload_n 0, 1) := by decide +kernel
theorem dX6_takesOut_36 : decode cX6_takesOut 36 = .ok (.getfield 7, 3) := by decide +kernel
theorem dX6_takesOut_39 : decode cX6_takesOut 39 = .ok (.iload_n 2, 1) := by decide +kernel
theorem dX6_takesOut_40 : decode cX6_takesOut 40 = .ok (.iconst 4, 1) := by decide +kernel
theorem dX6_takesOut_41 : decode cX6_takesOut 41 = .ok (.iadd, 1) := by decide +kernel
theorem dX6_takesOut_42 : decode cX6_takesOut 42 = .ok (.iaload, 1) := by decide +kernel
theorem dX6_takesOut_43 : decode cX6_takesOut 43 = .ok (.iastore, 1) := by decide +kernel
theorem dX6_takesOut_44 : decode cX6_takesOut 44 = .ok (.iinc 2 1, 3) := by decide +kernel
theorem dX6_takesOut_47 : decode cX6_takesOut 47 = .ok (.goto (-31), 3) := by decide +kernel
theorem dX6_takesOut_50 : decode cX6_takesOut 50 = .ok (.return_, 1) := by decide +kernel
set_option maxRecDepth 20000 in
theorem ggX6_mends_X6_of : GoodIn wsX6_mends wsX6_of := goodIn_r _ [6, 1, 11, 12, 13, 14, 15, 16, 17, 18, 19, 20, 21, 22, 23, 24, 25, 26, 27, 28, 29, 30] (by decide +kernel) (by decide +kernel)
set_option maxRecDepth 20000 in
theorem gX6_mends_X6_of : GoodIn wsX6_mends (wsV RX6 53 RX6 yX6_of wsX6_of) := goodIn_app (goodIn_of _ (by decide +kernel)) ggX6_mends_X6_of
set_option maxRecDepth 20000 in
theorem ggX6_mends_X6_takesOut : GoodIn wsX6_mends wsX6_takesOut := goodIn_r _ [10, 1, 11, 12, 13, 14, 15, 16, 17, 18, 19, 20, 21, 22, 23, 24, 25, 26, 27, 28, 29, 30] (by decide +kernel) (by decide +kernel)
set_option maxRecDepth 20000 in
theorem gX6_mends_X6_takesOut : GoodIn wsX6_mends (wsV RX6 61 RX6 yX6_takesOut wsX6_takesOut) := goodIn_app (goodIn_of _ (by decide +kernel)) ggX6_mends_X6_takesOut
theorem dX6_mends_0 : decode cX6_mends 0 = .ok (.aload_n 0, 1) := by decide +kernel
theorem dX6_mends_1 : decode cX6_mends 1 = .ok (.iload_n 1, 1) := by decide +kernel
theorem dX6_mends_2 : decode cX6_mends 2 = .ok (.iconst 0, 1) := by decide +kernel
theorem dX6_mends_3 : decode cX6_mends 3 = .ok (.invokevirtual 53, 3) := by decide +kernel
theorem dX6_mends_6 : decode cX6_mends 6 = .ok (.istore_n 2, 1) := by decide +kernel
theorem dX6_mends_7 : decode cX6_mends 7 = .ok (.iconst 0, 1) := by decide +kernel
theorem dX6_mends_8 : decode cX6_mends 8 = .ok (.istore_n 3, 1) := by decide +kernel
theorem dX6_mends_9 : decode cX6_mends 9 = .ok (.aload_n 0, 1) := by decide +kernel
theorem dX6_mends_10 : decode cX6_mends 10 = .ok (.getfield 7, 3) := by decide +kernel
theorem dX6_mends_13 : decode cX6_mends 13 = .ok (.iconst 0, 1) := by decide +kernel
theorem dX6_mends_14 : decode cX6_mends 14 = .ok (.iaload, 1) := by decide +kernel
theorem dX6_mends_15 : decode cX6_mends 15 = .ok (.iconst 1, 1) := by decide +kernel
theorem dX6_mends_16 : decode cX6_mends 16 = .ok (.isub, 1) := by decide +kernel
theorem dX6_mends_17 : decode cX6_mends 17 = .ok (.istore 4, 2) := by decide +kernel
theorem dX6_mends_19 : decode cX6_mends 19 = .ok (.iload 4, 2) := by decide +kernel
theorem dX6_mends_21 : decode cX6_mends 21 = .ok (.ifCond .lt 35, 3) := by decide +kernel
theorem dX6_mends_24 : decode cX6_mends 24 = .ok (.iload 4, 2) := by decide +kernel
theorem dX6_mends_26 : decode cX6_mends 26 = .ok (.iload_n 1, 1) := by decide +kernel
theorem dX6_mends_27 : decode cX6_mends 27 = .ok (.if_icmp .eq 23, 3) := by decide +kernel
theorem dX6_mends_30 : decode cX6_mends 30 = .ok (.aload_n 0, 1) := by decide +kernel
theorem dX6_mends_31 : decode cX6_mends 31 = .ok (.iload 4, 2) := by decide +kernel
theorem dX6_mends_33 : decode cX6_mends 33 = .ok (.iconst 0, 1) := by decide +kernel
theorem dX6_mends_34 : decode cX6_mends 34 = .ok (.invokevirtual 53, 3) := by decide +kernel
theorem dX6_mends_37 : decode cX6_mends 37 = .ok (.iload_n 2, 1) := by decide +kernel
theorem dX6_mends_38 : decode cX6_mends 38 = .ok (.if_icmp .ne 12, 3) := by decide +kernel
theorem dX6_mends_41 : decode cX6_mends 41 = .ok (.aload_n 0, 1) := by decide +kernel
theorem dX6_mends_42 : decode cX6_mends 42 = .ok (.iload 4, 2) := by decide +kernel
theorem dX6_mends_44 : decode cX6_mends 44 = .ok (.invokevirtual 61, 3) := by decide +kernel
theorem dX6_mends_47 : decode cX6_mends 47 = .ok (.iinc 3 1, 3) := by decide +kernel
theorem dX6_mends_50 : decode cX6_mends 50 = .ok (.iinc 4 (-1), 3) := by decide +kernel
theorem dX6_mends_53 : decode cX6_mends 53 = .ok (.goto (-34), 3) := by decide +kernel
theorem dX6_mends_56 : decode cX6_mends 56 = .ok (.iload_n 3, 1) := by decide +kernel
theorem dX6_mends_57 : decode cX6_mends 57 = .ok (.ireturn, 1) := by decide +kernel
set_option maxRecDepth 20000 in
theorem ggX6_findsChoices_X6_of : GoodIn wsX6_findsChoices wsX6_of := goodIn_r _ [9, 2, 18, 19, 20, 21, 22, 23, 24, 25, 26, 27, 28, 29, 30, 31, 32, 33, 34, 35, 36, 37] (by decide +kernel) (by decide +kernel)
set_option maxRecDepth 20000 in
theorem gX6_findsChoices_X6_of : GoodIn wsX6_findsChoices (wsV RX6 53 RX6 yX6_of wsX6_of) := goodIn_app (goodIn_of _ (by decide +kernel)) ggX6_findsChoices_X6_of
set_option maxRecDepth 20000 in
theorem ggX6_findsChoices_X6_canBeKept : GoodIn wsX6_findsChoices wsX6_canBeKept := goodIn_r _ [13, 2, 5, 6, 7, 8, 9, 14, 15, 16, 17, 18, 19, 20, 21, 22, 23, 24, 25, 26, 27, 28, 29, 30, 31, 32, 33, 34, 35, 36, 37] (by decide +kernel) (by decide +kernel)
set_option maxRecDepth 20000 in
theorem gX6_findsChoices_X6_canBeKept : GoodIn wsX6_findsChoices (wsV RX6 65 RX6 yX6_canBeKept wsX6_canBeKept) := goodIn_app (goodIn_of _ (by decide +kernel)) ggX6_findsChoices_X6_canBeKept
theorem dX6_findsChoices_0 : decode cX6_findsChoices 0 = .ok (.iconst 0, 1) := by decide +kernel
theorem dX6_findsChoices_1 : decode cX6_findsChoices 1 = .ok (.istore_n 1, 1) := by decide +kernel
theorem dX6_findsChoices_2 : decode cX6_findsChoices 2 = .ok (.iload_n 1, 1) := by decide +kernel
theorem dX6_findsChoices_3 : decode cX6_findsChoices 3 = .ok (.bipush 10, 2) := by decide +kernel
theorem dX6_findsChoices_5 : decode cX6_findsChoices 5 = .ok (.if_icmp .ge 16, 3) := by decide +kernel
theorem dX6_findsChoices_8 : decode cX6_findsChoices 8 = .ok (.aload_n 0, 1) := by decide +kernel
theorem dX6_findsChoices_9 : decode cX6_findsChoices 9 = .ok (.getfield 25, 3) := by decide +kernel
theorem dX6_findsChoices_12 : decode cX6_findsChoices 12 = .ok (.iload_n 1, 1) := by decide +kernel
theorem dX6_findsChoices_13 : decode cX6_findsChoices 13 = .ok (.iconst 0, 1) := by decide +kernel
theorem dX6_findsChoices_14 : decode cX6_findsChoices 14 = .ok (.iastore, 1) := by decide +kernel
theorem dX6_findsChoices_15 : decode cX6_findsChoices 15 = .ok (.iinc 1 1, 3) := by decide +kernel
theorem dX6_findsChoices_18 : decode cX6_findsChoices 18 = .ok (.goto (-16), 3) := by decide +kernel
theorem dX6_findsChoices_21 : decode cX6_findsChoices 21 = .ok (.iconst 0, 1) := by decide +kernel
theorem dX6_findsChoices_22 : decode cX6_findsChoices 22 = .ok (.istore_n 1, 1) := by decide +kernel
theorem dX6_findsChoices_23 : decode cX6_findsChoices 23 = .ok (.iload_n 1, 1) := by decide +kernel
theorem dX6_findsChoices_24 : decode cX6_findsChoices 24 = .ok (.aload_n 0, 1) := by decide +kernel
theorem dX6_findsChoices_25 : decode cX6_findsChoices 25 = .ok (.getfield 7, 3) := by decide +kernel
theorem dX6_findsChoices_28 : decode cX6_findsChoices 28 = .ok (.iconst 0, 1) := by decide +kernel
theorem dX6_findsChoices_29 : decode cX6_findsChoices 29 = .ok (.iaload, 1) := by decide +kernel
theorem dX6_findsChoices_30 : decode cX6_findsChoices 30 = .ok (.if_icmp .ge 91, 3) := by decide +kernel
theorem dX6_findsChoices_33 : decode cX6_findsChoices 33 = .ok (.aload_n 0, 1) := by decide +kernel
theorem dX6_findsChoices_34 : decode cX6_findsChoices 34 = .ok (.iload_n 1, 1) := by decide +kernel
theorem dX6_findsChoices_35 : decode cX6_findsChoices 35 = .ok (.iconst 0, 1) := by decide +kernel
theorem dX6_findsChoices_36 : decode cX6_findsChoices 36 = .ok (.invokevirtual 53, 3) := by decide +kernel
theorem dX6_findsChoices_39 : decode cX6_findsChoices 39 = .ok (.istore_n 2, 1) := by decide +kernel
theorem dX6_findsChoices_40 : decode cX6_findsChoices 40 = .ok (.aload_n 0, 1) := by decide +kernel
theorem dX6_findsChoices_41 : decode cX6_findsChoices 41 = .ok (.getfield 31, 3) := by decide +kernel
theorem dX6_findsChoices_44 : decode cX6_findsChoices 44 = .ok (.bipush (-5), 2) := by decide +kernel
theorem dX6_findsChoices_46 : decode cX6_findsChoices 46 = .ok (.if_icmp .eq 32, 3) := by decide +kernel
theorem dX6_findsChoices_49 : decode cX6_findsChoices 49 = .ok (.aload_n 0, 1) := by decide +kernel
theorem dX6_findsChoices_50 : decode cX6_findsChoices 50 = .ok (.aload_n 0, 1) := by decide +kernel
theorem dX6_findsChoices_51 : decode cX6_findsChoices 51 = .ok (.getfield 31, 3) := by decide +kernel
theorem dX6_findsChoices_54 : decode cX6_findsChoices 54 = .ok (.iconst 0, 1) := by decide +kernel
theorem dX6_findsChoices_55 : decode cX6_findsChoices 55 = .ok (.invokevirtual 53, 3) := by decide +kernel
theorem dX6_findsChoices_58 : decode cX6_findsChoices 58 = .ok (.iload_n 2, 1) := by decide +kernel
theorem dX6_findsChoices_59 : decode cX6_findsChoices 59 = .ok (.if_icmp .ne 19, 3) := by decide +kernel
theorem dX6_findsChoices_62 : decode cX6_findsChoices 62 = .ok (.iload_n 1, 1) := by decide +kernel
theorem dX6_findsChoices_63 : decode cX6_findsChoices 63 = .ok (.aload_n 0, 1) := by decide +kernel
theorem dX6_findsChoices_64 : decode cX6_findsChoices 64 = .ok (.getfield 31, 3) := by decide +kernel
theorem dX6_findsChoices_67 : decode cX6_findsChoices 67 = .ok (.if_icmp .ne 7, 3) := by decide +kernel
theorem dX6_findsChoices_70 : decode cX6_findsChoices 70 = .ok (.iconst 1, 1) := by decide +kernel
theorem dX6_findsChoices_71 : decode cX6_findsChoices 71 = .ok (.goto 12, 3) := by decide +kernel
theorem dX6_findsChoices_74 : decode cX6_findsChoices 74 = .ok (.iconst 0, 1) := by decide +kernel
theorem dX6_findsChoices_75 : decode cX6_findsChoices 75 = .ok (.goto 8, 3) := by decide +kernel
theorem dX6_findsChoices_78 : decode cX6_findsChoices 78 = .ok (.aload_n 0, 1) := by decide +kernel
theorem dX6_findsChoices_79 : decode cX6_findsChoices 79 = .ok (.iload_n 1, 1) := by decide +kernel
theorem dX6_findsChoices_80 : decode cX6_findsChoices 80 = .ok (.invokevirtual 65, 3) := by decide +kernel
theorem dX6_findsChoices_83 : decode cX6_findsChoices 83 = .ok (.istore_n 3, 1) := by decide +kernel
theorem dX6_findsChoices_84 : decode cX6_findsChoices 84 = .ok (.iload_n 3, 1) := by decide +kernel
theorem dX6_findsChoices_85 : decode cX6_findsChoices 85 = .ok (.ifCond .eq 30, 3) := by decide +kernel
theorem dX6_findsChoices_88 : decode cX6_findsChoices 88 = .ok (.aload_n 0, 1) := by decide +kernel
theorem dX6_findsChoices_89 : decode cX6_findsChoices 89 = .ok (.getfield 22, 3) := by decide +kernel
theorem dX6_findsChoices_92 : decode cX6_findsChoices 92 = .ok (.bipush 20, 2) := by decide +kernel
theorem dX6_findsChoices_94 : decode cX6_findsChoices 94 = .ok (.iload_n 2, 1) := by decide +kernel
theorem dX6_findsChoices_95 : decode cX6_findsChoices 95 = .ok (.imul, 1) := by decide +kernel
theorem dX6_findsChoices_96 : decode cX6_findsChoices 96 = .ok (.aload_n 0, 1) := by decide +kernel
theorem dX6_findsChoices_97 : decode cX6_findsChoices 97 = .ok (.getfield 25, 3) := by decide +kernel
theorem dX6_findsChoices_100 : decode cX6_findsChoices 100 = .ok (.iload_n 2, 1) := by decide +kernel
theorem dX6_findsChoices_101 : decode cX6_findsChoices 101 = .ok (.iaload, 1) := by decide +kernel
theorem dX6_findsChoices_102 : decode cX6_findsChoices 102 = .ok (.iadd, 1) := by decide +kernel
theorem dX6_findsChoices_103 : decode cX6_findsChoices 103 = .ok (.iload_n 1, 1) := by decide +kernel
theorem dX6_findsChoices_104 : decode cX6_findsChoices 104 = .ok (.iastore, 1) := by decide +kernel
theorem dX6_findsChoices_105 : decode cX6_findsChoices 105 = .ok (.aload_n 0, 1) := by decide +kernel
theorem dX6_findsChoices_106 : decode cX6_findsChoices 106 = .ok (.getfield 25, 3) := by decide +kernel
theorem dX6_findsChoices_109 : decode cX6_findsChoices 109 = .ok (.iload_n 2, 1) := by decide +kernel
theorem dX6_findsChoices_110 : decode cX6_findsChoices 110 = .ok (.dup2, 1) := by decide +kernel
theorem dX6_findsChoices_111 : decode cX6_findsChoices 111 = .ok (.iaload, 1) := by decide +kernel
theorem dX6_findsChoices_112 : decode cX6_findsChoices 112 = .ok (.iconst 1, 1) := by decide +kernel
theorem dX6_findsChoices_113 : decode cX6_findsChoices 113 = .ok (.iadd, 1) := by decide +kernel
theorem dX6_findsChoices_114 : decode cX6_findsChoices 114 = .ok (.iastore, 1) := by decide +kernel
theorem dX6_findsChoices_115 : decode cX6_findsChoices 115 = .ok (.iinc 1 1, 3) := by decide +kernel
theorem dX6_findsChoices_118 : decode cX6_findsChoices 118 = .ok (.goto (-95), 3) := by decide +kernel
theorem dX6_findsChoices_121 : decode cX6_findsChoices 121 = .ok (.return_, 1) := by decide +kernel
theorem dX6_mendings_0 : decode cX6_mendings 0 = .ok (.iconst 1, 1) := by decide +kernel
theorem dX6_mendings_1 : decode cX6_mendings 1 = .ok (.istore_n 1, 1) := by decide +kernel
theorem dX6_mendings_2 : decode cX6_mendings 2 = .ok (.iconst 0, 1) := by decide +kernel
theorem dX6_mendings_3 : decode cX6_mendings 3 = .ok (.istore_n 2, 1) := by decide +kernel
theorem dX6_mendings_4 : decode cX6_mendings 4 = .ok (.iload_n 2, 1) := by decide +kernel
theorem dX6_mendings_5 : decode cX6_mendings 5 = .ok (.bipush 10, 2) := by decide +kernel
theorem dX6_mendings_7 : decode cX6_mendings 7 = .ok (.if_icmp .ge 31, 3) := by decide +kernel
theorem dX6_mendings_10 : decode cX6_mendings 10 = .ok (.iload_n 1, 1) := by decide +kernel
theorem dX6_mendings_11 : decode cX6_mendings 11 = .ok (.aload_n 0, 1) := by decide +kernel
theorem dX6_mendings_12 : decode cX6_mendings 12 = .ok (.getfield 25, 3) := by decide +kernel
theorem dX6_mendings_15 : decode cX6_mendings 15 = .ok (.iload_n 2, 1) := by decide +kernel
theorem dX6_mendings_16 : decode cX6_mendings 16 = .ok (.iaload, 1) := by decide +kernel
theorem dX6_mendings_17 : decode cX6_mendings 17 = .ok (.ifCond .ne 7, 3) := by decide +kernel
theorem dX6_mendings_20 : decode cX6_mendings 20 = .ok (.iconst 1, 1) := by decide +kernel
theorem dX6_mendings_21 : decode cX6_mendings 21 = .ok (.goto 9, 3) := by decide +kernel
theorem dX6_mendings_24 : decode cX6_mendings 24 = .ok (.aload_n 0, 1) := by decide +kernel
theorem dX6_mendings_25 : decode cX6_mendings 25 = .ok (.getfield 25, 3) := by decide +kernel
theorem dX6_mendings_28 : decode cX6_mendings 28 = .ok (.iload_n 2, 1) := by decide +kernel
theorem dX6_mendings_29 : decode cX6_mendings 29 = .ok (.iaload, 1) := by decide +kernel
theorem dX6_mendings_30 : decode cX6_mendings 30 = .ok (.imul, 1) := by decide +kernel
theorem dX6_mendings_31 : decode cX6_mendings 31 = .ok (.istore_n 1, 1) := by decide +kernel
theorem dX6_mendings_32 : decode cX6_mendings 32 = .ok (.iinc 2 1, 3) := by decide +kernel
theorem dX6_mendings_35 : decode cX6_mendings 35 = .ok (.goto (-31), 3) := by decide +kernel
theorem dX6_mendings_38 : decode cX6_mendings 38 = .ok (.iload_n 1, 1) := by decide +kernel
theorem dX6_mendings_39 : decode cX6_mendings 39 = .ok (.ireturn, 1) := by decide +kernel
theorem dX6_takes_0 : decode cX6_takes 0 = .ok (.iload_n 1, 1) := by decide +kernel
theorem dX6_takes_1 : decode cX6_takes 1 = .ok (.istore_n 2, 1) := by decide +kernel
theorem dX6_takes_2 : decode cX6_takes 2 = .ok (.iconst 0, 1) := by decide +kernel
theorem dX6_takes_3 : decode cX6_takes 3 = .ok (.istore_n 3, 1) := by decide +kernel
theorem dX6_takes_4 : decode cX6_takes 4 = .ok (.iload_n 3, 1) := by decide +kernel
theorem dX6_takes_5 : decode cX6_takes 5 = .ok (.bipush 10, 2) := by decide +kernel
theorem dX6_takes_7 : decode cX6_takes 7 = .ok (.if_icmp .ge 61, 3) := by decide +kernel
theorem dX6_takes_10 : decode cX6_takes 10 = .ok (.aload_n 0, 1) := by decide +kernel
theorem dX6_takes_11 : decode cX6_takes 11 = .ok (.getfield 25, 3) := by decide +kernel
theorem dX6_takes_14 : decode cX6_takes 14 = .ok (.iload_n 3, 1) := by decide +kernel
theorem dX6_takes_15 : decode cX6_takes 15 = .ok (.iaload, 1) := by decide +kernel
theorem dX6_takes_16 : decode cX6_takes 16 = .ok (.istore 4, 2) := by decide +kernel
theorem dX6_takes_18 : decode cX6_takes 18 = .ok (.aload_n 0, 1) := by decide +kernel
theorem dX6_takes_19 : decode cX6_takes 19 = .ok (.getfield 28, 3) := by decide +kernel
theorem dX6_takes_22 : decode cX6_takes 22 = .ok (.iload_n 3, 1) := by decide +kernel
theorem dX6_takes_23 : decode cX6_takes 23 = .ok (.iload 4, 2) := by decide +kernel
theorem dX6_takes_25 : decode cX6_takes 25 = .ok (.ifCond .ne 8, 3) := by decide +kernel
theorem dX6_takes_28 : decode cX6_takes 28 = .ok (.bipush (-5), 2) := by decide +kernel
theorem dX6_takes_30 : decode cX6_takes 30 = .ok (.goto 17, 3) := by decide +kernel
theorem dX6_takes_33 : decode cX6_takes 33 = .ok (.aload_n 0, 1) := by decide +kernel
theorem dX6_takes_34 : decode cX6_takes 34 = .ok (.getfield 22, 3) := by decide +kernel
theorem dX6_takes_37 : decode cX6_takes 37 = .ok (.bipush 20, 2) := by decide +kernel
theorem dX6_takes_39 : decode cX6_takes 39 = .ok (.iload_n 3, 1) := by decide +kernel
theorem dX6_takes_40 : decode cX6_takes 40 = .ok (.imul, 1) := by decide +kernel
theorem dX6_takes_41 : decode cX6_takes 41 = .ok (.iload_n 2, 1) := by decide +kernel
theorem dX6_takes_42 : decode cX6_takes 42 = .ok (.iload 4, 2) := by decide +kernel
theorem dX6_takes_44 : decode cX6_takes 44 = .ok (.irem, 1) := by decide +kernel
theorem dX6_takes_45 : decode cX6_takes 45 = .ok (.iadd, 1) := by decide +kernel
theorem dX6_takes_46 : decode cX6_takes 46 = .ok (.iaload, 1) := by decide +kernel
theorem dX6_takes_47 : decode cX6_takes 47 = .ok (.iastore, 1) := by decide +kernel
theorem dX6_takes_48 : decode cX6_takes 48 = .ok (.iload 4, 2) := by decide +kernel
theorem dX6_takes_50 : decode cX6_takes 50 = .ok (.ifCond .ne 7, 3) := by decide +kernel
theorem dX6_takes_53 : decode cX6_takes 53 = .ok (.iload_n 2, 1) := by decide +kernel
theorem dX6_takes_54 : decode cX6_takes 54 = .ok (.goto 7, 3) := by decide +kernel
theorem dX6_takes_57 : decode cX6_takes 57 = .ok (.iload_n 2, 1) := by decide +kernel
theorem dX6_takes_58 : decode cX6_takes 58 = .ok (.iload 4, 2) := by decide +kernel
theorem dX6_takes_60 : decode cX6_takes 60 = .ok (.idiv, 1) := by decide +kernel
theorem dX6_takes_61 : decode cX6_takes 61 = .ok (.istore_n 2, 1) := by decide +kernel
theorem dX6_takes_62 : decode cX6_takes 62 = .ok (.iinc 3 1, 3) := by decide +kernel
theorem dX6_takes_65 : decode cX6_takes 65 = .ok (.goto (-61), 3) := by decide +kernel
theorem dX6_takes_68 : decode cX6_takes 68 = .ok (.return_, 1) := by decide +kernel
set_option maxRecDepth 20000 in
theorem ggX6_wayLong_X6_of : GoodIn wsX6_wayLong wsX6_of := goodIn_r _ [6, 7, 8, 9, 10, 11, 12, 13, 14, 15, 16, 17, 18, 19, 20, 21, 22, 23, 24, 25, 26, 27] (by decide +kernel) (by decide +kernel)
set_option maxRecDepth 20000 in
theorem gX6_wayLong_X6_of : GoodIn wsX6_wayLong (wsV RX6 53 RX6 yX6_of wsX6_of) := goodIn_app (goodIn_of _ (by decide +kernel)) ggX6_wayLong_X6_of
theorem dX6_wayLong_0 : decode cX6_wayLong 0 = .ok (.iload_n 1, 1) := by decide +kernel
theorem dX6_wayLong_1 : decode cX6_wayLong 1 = .ok (.istore_n 3, 1) := by decide +kernel
theorem dX6_wayLong_2 : decode cX6_wayLong 2 = .ok (.iconst 0, 1) := by decide +kernel
theorem dX6_wayLong_3 : decode cX6_wayLong 3 = .ok (.istore 4, 2) := by decide +kernel
theorem dX6_wayLong_5 : decode cX6_wayLong 5 = .ok (.iload 4, 2) := by decide +kernel
theorem dX6_wayLong_7 : decode cX6_wayLong 7 = .ok (.bipush 10, 2) := by decide +kernel
theorem dX6_wayLong_9 : decode cX6_wayLong 9 = .ok (.if_icmp .ge 49, 3) := by decide +kernel
theorem dX6_wayLong_12 : decode cX6_wayLong 12 = .ok (.iload_n 3, 1) := by decide +kernel
theorem dX6_wayLong_13 : decode cX6_wayLong 13 = .ok (.bipush (-5), 2) := by decide +kernel
theorem dX6_wayLong_15 : decode cX6_wayLong 15 = .ok (.if_icmp .eq 14, 3) := by decide +kernel
theorem dX6_wayLong_18 : decode cX6_wayLong 18 = .ok (.aload_n 0, 1) := by decide +kernel
theorem dX6_wayLong_19 : decode cX6_wayLong 19 = .ok (.getfield 28, 3) := by decide +kernel
theorem dX6_wayLong_22 : decode cX6_wayLong 22 = .ok (.iload_n 3, 1) := by decide +kernel
theorem dX6_wayLong_23 : decode cX6_wayLong 23 = .ok (.iaload, 1) := by decide +kernel
theorem dX6_wayLong_24 : decode cX6_wayLong 24 = .ok (.bipush (-5), 2) := by decide +kernel
theorem dX6_wayLong_26 : decode cX6_wayLong 26 = .ok (.if_icmp .ne 6, 3) := by decide +kernel
theorem dX6_wayLong_29 : decode cX6_wayLong 29 = .ok (.bipush (-5), 2) := by decide +kernel
theorem dX6_wayLong_31 : decode cX6_wayLong 31 = .ok (.ireturn, 1) := by decide +kernel
theorem dX6_wayLong_32 : decode cX6_wayLong 32 = .ok (.iload_n 3, 1) := by decide +kernel
theorem dX6_wayLong_33 : decode cX6_wayLong 33 = .ok (.iload_n 2, 1) := by decide +kernel
theorem dX6_wayLong_34 : decode cX6_wayLong 34 = .ok (.if_icmp .ne 6, 3) := by decide +kernel
theorem dX6_wayLong_37 : decode cX6_wayLong 37 = .ok (.iload 4, 2) := by decide +kernel
theorem dX6_wayLong_39 : decode cX6_wayLong 39 = .ok (.ireturn, 1) := by decide +kernel
theorem dX6_wayLong_40 : decode cX6_wayLong 40 = .ok (.aload_n 0, 1) := by decide +kernel
theorem dX6_wayLong_41 : decode cX6_wayLong 41 = .ok (.aload_n 0, 1) := by decide +kernel
theorem dX6_wayLong_42 : decode cX6_wayLong 42 = .ok (.getfield 28, 3) := by decide +kernel
theorem dX6_wayLong_45 : decode cX6_wayLong 45 = .ok (.iload_n 3, 1) := by decide +kernel
theorem dX6_wayLong_46 : decode cX6_wayLong 46 = .ok (.iaload, 1) := by decide +kernel
theorem dX6_wayLong_47 : decode cX6_wayLong 47 = .ok (.iconst 3, 1) := by decide +kernel
theorem dX6_wayLong_48 : decode cX6_wayLong 48 = .ok (.invokevirtual 53, 3) := by decide +kernel
theorem dX6_wayLong_51 : decode cX6_wayLong 51 = .ok (.istore_n 3, 1) := by decide +kernel
theorem dX6_wayLong_52 : decode cX6_wayLong 52 = .ok (.iinc 4 1, 3) := by decide +kernel
theorem dX6_wayLong_55 : decode cX6_wayLong 55 = .ok (.goto (-50), 3) := by decide +kernel
theorem dX6_wayLong_58 : decode cX6_wayLong 58 = .ok (.bipush (-5), 2) := by decide +kernel
theorem dX6_wayLong_60 : decode cX6_wayLong 60 = .ok (.ireturn, 1) := by decide +kernel
set_option maxRecDepth 20000 in
theorem ggX6_kept_X6_of : GoodIn wsX6_kept wsX6_of := goodIn_r _ [6, 7, 8, 9, 10, 11, 12, 13, 14, 15, 16, 17, 18, 19, 20, 21, 22, 23, 24, 25, 26, 27] (by decide +kernel) (by decide +kernel)
set_option maxRecDepth 20000 in
theorem gX6_kept_X6_of : GoodIn wsX6_kept (wsV RX6 53 RX6 yX6_of wsX6_of) := goodIn_app (goodIn_of _ (by decide +kernel)) ggX6_kept_X6_of
theorem dX6_kept_0 : decode cX6_kept 0 = .ok (.iconst 0, 1) := by decide +kernel
theorem dX6_kept_1 : decode cX6_kept 1 = .ok (.istore_n 2, 1) := by decide +kernel
theorem dX6_kept_2 : decode cX6_kept 2 = .ok (.iconst 0, 1) := by decide +kernel
theorem dX6_kept_3 : decode cX6_kept 3 = .ok (.istore_n 3, 1) := by decide +kernel
theorem dX6_kept_4 : decode cX6_kept 4 = .ok (.iload_n 3, 1) := by decide +kernel
theorem dX6_kept_5 : decode cX6_kept 5 = .ok (.bipush 10, 2) := by decide +kernel
theorem dX6_kept_7 : decode cX6_kept 7 = .ok (.if_icmp .ge 43, 3) := by decide +kernel
theorem dX6_kept_10 : decode cX6_kept 10 = .ok (.iload_n 2, 1) := by decide +kernel
theorem dX6_kept_11 : decode cX6_kept 11 = .ok (.aload_n 0, 1) := by decide +kernel
theorem dX6_kept_12 : decode cX6_kept 12 = .ok (.getfield 28, 3) := by decide +kernel
theorem dX6_kept_15 : decode cX6_kept 15 = .ok (.iload_n 3, 1) := by decide +kernel
theorem dX6_kept_16 : decode cX6_kept 16 = .ok (.iaload, 1) := by decide +kernel
theorem dX6_kept_17 : decode cX6_kept 17 = .ok (.bipush (-5), 2) := by decide +kernel
theorem dX6_kept_19 : decode cX6_kept 19 = .ok (.if_icmp .eq 22, 3) := by decide +kernel
theorem dX6_kept_22 : decode cX6_kept 22 = .ok (.aload_n 0, 1) := by decide +kernel
theorem dX6_kept_23 : decode cX6_kept 23 = .ok (.aload_n 0, 1) := by decide +kernel
theorem dX6_kept_24 : decode cX6_kept 24 = .ok (.getfield 28, 3) := by decide +kernel
theorem dX6_kept_27 : decode cX6_kept 27 = .ok (.iload_n 3, 1) := by decide +kernel
theorem dX6_kept_28 : decode cX6_kept 28 = .ok (.iaload, 1) := by decide +kernel
theorem dX6_kept_29 : decode cX6_kept 29 = .ok (.iconst 1, 1) := by decide +kernel
theorem dX6_kept_30 : decode cX6_kept 30 = .ok (.invokevirtual 53, 3) := by decide +kernel
theorem dX6_kept_33 : decode cX6_kept 33 = .ok (.iload_n 1, 1) := by decide +kernel
theorem dX6_kept_34 : decode cX6_kept 34 = .ok (.if_icmp .ne 7, 3) := by decide +kernel
theorem dX6_kept_37 : decode cX6_kept 37 = .ok (.iconst 1, 1) := by decide +kernel
theorem dX6_kept_38 : decode cX6_kept 38 = .ok (.goto 4, 3) := by decide +kernel
theorem dX6_kept_41 : decode cX6_kept 41 = .ok (.iconst 0, 1) := by decide +kernel
theorem dX6_kept_42 : decode cX6_kept 42 = .ok (.iadd, 1) := by decide +kernel
theorem dX6_kept_43 : decode cX6_kept 43 = .ok (.istore_n 2, 1) := by decide +kernel
theorem dX6_kept_44 : decode cX6_kept 44 = .ok (.iinc 3 1, 3) := by decide +kernel
theorem dX6_kept_47 : decode cX6_kept 47 = .ok (.goto (-43), 3) := by decide +kernel
theorem dX6_kept_50 : decode cX6_kept 50 = .ok (.iload_n 2, 1) := by decide +kernel
theorem dX6_kept_51 : decode cX6_kept 51 = .ok (.ireturn, 1) := by decide +kernel
set_option maxRecDepth 20000 in
theorem ggX6_isValue_X6_in : GoodIn wsX6_isValue wsX6_in := goodIn_r _ [6] (by decide +kernel) (by decide +kernel)
set_option maxRecDepth 20000 in
theorem gX6_isValue_X6_in : GoodIn wsX6_isValue (va_wsS RX6 47 yX6_in wsX6_in) := goodIn_app (goodIn_of _ (by decide +kernel)) ggX6_isValue_X6_in
theorem dX6_isValue_0 : decode cX6_isValue 0 = .ok (.iload_n 0, 1) := by decide +kernel
theorem dX6_isValue_1 : decode cX6_isValue 1 = .ok (.i2l, 1) := by decide +kernel
theorem dX6_isValue_2 : decode cX6_isValue 2 = .ok (.ldc2_w 69, 3) := by decide +kernel
theorem dX6_isValue_5 : decode cX6_isValue 5 = .ok (.ldc2_w 71, 3) := by decide +kernel
theorem dX6_isValue_8 : decode cX6_isValue 8 = .ok (.invokestatic 47, 3) := by decide +kernel
theorem dX6_isValue_11 : decode cX6_isValue 11 = .ok (.ireturn, 1) := by decide +kernel
set_option maxRecDepth 20000 in
theorem ggX6_add_X6_isKey : GoodIn wsX6_add wsX6_isKey := goodIn_r _ [6, 7, 8, 9, 5, 10] (by decide +kernel) (by decide +kernel)
set_option maxRecDepth 20000 in
theorem gX6_add_X6_isKey : GoodIn wsX6_add (va_wsS RX6 73 yX6_isKey wsX6_isKey) := goodIn_app (goodIn_of _ (by decide +kernel)) ggX6_add_X6_isKey
set_option maxRecDepth 20000 in
theorem ggX6_add_X6_isValue : GoodIn wsX6_add wsX6_isValue := goodIn_r _ [13, 14, 15, 8, 9, 5, 10] (by decide +kernel) (by decide +kernel)
set_option maxRecDepth 20000 in
theorem gX6_add_X6_isValue : GoodIn wsX6_add (va_wsS RX6 76 yX6_isValue wsX6_isValue) := goodIn_app (goodIn_of _ (by decide +kernel)) ggX6_add_X6_isValue
set_option maxRecDepth 20000 in
theorem ggX6_add_X6_in : GoodIn wsX6_add wsX6_in := goodIn_r _ [10] (by decide +kernel) (by decide +kernel)
set_option maxRecDepth 20000 in
theorem gX6_add_X6_in : GoodIn wsX6_add (va_wsS RX6 47 yX6_in wsX6_in) := goodIn_app (goodIn_of _ (by decide +kernel)) ggX6_add_X6_in
set_option maxRecDepth 20000 in
theorem ggX6_add_X6_remember : GoodIn wsX6_add wsX6_remember := goodIn_r _ [19, 20, 2, 31, 32, 33, 34, 35, 36, 37, 38, 39, 40, 41, 42, 43, 44, 45, 46, 47, 48, 49, 50] (by decide +kernel) (by decide +kernel)
set_option maxRecDepth 20000 in
theorem gX6_add_X6_remember : GoodIn wsX6_add (wsV RX6 81 RX6 yX6_remember wsX6_remember) := goodIn_app (goodIn_of _ (by decide +kernel)) ggX6_add_X6_remember
set_option maxRecDepth 20000 in
theorem ggX6_add_X6_puts : GoodIn wsX6_add wsX6_puts := goodIn_r _ [24, 2, 31, 32, 33, 34, 35, 36, 37, 38, 39, 40, 41, 42, 43, 44, 45, 46, 47, 48, 49, 50] (by decide +kernel) (by decide +kernel)
set_option maxRecDepth 20000 in
theorem gX6_add_X6_puts : GoodIn wsX6_add (wsV RX6 84 RX6 yX6_puts wsX6_puts) := goodIn_app (goodIn_of _ (by decide +kernel)) ggX6_add_X6_puts
set_option maxRecDepth 20000 in
theorem ggX6_add_X6_acted : GoodIn wsX6_add wsX6_acted := goodIn_r _ [28, 29, 30, 20, 31, 32, 33, 34, 35, 36, 37, 38, 39, 40, 41, 42, 43, 44, 45, 46, 47, 48, 49, 50] (by decide +kernel) (by decide +kernel)
set_option maxRecDepth 20000 in
theorem gX6_add_X6_acted : GoodIn wsX6_add (wsV RX6 88 RX6 yX6_acted wsX6_acted) := goodIn_app (goodIn_of _ (by decide +kernel)) ggX6_add_X6_acted
theorem dX6_add_0 : decode cX6_add 0 = .ok (.iload_n 1, 1) := by decide +kernel
theorem dX6_add_1 : decode cX6_add 1 = .ok (.invokestatic 73, 3) := by decide +kernel
theorem dX6_add_4 : decode cX6_add 4 = .ok (.ifCond .eq 18, 3) := by decide +kernel
theorem dX6_add_7 : decode cX6_add 7 = .ok (.iload 4, 2) := by decide +kernel
theorem dX6_add_9 : decode cX6_add 9 = .ok (.invokestatic 73, 3) := by decide +kernel
theorem dX6_add_12 : decode cX6_add 12 = .ok (.ifCond .ne 12, 3) := by decide +kernel
theorem dX6_add_15 : decode cX6_add 15 = .ok (.iload 4, 2) := by decide +kernel
theorem dX6_add_17 : decode cX6_add 17 = .ok (.bipush (-5), 2) := by decide +kernel
theorem dX6_add_19 : decode cX6_add 19 = .ok (.if_icmp .eq 5, 3) := by decide +kernel
theorem dX6_add_22 : decode cX6_add 22 = .ok (.iconst (-1), 1) := by decide +kernel
theorem dX6_add_23 : decode cX6_add 23 = .ok (.ireturn, 1) := by decide +kernel
theorem dX6_add_24 : decode cX6_add 24 = .ok (.iload_n 2, 1) := by decide +kernel
theorem dX6_add_25 : decode cX6_add 25 = .ok (.invokestatic 76, 3) := by decide +kernel
theorem dX6_add_28 : decode cX6_add 28 = .ok (.ifCond .eq 15, 3) := by decide +kernel
theorem dX6_add_31 : decode cX6_add 31 = .ok (.iload_n 3, 1) := by decide +kernel
theorem dX6_add_32 : decode cX6_add 32 = .ok (.i2l, 1) := by decide +kernel
theorem dX6_add_33 : decode cX6_add 33 = .ok (.lconst 0, 1) := by decide +kernel
theorem dX6_add_34 : decode cX6_add 34 = .ok (.ldc2_w 79, 3) := by decide +kernel
theorem dX6_add_37 : decode cX6_add 37 = .ok (.invokestatic 47, 3) := by decide +kernel
theorem dX6_add_40 : decode cX6_add 40 = .ok (.ifCond .ne 6, 3) := by decide +kernel
theorem dX6_add_43 : decode cX6_add 43 = .ok (.bipush (-2), 2) := by decide +kernel
theorem dX6_add_45 : decode cX6_add 45 = .ok (.ireturn, 1) := by decide +kernel
theorem dX6_add_46 : decode cX6_add 46 = .ok (.aload_n 0, 1) := by decide +kernel
theorem dX6_add_47 : decode cX6_add 47 = .ok (.getfield 7, 3) := by decide +kernel
theorem dX6_add_50 : decode cX6_add 50 = .ok (.iconst 0, 1) := by decide +kernel
theorem dX6_add_51 : decode cX6_add 51 = .ok (.iaload, 1) := by decide +kernel
theorem dX6_add_52 : decode cX6_add 52 = .ok (.bipush 20, 2) := by decide +kernel
theorem dX6_add_54 : decode cX6_add 54 = .ok (.if_icmp .ne 6, 3) := by decide +kernel
theorem dX6_add_57 : decode cX6_add 57 = .ok (.bipush (-3), 2) := by decide +kernel
theorem dX6_add_59 : decode cX6_add 59 = .ok (.ireturn, 1) := by decide +kernel
theorem dX6_add_60 : decode cX6_add 60 = .ok (.aload_n 0, 1) := by decide +kernel
theorem dX6_add_61 : decode cX6_add 61 = .ok (.invokevirtual 81, 3) := by decide +kernel
theorem dX6_add_64 : decode cX6_add 64 = .ok (.aload_n 0, 1) := by decide +kernel
theorem dX6_add_65 : decode cX6_add 65 = .ok (.iload_n 1, 1) := by decide +kernel
theorem dX6_add_66 : decode cX6_add 66 = .ok (.iload_n 2, 1) := by decide +kernel
theorem dX6_add_67 : decode cX6_add 67 = .ok (.bipush 97, 2) := by decide +kernel
theorem dX6_add_69 : decode cX6_add 69 = .ok (.isub, 1) := by decide +kernel
theorem dX6_add_70 : decode cX6_add 70 = .ok (.iload_n 3, 1) := by decide +kernel
theorem dX6_add_71 : decode cX6_add 71 = .ok (.iload 4, 2) := by decide +kernel
theorem dX6_add_73 : decode cX6_add 73 = .ok (.invokevirtual 84, 3) := by decide +kernel
theorem dX6_add_76 : decode cX6_add 76 = .ok (.aload_n 0, 1) := by decide +kernel
theorem dX6_add_77 : decode cX6_add 77 = .ok (.aload_n 0, 1) := by decide +kernel
theorem dX6_add_78 : decode cX6_add 78 = .ok (.getfield 7, 3) := by decide +kernel
theorem dX6_add_81 : decode cX6_add 81 = .ok (.iconst 0, 1) := by decide +kernel
theorem dX6_add_82 : decode cX6_add 82 = .ok (.iaload, 1) := by decide +kernel
theorem dX6_add_83 : decode cX6_add 83 = .ok (.iconst 1, 1) := by decide +kernel
theorem dX6_add_84 : decode cX6_add 84 = .ok (.isub, 1) := by decide +kernel
theorem dX6_add_85 : decode cX6_add 85 = .ok (.invokevirtual 88, 3) := by decide +kernel
theorem dX6_add_88 : decode cX6_add 88 = .ok (.ireturn, 1) := by decide +kernel
set_option maxRecDepth 20000 in
theorem ggX6_remove_X6_isRow : GoodIn wsX6_remove wsX6_isRow := goodIn_r _ [6, 1, 7, 8, 5, 9, 25, 26, 27, 28, 29, 30, 31, 32, 33, 34, 35, 36, 37, 38, 39, 40, 41, 42, 43, 44] (by decide +kernel) (by decide +kernel)
set_option maxRecDepth 20000 in
theorem gX6_remove_X6_isRow : GoodIn wsX6_remove (wsV RX6 92 RX6 yX6_isRow wsX6_isRow) := goodIn_app (goodIn_of _ (by decide +kernel)) ggX6_remove_X6_isRow
set_option maxRecDepth 20000 in
theorem ggX6_remove_X6_remember : GoodIn wsX6_remove wsX6_remember := goodIn_r _ [13, 14, 1, 25, 26, 27, 28, 29, 30, 31, 32, 33, 34, 35, 36, 37, 38, 39, 40, 41, 42, 43, 44] (by decide +kernel) (by decide +kernel)
set_option maxRecDepth 20000 in
theorem gX6_remove_X6_remember : GoodIn wsX6_remove (wsV RX6 81 RX6 yX6_remember wsX6_remember) := goodIn_app (goodIn_of _ (by decide +kernel)) ggX6_remove_X6_remember
set_option maxRecDepth 20000 in
theorem ggX6_remove_X6_takesOut : GoodIn wsX6_remove wsX6_takesOut := goodIn_r _ [18, 1, 25, 26, 27, 28, 29, 30, 31, 32, 33, 34, 35, 36, 37, 38, 39, 40, 41, 42, 43, 44] (by decide +kernel) (by decide +kernel)
set_option maxRecDepth 20000 in
theorem gX6_remove_X6_takesOut : GoodIn wsX6_remove (wsV RX6 61 RX6 yX6_takesOut wsX6_takesOut) := goodIn_app (goodIn_of _ (by decide +kernel)) ggX6_remove_X6_takesOut
set_option maxRecDepth 20000 in
theorem ggX6_remove_X6_acted : GoodIn wsX6_remove wsX6_acted := goodIn_r _ [22, 23, 24, 14, 25, 26, 27, 28, 29, 30, 31, 32, 33, 34, 35, 36, 37, 38, 39, 40, 41, 42, 43, 44] (by decide +kernel) (by decide +kernel)
set_option maxRecDepth 20000 in
theorem gX6_remove_X6_acted : GoodIn wsX6_remove (wsV RX6 88 RX6 yX6_acted wsX6_acted) := goodIn_app (goodIn_of _ (by decide +kernel)) ggX6_remove_X6_acted
theorem dX6_remove_0 : decode cX6_remove 0 = .ok (.aload_n 0, 1) := by decide +kernel
theorem dX6_remove_1 : decode cX6_remove 1 = .ok (.iload_n 1, 1) := by decide +kernel
theorem dX6_remove_2 : decode cX6_remove 2 = .ok (.invokevirtual 92, 3) := by decide +kernel
theorem dX6_remove_5 : decode cX6_remove 5 = .ok (.ifCond .ne 5, 3) := by decide +kernel
theorem dX6_remove_8 : decode cX6_remove 8 = .ok (.iconst (-1), 1) := by decide +kernel
theorem dX6_remove_9 : decode cX6_remove 9 = .ok (.ireturn, 1) := by decide +kernel
theorem dX6_remove_10 : decode cX6_remove 10 = .ok (.aload_n 0, 1) := by decide +kernel
theorem dX6_remove_11 : decode cX6_remove 11 = .ok (.invokevirtual 81, 3) := by decide +kernel
theorem dX6_remove_14 : decode cX6_remove 14 = .ok (.aload_n 0, 1) := by decide +kernel
theorem dX6_remove_15 : decode cX6_remove 15 = .ok (.iload_n 1, 1) := by decide +kernel
theorem dX6_remove_16 : decode cX6_remove 16 = .ok (.invokevirtual 61, 3) := by decide +kernel
theorem dX6_remove_19 : decode cX6_remove 19 = .ok (.aload_n 0, 1) := by decide +kernel
theorem dX6_remove_20 : decode cX6_remove 20 = .ok (.aload_n 0, 1) := by decide +kernel
theorem dX6_remove_21 : decode cX6_remove 21 = .ok (.getfield 7, 3) := by decide +kernel
theorem dX6_remove_24 : decode cX6_remove 24 = .ok (.iconst 0, 1) := by decide +kernel
theorem dX6_remove_25 : decode cX6_remove 25 = .ok (.iaload, 1) := by decide +kernel
theorem dX6_remove_26 : decode cX6_remove 26 = .ok (.invokevirtual 88, 3) := by decide +kernel
theorem dX6_remove_29 : decode cX6_remove 29 = .ok (.ireturn, 1) := by decide +kernel
set_option maxRecDepth 20000 in
theorem ggX6_mend_X6_isRow : GoodIn wsX6_mend wsX6_isRow := goodIn_r _ [5, 6, 7, 8, 4, 9, 33, 34, 35, 36, 37, 38, 39, 40, 41, 42, 43, 44, 45, 46, 47, 48, 49, 50, 51, 52] (by decide +kernel) (by decide +kernel)
set_option maxRecDepth 20000 in
theorem gX6_mend_X6_isRow : GoodIn wsX6_mend (wsV RX6 92 RX6 yX6_isRow wsX6_isRow) := goodIn_app (goodIn_of _ (by decide +kernel)) ggX6_mend_X6_isRow
set_option maxRecDepth 20000 in
theorem ggX6_mend_X6_remember : GoodIn wsX6_mend wsX6_remember := goodIn_r _ [13, 14, 6, 33, 34, 35, 36, 37, 38, 39, 40, 41, 42, 43, 44, 45, 46, 47, 48, 49, 50, 51, 52] (by decide +kernel) (by decide +kernel)
set_option maxRecDepth 20000 in
theorem gX6_mend_X6_remember : GoodIn wsX6_mend (wsV RX6 81 RX6 yX6_remember wsX6_remember) := goodIn_app (goodIn_of _ (by decide +kernel)) ggX6_mend_X6_remember
set_option maxRecDepth 20000 in
theorem ggX6_mend_X6_mends : GoodIn wsX6_mend wsX6_mends := goodIn_r _ [18, 6, 19, 20, 21, 4, 22, 23, 24, 25, 26, 33, 34, 35, 36, 37, 38, 39, 40, 41, 42, 43, 44, 45, 46, 47, 48, 49, 50, 51, 52] (by decide +kernel) (by decide +kernel)
set_option maxRecDepth 20000 in
theorem gX6_mend_X6_mends : GoodIn wsX6_mend (wsV RX6 95 RX6 yX6_mends wsX6_mends) := goodIn_app (goodIn_of _ (by decide +kernel)) ggX6_mend_X6_mends
set_option maxRecDepth 20000 in
theorem ggX6_mend_X6_acted : GoodIn wsX6_mend wsX6_acted := goodIn_r _ [30, 31, 32, 14, 33, 34, 35, 36, 37, 38, 39, 40, 41, 42, 43, 44, 45, 46, 47, 48, 49, 50, 51, 52] (by decide +kernel) (by decide +kernel)
set_option maxRecDepth 20000 in
theorem gX6_mend_X6_acted : GoodIn wsX6_mend (wsV RX6 88 RX6 yX6_acted wsX6_acted) := goodIn_app (goodIn_of _ (by decide +kernel)) ggX6_mend_X6_acted
theorem dX6_mend_0 : decode cX6_mend 0 = .ok (.aload_n 0, 1) := by decide +kernel
theorem dX6_mend_1 : decode cX6_mend 1 = .ok (.iload_n 1, 1) := by decide +kernel
theorem dX6_mend_2 : decode cX6_mend 2 = .ok (.invokevirtual 92, 3) := by decide +kernel
theorem dX6_mend_5 : decode cX6_mend 5 = .ok (.ifCond .ne 5, 3) := by decide +kernel
theorem dX6_mend_8 : decode cX6_mend 8 = .ok (.iconst (-1), 1) := by decide +kernel
theorem dX6_mend_9 : decode cX6_mend 9 = .ok (.ireturn, 1) := by decide +kernel
theorem dX6_mend_10 : decode cX6_mend 10 = .ok (.aload_n 0, 1) := by decide +kernel
theorem dX6_mend_11 : decode cX6_mend 11 = .ok (.invokevirtual 81, 3) := by decide +kernel
theorem dX6_mend_14 : decode cX6_mend 14 = .ok (.aload_n 0, 1) := by decide +kernel
theorem dX6_mend_15 : decode cX6_mend 15 = .ok (.iload_n 1, 1) := by decide +kernel
theorem dX6_mend_16 : decode cX6_mend 16 = .ok (.invokevirtual 95, 3) := by decide +kernel
theorem dX6_mend_19 : decode cX6_mend 19 = .ok (.istore_n 2, 1) := by decide +kernel
theorem dX6_mend_20 : decode cX6_mend 20 = .ok (.iload_n 2, 1) := by decide +kernel
theorem dX6_mend_21 : decode cX6_mend 21 = .ok (.ifCond .ne 8, 3) := by decide +kernel
theorem dX6_mend_24 : decode cX6_mend 24 = .ok (.bipush (-5), 2) := by decide +kernel
theorem dX6_mend_26 : decode cX6_mend 26 = .ok (.goto 8, 3) := by decide +kernel
theorem dX6_mend_29 : decode cX6_mend 29 = .ok (.aload_n 0, 1) := by decide +kernel
theorem dX6_mend_30 : decode cX6_mend 30 = .ok (.iload_n 2, 1) := by decide +kernel
theorem dX6_mend_31 : decode cX6_mend 31 = .ok (.invokevirtual 88, 3) := by decide +kernel
theorem dX6_mend_34 : decode cX6_mend 34 = .ok (.ireturn, 1) := by decide +kernel
set_option maxRecDepth 20000 in
theorem ggX6_lastOf_X6_of : GoodIn wsX6_lastOf wsX6_of := goodIn_r _ [6, 1, 7, 8, 9, 10, 11, 12, 13, 14, 15, 16, 17, 18, 19, 20, 21, 22, 23, 24, 25, 26] (by decide +kernel) (by decide +kernel)
set_option maxRecDepth 20000 in
theorem gX6_lastOf_X6_of : GoodIn wsX6_lastOf (wsV RX6 53 RX6 yX6_of wsX6_of) := goodIn_app (goodIn_of _ (by decide +kernel)) ggX6_lastOf_X6_of
theorem dX6_lastOf_0 : decode cX6_lastOf 0 = .ok (.bipush (-5), 2) := by decide +kernel
theorem dX6_lastOf_2 : decode cX6_lastOf 2 = .ok (.istore_n 2, 1) := by decide +kernel
theorem dX6_lastOf_3 : decode cX6_lastOf 3 = .ok (.iconst 0, 1) := by decide +kernel
theorem dX6_lastOf_4 : decode cX6_lastOf 4 = .ok (.istore_n 3, 1) := by decide +kernel
theorem dX6_lastOf_5 : decode cX6_lastOf 5 = .ok (.iload_n 3, 1) := by decide +kernel
theorem dX6_lastOf_6 : decode cX6_lastOf 6 = .ok (.aload_n 0, 1) := by decide +kernel
theorem dX6_lastOf_7 : decode cX6_lastOf 7 = .ok (.getfield 7, 3) := by decide +kernel
theorem dX6_lastOf_10 : decode cX6_lastOf 10 = .ok (.iconst 0, 1) := by decide +kernel
theorem dX6_lastOf_11 : decode cX6_lastOf 11 = .ok (.iaload, 1) := by decide +kernel
theorem dX6_lastOf_12 : decode cX6_lastOf 12 = .ok (.if_icmp .ge 25, 3) := by decide +kernel
theorem dX6_lastOf_15 : decode cX6_lastOf 15 = .ok (.aload_n 0, 1) := by decide +kernel
theorem dX6_lastOf_16 : decode cX6_lastOf 16 = .ok (.iload_n 3, 1) := by decide +kernel
theorem dX6_lastOf_17 : decode cX6_lastOf 17 = .ok (.iconst 0, 1) := by decide +kernel
theorem dX6_lastOf_18 : decode cX6_lastOf 18 = .ok (.invokevirtual 53, 3) := by decide +kernel
theorem dX6_lastOf_21 : decode cX6_lastOf 21 = .ok (.iload_n 1, 1) := by decide +kernel
theorem dX6_lastOf_22 : decode cX6_lastOf 22 = .ok (.if_icmp .ne 7, 3) := by decide +kernel
theorem dX6_lastOf_25 : decode cX6_lastOf 25 = .ok (.iload_n 3, 1) := by decide +kernel
theorem dX6_lastOf_26 : decode cX6_lastOf 26 = .ok (.goto 4, 3) := by decide +kernel
theorem dX6_lastOf_29 : decode cX6_lastOf 29 = .ok (.iload_n 2, 1) := by decide +kernel
theorem dX6_lastOf_30 : decode cX6_lastOf 30 = .ok (.istore_n 2, 1) := by decide +kernel
theorem dX6_lastOf_31 : decode cX6_lastOf 31 = .ok (.iinc 3 1, 3) := by decide +kernel
theorem dX6_lastOf_34 : decode cX6_lastOf 34 = .ok (.goto (-29), 3) := by decide +kernel
theorem dX6_lastOf_37 : decode cX6_lastOf 37 = .ok (.iload_n 2, 1) := by decide +kernel
theorem dX6_lastOf_38 : decode cX6_lastOf 38 = .ok (.ireturn, 1) := by decide +kernel
set_option maxRecDepth 20000 in
theorem ggX6_firstOf_X6_of : GoodIn wsX6_firstOf wsX6_of := goodIn_r _ [5, 6, 7, 8, 9, 10, 11, 12, 13, 14, 15, 16, 17, 18, 19, 20, 21, 22, 23, 24, 25, 26] (by decide +kernel) (by decide +kernel)
set_option maxRecDepth 20000 in
theorem gX6_firstOf_X6_of : GoodIn wsX6_firstOf (wsV RX6 53 RX6 yX6_of wsX6_of) := goodIn_app (goodIn_of _ (by decide +kernel)) ggX6_firstOf_X6_of
theorem dX6_firstOf_0 : decode cX6_firstOf 0 = .ok (.iconst 0, 1) := by decide +kernel
theorem dX6_firstOf_1 : decode cX6_firstOf 1 = .ok (.istore_n 2, 1) := by decide +kernel
theorem dX6_firstOf_2 : decode cX6_firstOf 2 = .ok (.aload_n 0, 1) := by decide +kernel
theorem dX6_firstOf_3 : decode cX6_firstOf 3 = .ok (.iload_n 2, 1) := by decide +kernel
theorem dX6_firstOf_4 : decode cX6_firstOf 4 = .ok (.iconst 0, 1) := by decide +kernel
theorem dX6_firstOf_5 : decode cX6_firstOf 5 = .ok (.invokevirtual 53, 3) := by decide +kernel
theorem dX6_firstOf_8 : decode cX6_firstOf 8 = .ok (.iload_n 1, 1) := by decide +kernel
theorem dX6_firstOf_9 : decode cX6_firstOf 9 = .ok (.if_icmp .eq 9, 3) := by decide +kernel
theorem dX6_firstOf_12 : decode cX6_firstOf 12 = .ok (.iinc 2 1, 3) := by decide +kernel
theorem dX6_firstOf_15 : decode cX6_firstOf 15 = .ok (.goto (-13), 3) := by decide +kernel
theorem dX6_firstOf_18 : decode cX6_firstOf 18 = .ok (.iload_n 2, 1) := by decide +kernel
theorem dX6_firstOf_19 : decode cX6_firstOf 19 = .ok (.ireturn, 1) := by decide +kernel
set_option maxRecDepth 20000 in
theorem ggX6_mendAll_X6_in : GoodIn wsX6_mendAll wsX6_in := goodIn_r _ [5] (by decide +kernel) (by decide +kernel)
set_option maxRecDepth 20000 in
theorem gX6_mendAll_X6_in : GoodIn wsX6_mendAll (va_wsS RX6 47 yX6_in wsX6_in) := goodIn_app (goodIn_of _ (by decide +kernel)) ggX6_mendAll_X6_in
set_option maxRecDepth 20000 in
theorem ggX6_mendAll_X6_remember : GoodIn wsX6_mendAll wsX6_remember := goodIn_r _ [9, 10, 11, 46, 47, 48, 49, 50, 51, 52, 53, 54, 55, 56, 57, 58, 59, 60, 61, 62, 63, 64, 65] (by decide +kernel) (by decide +kernel)
set_option maxRecDepth 20000 in
theorem gX6_mendAll_X6_remember : GoodIn wsX6_mendAll (wsV RX6 81 RX6 yX6_remember wsX6_remember) := goodIn_app (goodIn_of _ (by decide +kernel)) ggX6_mendAll_X6_remember
set_option maxRecDepth 20000 in
theorem ggX6_mendAll_X6_rowsOf : GoodIn wsX6_mendAll wsX6_rowsOf := goodIn_r _ [15, 11, 16, 17, 18, 4, 19, 46, 47, 48, 49, 50, 51, 52, 53, 54, 55, 56, 57, 58, 59, 60, 61, 62, 63, 64, 65] (by decide +kernel) (by decide +kernel)
set_option maxRecDepth 20000 in
theorem gX6_mendAll_X6_rowsOf : GoodIn wsX6_mendAll (wsV RX6 100 RX6 yX6_rowsOf wsX6_rowsOf) := goodIn_app (goodIn_of _ (by decide +kernel)) ggX6_mendAll_X6_rowsOf
set_option maxRecDepth 20000 in
theorem ggX6_mendAll_X6_firstOf : GoodIn wsX6_mendAll wsX6_firstOf := goodIn_r _ [23, 16, 17, 18, 4, 19, 11, 46, 47, 48, 49, 50, 51, 52, 53, 54, 55, 56, 57, 58, 59, 60, 61, 62, 63, 64, 65] (by decide +kernel) (by decide +kernel)
set_option maxRecDepth 20000 in
theorem gX6_mendAll_X6_firstOf : GoodIn wsX6_mendAll (wsV RX6 103 RX6 yX6_firstOf wsX6_firstOf) := goodIn_app (goodIn_of _ (by decide +kernel)) ggX6_mendAll_X6_firstOf
set_option maxRecDepth 20000 in
theorem ggX6_mendAll_X6_lastOf : GoodIn wsX6_mendAll wsX6_lastOf := goodIn_r _ [27, 11, 16, 17, 18, 4, 19, 46, 47, 48, 49, 50, 51, 52, 53, 54, 55, 56, 57, 58, 59, 60, 61, 62, 63, 64, 65] (by decide +kernel) (by decide +kernel)
set_option maxRecDepth 20000 in
theorem gX6_mendAll_X6_lastOf : GoodIn wsX6_mendAll (wsV RX6 106 RX6 yX6_lastOf wsX6_lastOf) := goodIn_app (goodIn_of _ (by decide +kernel)) ggX6_mendAll_X6_lastOf
set_option maxRecDepth 20000 in
theorem ggX6_mendAll_X6_outermost : GoodIn wsX6_mendAll wsX6_outermost := goodIn_r _ [31, 11, 16, 17, 18, 4, 19, 46, 47, 48, 49, 50, 51, 52, 53, 54, 55, 56, 57, 58, 59, 60, 61, 62, 63, 64, 65] (by decide +kernel) (by decide +kernel)
set_option maxRecDepth 20000 in
theorem gX6_mendAll_X6_outermost : GoodIn wsX6_mendAll (wsV RX6 57 RX6 yX6_outermost wsX6_outermost) := goodIn_app (goodIn_of _ (by decide +kernel)) ggX6_mendAll_X6_outermost
set_option maxRecDepth 20000 in
theorem ggX6_mendAll_X6_mends : GoodIn wsX6_mendAll wsX6_mends := goodIn_r _ [35, 11, 16, 17, 18, 4, 19, 36, 37, 38, 39, 46, 47, 48, 49, 50, 51, 52, 53, 54, 55, 56, 57, 58, 59, 60, 61, 62, 63, 64, 65] (by decide +kernel) (by decide +kernel)
set_option maxRecDepth 20000 in
theorem gX6_mendAll_X6_mends : GoodIn wsX6_mendAll (wsV RX6 95 RX6 yX6_mends wsX6_mends) := goodIn_app (goodIn_of _ (by decide +kernel)) ggX6_mendAll_X6_mends
set_option maxRecDepth 20000 in
theorem ggX6_mendAll_X6_acted : GoodIn wsX6_mendAll wsX6_acted := goodIn_r _ [43, 44, 45, 10, 46, 47, 48, 49, 50, 51, 52, 53, 54, 55, 56, 57, 58, 59, 60, 61, 62, 63, 64, 65] (by decide +kernel) (by decide +kernel)
set_option maxRecDepth 20000 in
theorem gX6_mendAll_X6_acted : GoodIn wsX6_mendAll (wsV RX6 88 RX6 yX6_acted wsX6_acted) := goodIn_app (goodIn_of _ (by decide +kernel)) ggX6_mendAll_X6_acted
theorem dX6_mendAll_0 : decode cX6_mendAll 0 = .ok (.iload_n 1, 1) := by decide +kernel
theorem dX6_mendAll_1 : decode cX6_mendAll 1 = .ok (.i2l, 1) := by decide +kernel
theorem dX6_mendAll_2 : decode cX6_mendAll 2 = .ok (.lconst 0, 1) := by decide +kernel
theorem dX6_mendAll_3 : decode cX6_mendAll 3 = .ok (.ldc2_w 98, 3) := by decide +kernel
theorem dX6_mendAll_6 : decode cX6_mendAll 6 = .ok (.invokestatic 47, 3) := by decide +kernel
theorem dX6_mendAll_9 : decode cX6_mendAll 9 = .ok (.ifCond .ne 6, 3) := by decide +kernel
theorem dX6_mendAll_12 : decode cX6_mendAll 12 = .ok (.bipush (-2), 2) := by decide +kernel
theorem dX6_mendAll_14 : decode cX6_mendAll 14 = .ok (.ireturn, 1) := by decide +kernel
theorem dX6_mendAll_15 : decode cX6_mendAll 15 = .ok (.aload_n 0, 1) := by decide +kernel
theorem dX6_mendAll_16 : decode cX6_mendAll 16 = .ok (.invokevirtual 81, 3) := by decide +kernel
theorem dX6_mendAll_19 : decode cX6_mendAll 19 = .ok (.iconst 0, 1) := by decide +kernel
theorem dX6_mendAll_20 : decode cX6_mendAll 20 = .ok (.istore_n 2, 1) := by decide +kernel
theorem dX6_mendAll_21 : decode cX6_mendAll 21 = .ok (.iconst 0, 1) := by decide +kernel
theorem dX6_mendAll_22 : decode cX6_mendAll 22 = .ok (.istore_n 3, 1) := by decide +kernel
theorem dX6_mendAll_23 : decode cX6_mendAll 23 = .ok (.iload_n 3, 1) := by decide +kernel
theorem dX6_mendAll_24 : decode cX6_mendAll 24 = .ok (.bipush 10, 2) := by decide +kernel
theorem dX6_mendAll_26 : decode cX6_mendAll 26 = .ok (.if_icmp .ge 56, 3) := by decide +kernel
theorem dX6_mendAll_29 : decode cX6_mendAll 29 = .ok (.aload_n 0, 1) := by decide +kernel
theorem dX6_mendAll_30 : decode cX6_mendAll 30 = .ok (.iload_n 3, 1) := by decide +kernel
theorem dX6_mendAll_31 : decode cX6_mendAll 31 = .ok (.invokevirtual 100, 3) := by decide +kernel
theorem dX6_mendAll_34 : decode cX6_mendAll 34 = .ok (.iconst 1, 1) := by decide +kernel
theorem dX6_mendAll_35 : decode cX6_mendAll 35 = .ok (.if_icmp .le 41, 3) := by decide +kernel
theorem dX6_mendAll_38 : decode cX6_mendAll 38 = .ok (.iload_n 2, 1) := by decide +kernel
theorem dX6_mendAll_39 : decode cX6_mendAll 39 = .ok (.aload_n 0, 1) := by decide +kernel
theorem dX6_mendAll_40 : decode cX6_mendAll 40 = .ok (.iload_n 1, 1) := by decide +kernel
theorem dX6_mendAll_41 : decode cX6_mendAll 41 = .ok (.ifCond .ne 11, 3) := by decide +kernel
theorem dX6_mendAll_44 : decode cX6_mendAll 44 = .ok (.aload_n 0, 1) := by decide +kernel
theorem dX6_mendAll_45 : decode cX6_mendAll 45 = .ok (.iload_n 3, 1) := by decide +kernel
theorem dX6_mendAll_46 : decode cX6_mendAll 46 = .ok (.invokevirtual 103, 3) := by decide +kernel
theorem dX6_mendAll_49 : decode cX6_mendAll 49 = .ok (.goto 22, 3) := by decide +kernel
theorem dX6_mendAll_52 : decode cX6_mendAll 52 = .ok (.iload_n 1, 1) := by decide +kernel
theorem dX6_mendAll_53 : decode cX6_mendAll 53 = .ok (.iconst 1, 1) := by decide +kernel
theorem dX6_mendAll_54 : decode cX6_mendAll 54 = .ok (.if_icmp .ne 11, 3) := by decide +kernel
theorem dX6_mendAll_57 : decode cX6_mendAll 57 = .ok (.aload_n 0, 1) := by decide +kernel
