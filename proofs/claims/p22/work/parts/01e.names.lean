set_option maxRecDepth 20000 in
theorem gX5_row_X5_choicesNow : GoodIn wsX5_row (wsV RX5 122 RX5 yX5_choicesNow wsX5_choicesNow) := goodIn_app (goodIn_of _ (by decide +kernel)) ggX5_row_X5_choicesNow
set_option maxRecDepth 20000 in
theorem ggX5_row_X0_isSureRow : GoodIn wsX5_row wsX0_isSureRow := goodIn_r _ [95, 57, 68, 32, 33, 5, 34, 35, 36, 22, 23, 24, 25, 13, 14, 15, 37, 9, 10, 11, 12, 38, 39, 40, 41, 7, 69, 75, 76, 77, 53, 78, 55, 109, 110, 111, 112, 113, 114, 103, 104, 105, 106, 107, 108] (by decide +kernel) (by decide +kernel)
set_option maxRecDepth 20000 in
theorem gX5_row_X0_isSureRow : GoodIn wsX5_row (wsV RX5 161 RX0 yX0_isSureRow wsX0_isSureRow) := goodIn_app (goodIn_of _ (by decide +kernel)) ggX5_row_X0_isSureRow
theorem dX5_row_0 : decode cX5_row 0 = .ok (.aload_n 0, 1) := by decide +kernel
theorem dX5_row_1 : decode cX5_row 1 = .ok (.getfield 10, 3) := by decide +kernel
theorem dX5_row_4 : decode cX5_row 4 = .ok (.iload_n 1, 1) := by decide +kernel
theorem dX5_row_5 : decode cX5_row 5 = .ok (.invokevirtual 91, 3) := by decide +kernel
theorem dX5_row_8 : decode cX5_row 8 = .ok (.ifCond .ne 5, 3) := by decide +kernel
theorem dX5_row_11 : decode cX5_row 11 = .ok (.iconst (-1), 1) := by decide +kernel
theorem dX5_row_12 : decode cX5_row 12 = .ok (.ireturn, 1) := by decide +kernel
theorem dX5_row_13 : decode cX5_row 13 = .ok (.iload_n 2, 1) := by decide +kernel
theorem dX5_row_14 : decode cX5_row 14 = .ok (.tableswitch 98 0 5 #[38, 47, 56, 65, 74, 86], 38) := by decide +kernel
theorem dX5_row_52 : decode cX5_row 52 = .ok (.aload_n 0, 1) := by decide +kernel
theorem dX5_row_53 : decode cX5_row 53 = .ok (.getfield 10, 3) := by decide +kernel
theorem dX5_row_56 : decode cX5_row 56 = .ok (.iload_n 1, 1) := by decide +kernel
theorem dX5_row_57 : decode cX5_row 57 = .ok (.invokevirtual 98, 3) := by decide +kernel
theorem dX5_row_60 : decode cX5_row 60 = .ok (.ireturn, 1) := by decide +kernel
theorem dX5_row_61 : decode cX5_row 61 = .ok (.aload_n 0, 1) := by decide +kernel
theorem dX5_row_62 : decode cX5_row 62 = .ok (.getfield 10, 3) := by decide +kernel
theorem dX5_row_65 : decode cX5_row 65 = .ok (.iload_n 1, 1) := by decide +kernel
theorem dX5_row_66 : decode cX5_row 66 = .ok (.invokevirtual 145, 3) := by decide +kernel
theorem dX5_row_69 : decode cX5_row 69 = .ok (.ireturn, 1) := by decide +kernel
theorem dX5_row_70 : decode cX5_row 70 = .ok (.aload_n 0, 1) := by decide +kernel
theorem dX5_row_71 : decode cX5_row 71 = .ok (.getfield 10, 3) := by decide +kernel
theorem dX5_row_74 : decode cX5_row 74 = .ok (.iload_n 1, 1) := by decide +kernel
theorem dX5_row_75 : decode cX5_row 75 = .ok (.invokevirtual 148, 3) := by decide +kernel
theorem dX5_row_78 : decode cX5_row 78 = .ok (.ireturn, 1) := by decide +kernel
theorem dX5_row_79 : decode cX5_row 79 = .ok (.aload_n 0, 1) := by decide +kernel
theorem dX5_row_80 : decode cX5_row 80 = .ok (.getfield 10, 3) := by decide +kernel
theorem dX5_row_83 : decode cX5_row 83 = .ok (.iload_n 1, 1) := by decide +kernel
theorem dX5_row_84 : decode cX5_row 84 = .ok (.invokevirtual 151, 3) := by decide +kernel
theorem dX5_row_87 : decode cX5_row 87 = .ok (.ireturn, 1) := by decide +kernel
theorem dX5_row_88 : decode cX5_row 88 = .ok (.aload_n 0, 1) := by decide +kernel
theorem dX5_row_89 : decode cX5_row 89 = .ok (.getfield 10, 3) := by decide +kernel
theorem dX5_row_92 : decode cX5_row 92 = .ok (.iload_n 1, 1) := by decide +kernel
theorem dX5_row_93 : decode cX5_row 93 = .ok (.invokevirtual 154, 3) := by decide +kernel
theorem dX5_row_96 : decode cX5_row 96 = .ok (.invokestatic 157, 3) := by decide +kernel
theorem dX5_row_99 : decode cX5_row 99 = .ok (.ireturn, 1) := by decide +kernel
theorem dX5_row_100 : decode cX5_row 100 = .ok (.aload_n 0, 1) := by decide +kernel
theorem dX5_row_101 : decode cX5_row 101 = .ok (.invokevirtual 122, 3) := by decide +kernel
theorem dX5_row_104 : decode cX5_row 104 = .ok (.iload_n 1, 1) := by decide +kernel
theorem dX5_row_105 : decode cX5_row 105 = .ok (.invokevirtual 161, 3) := by decide +kernel
theorem dX5_row_108 : decode cX5_row 108 = .ok (.invokestatic 157, 3) := by decide +kernel
theorem dX5_row_111 : decode cX5_row 111 = .ok (.ireturn, 1) := by decide +kernel
theorem dX5_row_112 : decode cX5_row 112 = .ok (.bipush (-2), 2) := by decide +kernel
theorem dX5_row_114 : decode cX5_row 114 = .ok (.ireturn, 1) := by decide +kernel
set_option maxRecDepth 20000 in
theorem ggX5_key_X5_isKey : GoodIn wsX5_key wsX5_isKey := goodIn_r _ [5] (by decide +kernel) (by decide +kernel)
set_option maxRecDepth 20000 in
theorem gX5_key_X5_isKey : GoodIn wsX5_key (va_wsS RX5 55 yX5_isKey wsX5_isKey) := goodIn_app (goodIn_of _ (by decide +kernel)) ggX5_key_X5_isKey
set_option maxRecDepth 20000 in
theorem ggX5_key_X3_rowsWith : GoodIn wsX5_key wsX3_rowsWith := goodIn_r _ [10, 11, 12, 13, 14, 9, 15, 16, 17, 4, 18, 99, 100, 101, 102, 103, 104] (by decide +kernel) (by decide +kernel)
set_option maxRecDepth 20000 in
theorem gX5_key_X3_rowsWith : GoodIn wsX5_key (wsV RX5 102 RX3 yX3_rowsWith wsX3_rowsWith) := goodIn_app (goodIn_of _ (by decide +kernel)) ggX5_key_X3_rowsWith
set_option maxRecDepth 20000 in
theorem ggX5_key_X5_choicesNow : GoodIn wsX5_key wsX5_choicesNow := goodIn_r _ [22, 23, 24, 25, 26, 27, 28, 29, 30, 31, 32, 33, 34, 35, 36, 37, 38, 39, 40, 9, 41, 11, 42, 43, 44, 45, 46, 47, 48, 49, 50, 51, 17, 4, 18, 12, 13, 14, 15, 16, 52, 53, 54, 55, 56, 57, 58, 59, 60, 61, 62, 63, 64, 65, 66, 67, 68, 69, 70, 71, 72, 73, 74, 75, 76, 3, 5, 77, 78, 79, 80, 92, 93, 94, 95, 96, 97, 98, 105, 106, 107, 108, 109, 110, 99, 100, 101, 102, 103, 104] (by decide +kernel) (by decide +kernel)
set_option maxRecDepth 20000 in
theorem gX5_key_X5_choicesNow : GoodIn wsX5_key (wsV RX5 122 RX5 yX5_choicesNow wsX5_choicesNow) := goodIn_app (goodIn_of _ (by decide +kernel)) ggX5_key_X5_choicesNow
set_option maxRecDepth 20000 in
theorem ggX5_key_X0_optionsOf : GoodIn wsX5_key wsX0_optionsOf := goodIn_r _ [65, 29, 17, 4, 18, 105, 106, 107, 108, 109, 110] (by decide +kernel) (by decide +kernel)
set_option maxRecDepth 20000 in
theorem gX5_key_X0_optionsOf : GoodIn wsX5_key (wsV RX5 164 RX0 yX0_optionsOf wsX0_optionsOf) := goodIn_app (goodIn_of _ (by decide +kernel)) ggX5_key_X0_optionsOf
set_option maxRecDepth 20000 in
theorem ggX5_key_X3_lightestWith : GoodIn wsX5_key wsX3_lightestWith := goodIn_r _ [85, 11, 12, 13, 14, 9, 15, 16, 17, 4, 18, 47, 48, 49, 50, 51, 99, 100, 101, 102, 103, 104] (by decide +kernel) (by decide +kernel)
set_option maxRecDepth 20000 in
theorem gX5_key_X3_lightestWith : GoodIn wsX5_key (wsV RX5 167 RX3 yX3_lightestWith wsX3_lightestWith) := goodIn_app (goodIn_of _ (by decide +kernel)) ggX5_key_X3_lightestWith
set_option maxRecDepth 20000 in
theorem ggX5_key_X3_heaviestWith : GoodIn wsX5_key wsX3_heaviestWith := goodIn_r _ [55, 11, 12, 13, 14, 9, 15, 16, 17, 4, 18, 47, 48, 49, 50, 51, 99, 100, 101, 102, 103, 104] (by decide +kernel) (by decide +kernel)
set_option maxRecDepth 20000 in
theorem gX5_key_X3_heaviestWith : GoodIn wsX5_key (wsV RX5 170 RX3 yX3_heaviestWith wsX3_heaviestWith) := goodIn_app (goodIn_of _ (by decide +kernel)) ggX5_key_X3_heaviestWith
set_option maxRecDepth 20000 in
theorem ggX5_key_X3_rowsPointingTo : GoodIn wsX5_key wsX3_rowsPointingTo := goodIn_r _ [90, 11, 91, 73, 74, 9, 75, 76, 17, 4, 18, 99, 100, 101, 102, 103, 104] (by decide +kernel) (by decide +kernel)
set_option maxRecDepth 20000 in
theorem gX5_key_X3_rowsPointingTo : GoodIn wsX5_key (wsV RX5 173 RX3 yX3_rowsPointingTo wsX3_rowsPointingTo) := goodIn_app (goodIn_of _ (by decide +kernel)) ggX5_key_X3_rowsPointingTo
theorem dX5_key_0 : decode cX5_key 0 = .ok (.iload_n 1, 1) := by decide +kernel
theorem dX5_key_1 : decode cX5_key 1 = .ok (.invokestatic 55, 3) := by decide +kernel
theorem dX5_key_4 : decode cX5_key 4 = .ok (.ifCond .ne 5, 3) := by decide +kernel
theorem dX5_key_7 : decode cX5_key 7 = .ok (.iconst (-1), 1) := by decide +kernel
theorem dX5_key_8 : decode cX5_key 8 = .ok (.ireturn, 1) := by decide +kernel
theorem dX5_key_9 : decode cX5_key 9 = .ok (.iload_n 2, 1) := by decide +kernel
theorem dX5_key_10 : decode cX5_key 10 = .ok (.tableswitch 79 0 4 #[34, 43, 52, 61, 70], 34) := by decide +kernel
theorem dX5_key_44 : decode cX5_key 44 = .ok (.aload_n 0, 1) := by decide +kernel
theorem dX5_key_45 : decode cX5_key 45 = .ok (.getfield 10, 3) := by decide +kernel
theorem dX5_key_48 : decode cX5_key 48 = .ok (.iload_n 1, 1) := by decide +kernel
theorem dX5_key_49 : decode cX5_key 49 = .ok (.invokevirtual 102, 3) := by decide +kernel
theorem dX5_key_52 : decode cX5_key 52 = .ok (.ireturn, 1) := by decide +kernel
theorem dX5_key_53 : decode cX5_key 53 = .ok (.aload_n 0, 1) := by decide +kernel
theorem dX5_key_54 : decode cX5_key 54 = .ok (.invokevirtual 122, 3) := by decide +kernel
theorem dX5_key_57 : decode cX5_key 57 = .ok (.iload_n 1, 1) := by decide +kernel
theorem dX5_key_58 : decode cX5_key 58 = .ok (.invokevirtual 164, 3) := by decide +kernel
theorem dX5_key_61 : decode cX5_key 61 = .ok (.ireturn, 1) := by decide +kernel
theorem dX5_key_62 : decode cX5_key 62 = .ok (.aload_n 0, 1) := by decide +kernel
theorem dX5_key_63 : decode cX5_key 63 = .ok (.getfield 10, 3) := by decide +kernel
theorem dX5_key_66 : decode cX5_key 66 = .ok (.iload_n 1, 1) := by decide +kernel
theorem dX5_key_67 : decode cX5_key 67 = .ok (.invokevirtual 167, 3) := by decide +kernel
theorem dX5_key_70 : decode cX5_key 70 = .ok (.ireturn, 1) := by decide +kernel
theorem dX5_key_71 : decode cX5_key 71 = .ok (.aload_n 0, 1) := by decide +kernel
theorem dX5_key_72 : decode cX5_key 72 = .ok (.getfield 10, 3) := by decide +kernel
theorem dX5_key_75 : decode cX5_key 75 = .ok (.iload_n 1, 1) := by decide +kernel
theorem dX5_key_76 : decode cX5_key 76 = .ok (.invokevirtual 170, 3) := by decide +kernel
theorem dX5_key_79 : decode cX5_key 79 = .ok (.ireturn, 1) := by decide +kernel
theorem dX5_key_80 : decode cX5_key 80 = .ok (.aload_n 0, 1) := by decide +kernel
theorem dX5_key_81 : decode cX5_key 81 = .ok (.getfield 10, 3) := by decide +kernel
theorem dX5_key_84 : decode cX5_key 84 = .ok (.iload_n 1, 1) := by decide +kernel
theorem dX5_key_85 : decode cX5_key 85 = .ok (.invokevirtual 173, 3) := by decide +kernel
theorem dX5_key_88 : decode cX5_key 88 = .ok (.ireturn, 1) := by decide +kernel
theorem dX5_key_89 : decode cX5_key 89 = .ok (.bipush (-2), 2) := by decide +kernel
theorem dX5_key_91 : decode cX5_key 91 = .ok (.ireturn, 1) := by decide +kernel
set_option maxRecDepth 20000 in
theorem ggX5_value_X5_isValue : GoodIn wsX5_value wsX5_isValue := goodIn_r _ [4] (by decide +kernel) (by decide +kernel)
set_option maxRecDepth 20000 in
theorem gX5_value_X5_isValue : GoodIn wsX5_value (va_wsS RX5 59 yX5_isValue wsX5_isValue) := goodIn_app (goodIn_of _ (by decide +kernel)) ggX5_value_X5_isValue
set_option maxRecDepth 20000 in
theorem ggX5_value_X5_choicesNow : GoodIn wsX5_value wsX5_choicesNow := goodIn_r _ [8, 9, 10, 11, 12, 13, 14, 15, 16, 17, 18, 19, 20, 21, 22, 23, 24, 25, 26, 27, 28, 29, 30, 31, 32, 33, 34, 35, 36, 37, 38, 39, 40, 3, 41, 42, 43, 44, 45, 46, 47, 48, 49, 50, 51, 52, 53, 54, 55, 56, 57, 58, 59, 60, 61, 62, 63, 64, 65, 66, 67, 68, 69, 70, 71, 72, 73, 74, 75, 76, 77, 110, 111, 112, 113, 114, 115, 116, 117, 118, 119, 120, 121, 122, 123, 124, 125, 126, 127, 128] (by decide +kernel) (by decide +kernel)
set_option maxRecDepth 20000 in
theorem gX5_value_X5_choicesNow : GoodIn wsX5_value (wsV RX5 122 RX5 yX5_choicesNow wsX5_choicesNow) := goodIn_app (goodIn_of _ (by decide +kernel)) ggX5_value_X5_choicesNow
set_option maxRecDepth 20000 in
theorem ggX5_value_X0_fewestKeptWith : GoodIn wsX5_value wsX0_fewestKeptWith := goodIn_r _ [81, 74, 75, 76, 13, 77, 57, 58, 59, 60, 15, 40, 3, 41, 82, 83, 84, 85, 17, 86, 87, 88, 89, 56, 90, 91, 92, 27, 93, 94, 117, 118, 119, 120, 121, 122, 123, 124, 125, 126, 127, 128] (by decide +kernel) (by decide +kernel)
set_option maxRecDepth 20000 in
theorem gX5_value_X0_fewestKeptWith : GoodIn wsX5_value (wsV RX5 176 RX0 yX0_fewestKeptWith wsX0_fewestKeptWith) := goodIn_app (goodIn_of _ (by decide +kernel)) ggX5_value_X0_fewestKeptWith
set_option maxRecDepth 20000 in
theorem ggX5_value_X5_oneIf : GoodIn wsX5_value wsX5_oneIf := goodIn_r _ [97] (by decide +kernel) (by decide +kernel)
set_option maxRecDepth 20000 in
theorem gX5_value_X5_oneIf : GoodIn wsX5_value (va_wsS RX5 157 yX5_oneIf wsX5_oneIf) := goodIn_app (goodIn_of _ (by decide +kernel)) ggX5_value_X5_oneIf
set_option maxRecDepth 20000 in
theorem ggX5_value_X0_mostKeptWith : GoodIn wsX5_value wsX0_mostKeptWith := goodIn_r _ [101, 82, 83, 84, 13, 85, 17, 57, 58, 59, 60, 15, 40, 3, 41, 86, 87, 88, 89, 56, 90, 91, 92, 27, 93, 94, 117, 118, 119, 120, 121, 122, 123, 124, 125, 126, 127, 128] (by decide +kernel) (by decide +kernel)
set_option maxRecDepth 20000 in
theorem gX5_value_X0_mostKeptWith : GoodIn wsX5_value (wsV RX5 179 RX0 yX0_mostKeptWith wsX0_mostKeptWith) := goodIn_app (goodIn_of _ (by decide +kernel)) ggX5_value_X0_mostKeptWith
set_option maxRecDepth 20000 in
theorem ggX5_value_X0_mendings : GoodIn wsX5_value wsX0_mendings := goodIn_r _ [105, 18, 117, 118, 119, 120, 121, 122] (by decide +kernel) (by decide +kernel)
set_option maxRecDepth 20000 in
theorem gX5_value_X0_mendings : GoodIn wsX5_value (wsV RX5 126 RX0 yX0_mendings wsX0_mendings) := goodIn_app (goodIn_of _ (by decide +kernel)) ggX5_value_X0_mendings
set_option maxRecDepth 20000 in
theorem ggX5_value_X0_mendingsWithout : GoodIn wsX5_value wsX0_mendingsWithout := goodIn_r _ [109, 74, 75, 76, 13, 77, 57, 58, 59, 60, 15, 40, 3, 41, 82, 83, 84, 85, 17, 86, 87, 88, 89, 56, 90, 91, 92, 27, 93, 94, 117, 118, 119, 120, 121, 122, 123, 124, 125, 126, 127, 128] (by decide +kernel) (by decide +kernel)
set_option maxRecDepth 20000 in
theorem gX5_value_X0_mendingsWithout : GoodIn wsX5_value (wsV RX5 182 RX0 yX0_mendingsWithout wsX0_mendingsWithout) := goodIn_app (goodIn_of _ (by decide +kernel)) ggX5_value_X0_mendingsWithout
theorem dX5_value_0 : decode cX5_value 0 = .ok (.iload_n 1, 1) := by decide +kernel
theorem dX5_value_1 : decode cX5_value 1 = .ok (.invokestatic 59, 3) := by decide +kernel
theorem dX5_value_4 : decode cX5_value 4 = .ok (.ifCond .ne 6, 3) := by decide +kernel
theorem dX5_value_7 : decode cX5_value 7 = .ok (.bipush (-2), 2) := by decide +kernel
theorem dX5_value_9 : decode cX5_value 9 = .ok (.ireturn, 1) := by decide +kernel
theorem dX5_value_10 : decode cX5_value 10 = .ok (.aload_n 0, 1) := by decide +kernel
theorem dX5_value_11 : decode cX5_value 11 = .ok (.invokevirtual 122, 3) := by decide +kernel
theorem dX5_value_14 : decode cX5_value 14 = .ok (.astore_n 3, 1) := by decide +kernel
theorem dX5_value_15 : decode cX5_value 15 = .ok (.iload_n 2, 1) := by decide +kernel
theorem dX5_value_16 : decode cX5_value 16 = .ok (.tableswitch 93 0 4 #[36, 53, 70, 81, 87], 36) := by decide +kernel
theorem dX5_value_52 : decode cX5_value 52 = .ok (.aload_n 3, 1) := by decide +kernel
theorem dX5_value_53 : decode cX5_value 53 = .ok (.iload_n 1, 1) := by decide +kernel
theorem dX5_value_54 : decode cX5_value 54 = .ok (.invokevirtual 176, 3) := by decide +kernel
theorem dX5_value_57 : decode cX5_value 57 = .ok (.ifCond .le 7, 3) := by decide +kernel
theorem dX5_value_60 : decode cX5_value 60 = .ok (.iconst 1, 1) := by decide +kernel
theorem dX5_value_61 : decode cX5_value 61 = .ok (.goto 4, 3) := by decide +kernel
theorem dX5_value_64 : decode cX5_value 64 = .ok (.iconst 0, 1) := by decide +kernel
theorem dX5_value_65 : decode cX5_value 65 = .ok (.invokestatic 157, 3) := by decide +kernel
theorem dX5_value_68 : decode cX5_value 68 = .ok (.ireturn, 1) := by decide +kernel
theorem dX5_value_69 : decode cX5_value 69 = .ok (.aload_n 3, 1) := by decide +kernel
theorem dX5_value_70 : decode cX5_value 70 = .ok (.iload_n 1, 1) := by decide +kernel
theorem dX5_value_71 : decode cX5_value 71 = .ok (.invokevirtual 179, 3) := by decide +kernel
theorem dX5_value_74 : decode cX5_value 74 = .ok (.ifCond .le 7, 3) := by decide +kernel
theorem dX5_value_77 : decode cX5_value 77 = .ok (.iconst 1, 1) := by decide +kernel
theorem dX5_value_78 : decode cX5_value 78 = .ok (.goto 4, 3) := by decide +kernel
theorem dX5_value_81 : decode cX5_value 81 = .ok (.iconst 0, 1) := by decide +kernel
theorem dX5_value_82 : decode cX5_value 82 = .ok (.invokestatic 157, 3) := by decide +kernel
theorem dX5_value_85 : decode cX5_value 85 = .ok (.ireturn, 1) := by decide +kernel
theorem dX5_value_86 : decode cX5_value 86 = .ok (.aload_n 3, 1) := by decide +kernel
theorem dX5_value_87 : decode cX5_value 87 = .ok (.invokevirtual 126, 3) := by decide +kernel
theorem dX5_value_90 : decode cX5_value 90 = .ok (.aload_n 3, 1) := by decide +kernel
theorem dX5_value_91 : decode cX5_value 91 = .ok (.iload_n 1, 1) := by decide +kernel
theorem dX5_value_92 : decode cX5_value 92 = .ok (.invokevirtual 182, 3) := by decide +kernel
theorem dX5_value_95 : decode cX5_value 95 = .ok (.isub, 1) := by decide +kernel
theorem dX5_value_96 : decode cX5_value 96 = .ok (.ireturn, 1) := by decide +kernel
theorem dX5_value_97 : decode cX5_value 97 = .ok (.aload_n 3, 1) := by decide +kernel
theorem dX5_value_98 : decode cX5_value 98 = .ok (.iload_n 1, 1) := by decide +kernel
theorem dX5_value_99 : decode cX5_value 99 = .ok (.invokevirtual 176, 3) := by decide +kernel
theorem dX5_value_102 : decode cX5_value 102 = .ok (.ireturn, 1) := by decide +kernel
theorem dX5_value_103 : decode cX5_value 103 = .ok (.aload_n 3, 1) := by decide +kernel
theorem dX5_value_104 : decode cX5_value 104 = .ok (.iload_n 1, 1) := by decide +kernel
theorem dX5_value_105 : decode cX5_value 105 = .ok (.invokevirtual 179, 3) := by decide +kernel
theorem dX5_value_108 : decode cX5_value 108 = .ok (.ireturn, 1) := by decide +kernel
theorem dX5_value_109 : decode cX5_value 109 = .ok (.bipush (-2), 2) := by decide +kernel
theorem dX5_value_111 : decode cX5_value 111 = .ok (.ireturn, 1) := by decide +kernel
set_option maxRecDepth 20000 in
theorem ggX5_way_X5_isKey : GoodIn wsX5_way wsX5_isKey := goodIn_r _ [4] (by decide +kernel) (by decide +kernel)
set_option maxRecDepth 20000 in
theorem gX5_way_X5_isKey : GoodIn wsX5_way (va_wsS RX5 55 yX5_isKey wsX5_isKey) := goodIn_app (goodIn_of _ (by decide +kernel)) ggX5_way_X5_isKey
set_option maxRecDepth 20000 in
theorem ggX5_way_X5_choicesNow : GoodIn wsX5_way wsX5_choicesNow := goodIn_r _ [8, 9, 10, 11, 12, 13, 14, 15, 16, 17, 18, 19, 20, 21, 22, 23, 24, 25, 26, 27, 28, 29, 30, 31, 32, 33, 34, 35, 36, 37, 38, 39, 40, 3, 41, 42, 43, 44, 45, 46, 47, 48, 49, 50, 51, 52, 53, 54, 55, 56, 57, 58, 59, 60, 61, 62, 63, 64, 65, 66, 67, 68, 69, 70, 71, 2, 4, 72, 73, 74, 75, 126, 127, 128, 129, 130, 131, 132, 133, 134, 135, 136, 137, 138, 139, 140, 141, 142, 143, 144] (by decide +kernel) (by decide +kernel)
set_option maxRecDepth 20000 in
theorem gX5_way_X5_choicesNow : GoodIn wsX5_way (wsV RX5 122 RX5 yX5_choicesNow wsX5_choicesNow) := goodIn_app (goodIn_of _ (by decide +kernel)) ggX5_way_X5_choicesNow
set_option maxRecDepth 20000 in
theorem ggX5_way_X0_isSureWay : GoodIn wsX5_way wsX0_isSureWay := goodIn_r _ [79, 80, 81, 82, 13, 83, 84, 85, 86, 87, 72, 73, 74, 75, 57, 58, 59, 60, 15, 40, 3, 41, 88, 89, 90, 91, 16, 92, 93, 94, 133, 134, 135, 136, 137, 138] (by decide +kernel) (by decide +kernel)
set_option maxRecDepth 20000 in
theorem gX5_way_X0_isSureWay : GoodIn wsX5_way (wsV RX5 185 RX0 yX0_isSureWay wsX0_isSureWay) := goodIn_app (goodIn_of _ (by decide +kernel)) ggX5_way_X0_isSureWay
set_option maxRecDepth 20000 in
theorem ggX5_way_X5_oneIf : GoodIn wsX5_way wsX5_oneIf := goodIn_r _ [97] (by decide +kernel) (by decide +kernel)
set_option maxRecDepth 20000 in
theorem gX5_way_X5_oneIf : GoodIn wsX5_way (va_wsS RX5 157 yX5_oneIf wsX5_oneIf) := goodIn_app (goodIn_of _ (by decide +kernel)) ggX5_way_X5_oneIf
set_option maxRecDepth 20000 in
theorem ggX5_way_X0_fewestPointers : GoodIn wsX5_way wsX0_fewestPointers := goodIn_r _ [101, 84, 85, 86, 13, 87, 72, 73, 74, 75, 57, 58, 59, 60, 15, 40, 3, 41, 92, 93, 94, 102, 103, 104, 105, 16, 133, 134, 135, 136, 137, 138] (by decide +kernel) (by decide +kernel)
set_option maxRecDepth 20000 in
theorem gX5_way_X0_fewestPointers : GoodIn wsX5_way (wsV RX5 189 RX0 yX0_fewestPointers wsX0_fewestPointers) := goodIn_app (goodIn_of _ (by decide +kernel)) ggX5_way_X0_fewestPointers
set_option maxRecDepth 20000 in
theorem ggX5_way_X0_mendingsWithWay : GoodIn wsX5_way wsX0_mendingsWithWay := goodIn_r _ [109, 18, 110, 111, 112, 13, 113, 17, 72, 73, 74, 75, 57, 58, 59, 60, 15, 40, 3, 41, 114, 115, 116, 117, 19, 118, 119, 120, 121, 56, 67, 68, 69, 27, 70, 71, 133, 134, 135, 136, 137, 138, 139, 140, 141, 142, 143, 144] (by decide +kernel) (by decide +kernel)
set_option maxRecDepth 20000 in
theorem gX5_way_X0_mendingsWithWay : GoodIn wsX5_way (wsV RX5 192 RX0 yX0_mendingsWithWay wsX0_mendingsWithWay) := goodIn_app (goodIn_of _ (by decide +kernel)) ggX5_way_X0_mendingsWithWay
set_option maxRecDepth 20000 in
theorem ggX5_way_X0_firstMendingWithoutWay : GoodIn wsX5_way wsX0_firstMendingWithoutWay := goodIn_r _ [125, 18, 110, 111, 112, 13, 113, 17, 72, 73, 74, 75, 57, 58, 59, 60, 15, 40, 3, 41, 114, 115, 116, 117, 19, 118, 119, 120, 121, 56, 67, 68, 69, 27, 70, 71, 133, 134, 135, 136, 137, 138, 139, 140, 141, 142, 143, 144] (by decide +kernel) (by decide +kernel)
set_option maxRecDepth 20000 in
theorem gX5_way_X0_firstMendingWithoutWay : GoodIn wsX5_way (wsV RX5 195 RX0 yX0_firstMendingWithoutWay wsX0_firstMendingWithoutWay) := goodIn_app (goodIn_of _ (by decide +kernel)) ggX5_way_X0_firstMendingWithoutWay
theorem dX5_way_0 : decode cX5_way 0 = .ok (.iload_n 1, 1) := by decide +kernel
theorem dX5_way_1 : decode cX5_way 1 = .ok (.invokestatic 55, 3) := by decide +kernel
theorem dX5_way_4 : decode cX5_way 4 = .ok (.ifCond .eq 10, 3) := by decide +kernel
theorem dX5_way_7 : decode cX5_way 7 = .ok (.iload_n 2, 1) := by decide +kernel
theorem dX5_way_8 : decode cX5_way 8 = .ok (.invokestatic 55, 3) := by decide +kernel
theorem dX5_way_11 : decode cX5_way 11 = .ok (.ifCond .ne 5, 3) := by decide +kernel
theorem dX5_way_14 : decode cX5_way 14 = .ok (.iconst (-1), 1) := by decide +kernel
theorem dX5_way_15 : decode cX5_way 15 = .ok (.ireturn, 1) := by decide +kernel
theorem dX5_way_16 : decode cX5_way 16 = .ok (.aload_n 0, 1) := by decide +kernel
theorem dX5_way_17 : decode cX5_way 17 = .ok (.invokevirtual 122, 3) := by decide +kernel
theorem dX5_way_20 : decode cX5_way 20 = .ok (.astore 4, 2) := by decide +kernel
theorem dX5_way_22 : decode cX5_way 22 = .ok (.iload_n 3, 1) := by decide +kernel
theorem dX5_way_23 : decode cX5_way 23 = .ok (.tableswitch 89 0 4 #[33, 44, 65, 73, 81], 33) := by decide +kernel
theorem dX5_way_56 : decode cX5_way 56 = .ok (.aload 4, 2) := by decide +kernel
theorem dX5_way_58 : decode cX5_way 58 = .ok (.iload_n 1, 1) := by decide +kernel
theorem dX5_way_59 : decode cX5_way 59 = .ok (.iload_n 2, 1) := by decide +kernel
theorem dX5_way_60 : decode cX5_way 60 = .ok (.invokevirtual 185, 3) := by decide +kernel
theorem dX5_way_63 : decode cX5_way 63 = .ok (.invokestatic 157, 3) := by decide +kernel
theorem dX5_way_66 : decode cX5_way 66 = .ok (.ireturn, 1) := by decide +kernel
theorem dX5_way_67 : decode cX5_way 67 = .ok (.aload 4, 2) := by decide +kernel
theorem dX5_way_69 : decode cX5_way 69 = .ok (.iload_n 1, 1) := by decide +kernel
theorem dX5_way_70 : decode cX5_way 70 = .ok (.iload_n 2, 1) := by decide +kernel
theorem dX5_way_71 : decode cX5_way 71 = .ok (.invokevirtual 189, 3) := by decide +kernel
theorem dX5_way_74 : decode cX5_way 74 = .ok (.bipush (-5), 2) := by decide +kernel
theorem dX5_way_76 : decode cX5_way 76 = .ok (.if_icmp .eq 7, 3) := by decide +kernel
theorem dX5_way_79 : decode cX5_way 79 = .ok (.iconst 1, 1) := by decide +kernel
theorem dX5_way_80 : decode cX5_way 80 = .ok (.goto 4, 3) := by decide +kernel
theorem dX5_way_83 : decode cX5_way 83 = .ok (.iconst 0, 1) := by decide +kernel
theorem dX5_way_84 : decode cX5_way 84 = .ok (.invokestatic 157, 3) := by decide +kernel
theorem dX5_way_87 : decode cX5_way 87 = .ok (.ireturn, 1) := by decide +kernel
theorem dX5_way_88 : decode cX5_way 88 = .ok (.aload 4, 2) := by decide +kernel
theorem dX5_way_90 : decode cX5_way 90 = .ok (.iload_n 1, 1) := by decide +kernel
theorem dX5_way_91 : decode cX5_way 91 = .ok (.iload_n 2, 1) := by decide +kernel
theorem dX5_way_92 : decode cX5_way 92 = .ok (.invokevirtual 192, 3) := by decide +kernel
theorem dX5_way_95 : decode cX5_way 95 = .ok (.ireturn, 1) := by decide +kernel
theorem dX5_way_96 : decode cX5_way 96 = .ok (.aload 4, 2) := by decide +kernel
theorem dX5_way_98 : decode cX5_way 98 = .ok (.iload_n 1, 1) := by decide +kernel
theorem dX5_way_99 : decode cX5_way 99 = .ok (.iload_n 2, 1) := by decide +kernel
theorem dX5_way_100 : decode cX5_way 100 = .ok (.invokevirtual 195, 3) := by decide +kernel
theorem dX5_way_103 : decode cX5_way 103 = .ok (.ireturn, 1) := by decide +kernel
theorem dX5_way_104 : decode cX5_way 104 = .ok (.aload 4, 2) := by decide +kernel
theorem dX5_way_106 : decode cX5_way 106 = .ok (.iload_n 1, 1) := by decide +kernel
theorem dX5_way_107 : decode cX5_way 107 = .ok (.iload_n 2, 1) := by decide +kernel
theorem dX5_way_108 : decode cX5_way 108 = .ok (.invokevirtual 189, 3) := by decide +kernel
theorem dX5_way_111 : decode cX5_way 111 = .ok (.ireturn, 1) := by decide +kernel
theorem dX5_way_112 : decode cX5_way 112 = .ok (.bipush (-2), 2) := by decide +kernel
theorem dX5_way_114 : decode cX5_way 114 = .ok (.ireturn, 1) := by decide +kernel
set_option maxRecDepth 20000 in
theorem ggX5_kept_X5_isKey : GoodIn wsX5_kept wsX5_isKey := goodIn_r _ [4] (by decide +kernel) (by decide +kernel)
set_option maxRecDepth 20000 in
theorem gX5_kept_X5_isKey : GoodIn wsX5_kept (va_wsS RX5 55 yX5_isKey wsX5_isKey) := goodIn_app (goodIn_of _ (by decide +kernel)) ggX5_kept_X5_isKey
set_option maxRecDepth 20000 in
theorem ggX5_kept_X5_choicesNow : GoodIn wsX5_kept wsX5_choicesNow := goodIn_r _ [8, 9, 10, 11, 12, 13, 14, 15, 16, 17, 18, 19, 20, 21, 22, 23, 24, 25, 26, 27, 28, 29, 30, 31, 32, 33, 34, 35, 36, 37, 38, 39, 40, 3, 41, 42, 43, 44, 45, 46, 47, 48, 49, 50, 51, 52, 53, 54, 55, 56, 57, 58, 59, 60, 61, 62, 63, 64, 65, 66, 67, 68, 69, 70, 71, 2, 4, 72, 73, 74, 75, 88, 89, 90, 91, 92, 93, 94, 95, 96, 97, 98, 99, 100, 101, 102, 103, 104, 105, 106] (by decide +kernel) (by decide +kernel)
set_option maxRecDepth 20000 in
theorem gX5_kept_X5_choicesNow : GoodIn wsX5_kept (wsV RX5 122 RX5 yX5_choicesNow wsX5_choicesNow) := goodIn_app (goodIn_of _ (by decide +kernel)) ggX5_kept_X5_choicesNow
set_option maxRecDepth 20000 in
theorem ggX5_kept_X0_mendings : GoodIn wsX5_kept wsX0_mendings := goodIn_r _ [79, 18, 95, 96, 97, 98, 99, 100] (by decide +kernel) (by decide +kernel)
set_option maxRecDepth 20000 in
theorem gX5_kept_X0_mendings : GoodIn wsX5_kept (wsV RX5 126 RX0 yX0_mendings wsX0_mendings) := goodIn_app (goodIn_of _ (by decide +kernel)) ggX5_kept_X0_mendings
set_option maxRecDepth 20000 in
theorem ggX5_kept_X0_rowKeptBy : GoodIn wsX5_kept wsX0_rowKeptBy := goodIn_r _ [83, 19, 57, 58, 59, 13, 60, 15, 40, 3, 41, 84, 85, 86, 87, 56, 95, 96, 97, 98, 99, 100] (by decide +kernel) (by decide +kernel)
set_option maxRecDepth 20000 in
theorem gX5_kept_X0_rowKeptBy : GoodIn wsX5_kept (wsV RX5 198 RX0 yX0_rowKeptBy wsX0_rowKeptBy) := goodIn_app (goodIn_of _ (by decide +kernel)) ggX5_kept_X0_rowKeptBy
theorem dX5_kept_0 : decode cX5_kept 0 = .ok (.iload_n 2, 1) := by decide +kernel
theorem dX5_kept_1 : decode cX5_kept 1 = .ok (.invokestatic 55, 3) := by decide +kernel
theorem dX5_kept_4 : decode cX5_kept 4 = .ok (.ifCond .ne 5, 3) := by decide +kernel
theorem dX5_kept_7 : decode cX5_kept 7 = .ok (.iconst (-1), 1) := by decide +kernel
theorem dX5_kept_8 : decode cX5_kept 8 = .ok (.ireturn, 1) := by decide +kernel
theorem dX5_kept_9 : decode cX5_kept 9 = .ok (.aload_n 0, 1) := by decide +kernel
theorem dX5_kept_10 : decode cX5_kept 10 = .ok (.invokevirtual 122, 3) := by decide +kernel
theorem dX5_kept_13 : decode cX5_kept 13 = .ok (.astore_n 3, 1) := by decide +kernel
theorem dX5_kept_14 : decode cX5_kept 14 = .ok (.iload_n 1, 1) := by decide +kernel
theorem dX5_kept_15 : decode cX5_kept 15 = .ok (.ifCond .lt 11, 3) := by decide +kernel
theorem dX5_kept_18 : decode cX5_kept 18 = .ok (.iload_n 1, 1) := by decide +kernel
theorem dX5_kept_19 : decode cX5_kept 19 = .ok (.aload_n 3, 1) := by decide +kernel
theorem dX5_kept_20 : decode cX5_kept 20 = .ok (.invokevirtual 126, 3) := by decide +kernel
theorem dX5_kept_23 : decode cX5_kept 23 = .ok (.if_icmp .lt 6, 3) := by decide +kernel
theorem dX5_kept_26 : decode cX5_kept 26 = .ok (.bipush (-2), 2) := by decide +kernel
theorem dX5_kept_28 : decode cX5_kept 28 = .ok (.ireturn, 1) := by decide +kernel
theorem dX5_kept_29 : decode cX5_kept 29 = .ok (.aload_n 3, 1) := by decide +kernel
theorem dX5_kept_30 : decode cX5_kept 30 = .ok (.iload_n 1, 1) := by decide +kernel
theorem dX5_kept_31 : decode cX5_kept 31 = .ok (.iload_n 2, 1) := by decide +kernel
theorem dX5_kept_32 : decode cX5_kept 32 = .ok (.invokevirtual 198, 3) := by decide +kernel
theorem dX5_kept_35 : decode cX5_kept 35 = .ok (.ireturn, 1) := by decide +kernel
set_option maxRecDepth 20000 in
theorem ggX5_sum_X5_choicesNow : GoodIn wsX5_sum wsX5_choicesNow := goodIn_r _ [5, 6, 7, 8, 9, 10, 11, 12, 13, 14, 15, 16, 17, 18, 19, 20, 21, 22, 23, 24, 25, 26, 27, 28, 29, 30, 31, 32, 33, 34, 35, 36, 37, 4, 38, 39, 40, 41, 42, 43, 44, 45, 46, 47, 48, 49, 50, 51, 52, 53, 54, 55, 56, 57, 58, 59, 60, 61, 62, 63, 64, 65, 66, 67, 68, 69, 70, 71, 72, 73, 74, 104, 105, 106, 107, 108, 109, 110, 111, 112, 113, 114, 115, 116, 117, 118, 119, 120, 121, 122] (by decide +kernel) (by decide +kernel)
set_option maxRecDepth 20000 in
theorem gX5_sum_X5_choicesNow : GoodIn wsX5_sum (wsV RX5 122 RX5 yX5_choicesNow wsX5_choicesNow) := goodIn_app (goodIn_of _ (by decide +kernel)) ggX5_sum_X5_choicesNow
set_option maxRecDepth 20000 in
theorem ggX5_sum_X0_firstLightestMending : GoodIn wsX5_sum wsX0_firstLightestMending := goodIn_r _ [78, 79, 80, 81, 10, 82, 16, 54, 55, 56, 57, 12, 37, 4, 38, 83, 84, 85, 86, 14, 87, 88, 89, 90, 53, 91, 33, 34, 24, 35, 36, 111, 112, 113, 114, 115, 116, 117, 118, 119, 120, 121, 122] (by decide +kernel) (by decide +kernel)
set_option maxRecDepth 20000 in
theorem gX5_sum_X0_firstLightestMending : GoodIn wsX5_sum (wsV RX5 201 RX0 yX0_firstLightestMending wsX0_firstLightestMending) := goodIn_app (goodIn_of _ (by decide +kernel)) ggX5_sum_X0_firstLightestMending
set_option maxRecDepth 20000 in
theorem ggX5_sum_X0_sumKeptBy : GoodIn wsX5_sum wsX0_sumKeptBy := goodIn_r _ [95, 14, 71, 72, 73, 10, 74, 54, 55, 56, 57, 12, 37, 4, 38, 96, 97, 98, 99, 16, 87, 88, 89, 90, 53, 91, 33, 34, 24, 35, 36, 111, 112, 113, 114, 115, 116, 117, 118, 119, 120, 121, 122] (by decide +kernel) (by decide +kernel)
set_option maxRecDepth 20000 in
theorem gX5_sum_X0_sumKeptBy : GoodIn wsX5_sum (wsV RX5 204 RX0 yX0_sumKeptBy wsX0_sumKeptBy) := goodIn_app (goodIn_of _ (by decide +kernel)) ggX5_sum_X0_sumKeptBy
set_option maxRecDepth 20000 in
theorem ggX5_sum_X0_firstHeaviestMending : GoodIn wsX5_sum wsX0_firstHeaviestMending := goodIn_r _ [103, 79, 80, 81, 10, 82, 16, 54, 55, 56, 57, 12, 37, 4, 38, 83, 84, 85, 86, 14, 87, 88, 89, 90, 53, 91, 33, 34, 24, 35, 36, 111, 112, 113, 114, 115, 116, 117, 118, 119, 120, 121, 122] (by decide +kernel) (by decide +kernel)
set_option maxRecDepth 20000 in
theorem gX5_sum_X0_firstHeaviestMending : GoodIn wsX5_sum (wsV RX5 207 RX0 yX0_firstHeaviestMending wsX0_firstHeaviestMending) := goodIn_app (goodIn_of _ (by decide +kernel)) ggX5_sum_X0_firstHeaviestMending
theorem dX5_sum_0 : decode cX5_sum 0 = .ok (.aload_n 0, 1) := by decide +kernel
theorem dX5_sum_1 : decode cX5_sum 1 = .ok (.invokevirtual 122, 3) := by decide +kernel
theorem dX5_sum_4 : decode cX5_sum 4 = .ok (.astore_n 2, 1) := by decide +kernel
theorem dX5_sum_5 : decode cX5_sum 5 = .ok (.iload_n 1, 1) := by decide +kernel
theorem dX5_sum_6 : decode cX5_sum 6 = .ok (.tableswitch 58 0 3 #[30, 39, 48, 53], 30) := by decide +kernel
theorem dX5_sum_36 : decode cX5_sum 36 = .ok (.aload_n 2, 1) := by decide +kernel
theorem dX5_sum_37 : decode cX5_sum 37 = .ok (.aload_n 2, 1) := by decide +kernel
theorem dX5_sum_38 : decode cX5_sum 38 = .ok (.invokevirtual 201, 3) := by decide +kernel
theorem dX5_sum_41 : decode cX5_sum 41 = .ok (.invokevirtual 204, 3) := by decide +kernel
theorem dX5_sum_44 : decode cX5_sum 44 = .ok (.ireturn, 1) := by decide +kernel
theorem dX5_sum_45 : decode cX5_sum 45 = .ok (.aload_n 2, 1) := by decide +kernel
theorem dX5_sum_46 : decode cX5_sum 46 = .ok (.aload_n 2, 1) := by decide +kernel
theorem dX5_sum_47 : decode cX5_sum 47 = .ok (.invokevirtual 207, 3) := by decide +kernel
theorem dX5_sum_50 : decode cX5_sum 50 = .ok (.invokevirtual 204, 3) := by decide +kernel
theorem dX5_sum_53 : decode cX5_sum 53 = .ok (.ireturn, 1) := by decide +kernel
theorem dX5_sum_54 : decode cX5_sum 54 = .ok (.aload_n 2, 1) := by decide +kernel
theorem dX5_sum_55 : decode cX5_sum 55 = .ok (.invokevirtual 201, 3) := by decide +kernel
theorem dX5_sum_58 : decode cX5_sum 58 = .ok (.ireturn, 1) := by decide +kernel
theorem dX5_sum_59 : decode cX5_sum 59 = .ok (.aload_n 2, 1) := by decide +kernel
theorem dX5_sum_60 : decode cX5_sum 60 = .ok (.invokevirtual 207, 3) := by decide +kernel
theorem dX5_sum_63 : decode cX5_sum 63 = .ok (.ireturn, 1) := by decide +kernel
theorem dX5_sum_64 : decode cX5_sum 64 = .ok (.bipush (-2), 2) := by decide +kernel
theorem dX5_sum_66 : decode cX5_sum 66 = .ok (.ireturn, 1) := by decide +kernel
set_option maxRecDepth 20000 in
theorem ggX5_bestMended_X5_isKey : GoodIn wsX5_bestMended wsX5_isKey := goodIn_r _ [5] (by decide +kernel) (by decide +kernel)
set_option maxRecDepth 20000 in
theorem gX5_bestMended_X5_isKey : GoodIn wsX5_bestMended (va_wsS RX5 55 yX5_isKey wsX5_isKey) := goodIn_app (goodIn_of _ (by decide +kernel)) ggX5_bestMended_X5_isKey
set_option maxRecDepth 20000 in
theorem ggX5_bestMended_X5_choicesNow : GoodIn wsX5_bestMended wsX5_choicesNow := goodIn_r _ [9, 10, 11, 12, 13, 14, 15, 16, 17, 18, 19, 20, 21, 22, 23, 24, 25, 26, 27, 28, 29, 30, 31, 32, 33, 34, 35, 36, 37, 38, 39, 40, 41, 4, 42, 43, 44, 45, 46, 47, 48, 49, 50, 51, 52, 53, 54, 55, 56, 57, 58, 59, 60, 61, 62, 63, 64, 65, 66, 67, 68, 69, 70, 71, 72, 3, 5, 73, 74, 75, 76, 109, 110, 111, 112, 113, 114, 115, 116, 117, 118, 119, 120, 121, 122, 123, 124, 125, 126, 127] (by decide +kernel) (by decide +kernel)
set_option maxRecDepth 20000 in
theorem gX5_bestMended_X5_choicesNow : GoodIn wsX5_bestMended (wsV RX5 122 RX5 yX5_choicesNow wsX5_choicesNow) := goodIn_app (goodIn_of _ (by decide +kernel)) ggX5_bestMended_X5_choicesNow
set_option maxRecDepth 20000 in
theorem ggX5_bestMended_X0_rowThatMakesSure : GoodIn wsX5_bestMended wsX0_rowThatMakesSure := goodIn_r _ [80, 81, 82, 83, 14, 84, 85, 86, 87, 88, 89, 90, 91, 92, 73, 74, 75, 76, 58, 59, 60, 61, 16, 41, 4, 42, 93, 94, 95, 96, 17, 97, 98, 99, 100, 101, 102, 103, 57, 104, 105, 106, 107, 64, 65, 66, 67, 18, 68, 69, 70, 28, 71, 72, 3, 5, 62, 63, 116, 117, 118, 119, 120, 121, 122, 123, 124, 125, 126, 127] (by decide +kernel) (by decide +kernel)
set_option maxRecDepth 20000 in
theorem gX5_bestMended_X0_rowThatMakesSure : GoodIn wsX5_bestMended (wsV RX5 210 RX0 yX0_rowThatMakesSure wsX0_rowThatMakesSure) := goodIn_app (goodIn_of _ (by decide +kernel)) ggX5_bestMended_X0_rowThatMakesSure
set_option maxRecDepth 20000 in
theorem ggX5_bestMended_X3_keyAt : GoodIn wsX5_bestMended wsX3_keyAt := goodIn_r _ [46, 47, 41, 4, 42, 122, 123, 124, 125, 126, 127] (by decide +kernel) (by decide +kernel)
set_option maxRecDepth 20000 in
theorem gX5_bestMended_X3_keyAt : GoodIn wsX5_bestMended (wsV RX5 98 RX3 yX3_keyAt wsX3_keyAt) := goodIn_app (goodIn_of _ (by decide +kernel)) ggX5_bestMended_X3_keyAt
theorem dX5_bestMended_0 : decode cX5_bestMended 0 = .ok (.iload_n 1, 1) := by decide +kernel
theorem dX5_bestMended_1 : decode cX5_bestMended 1 = .ok (.invokestatic 55, 3) := by decide +kernel
theorem dX5_bestMended_4 : decode cX5_bestMended 4 = .ok (.ifCond .eq 10, 3) := by decide +kernel
theorem dX5_bestMended_7 : decode cX5_bestMended 7 = .ok (.iload_n 2, 1) := by decide +kernel
theorem dX5_bestMended_8 : decode cX5_bestMended 8 = .ok (.invokestatic 55, 3) := by decide +kernel
theorem dX5_bestMended_11 : decode cX5_bestMended 11 = .ok (.ifCond .ne 5, 3) := by decide +kernel
theorem dX5_bestMended_14 : decode cX5_bestMended 14 = .ok (.iconst (-1), 1) := by decide +kernel
theorem dX5_bestMended_15 : decode cX5_bestMended 15 = .ok (.ireturn, 1) := by decide +kernel
theorem dX5_bestMended_16 : decode cX5_bestMended 16 = .ok (.iload_n 3, 1) := by decide +kernel
theorem dX5_bestMended_17 : decode cX5_bestMended 17 = .ok (.ifCond .eq 11, 3) := by decide +kernel
theorem dX5_bestMended_20 : decode cX5_bestMended 20 = .ok (.iload_n 3, 1) := by decide +kernel
theorem dX5_bestMended_21 : decode cX5_bestMended 21 = .ok (.iconst 1, 1) := by decide +kernel
theorem dX5_bestMended_22 : decode cX5_bestMended 22 = .ok (.if_icmp .eq 6, 3) := by decide +kernel
theorem dX5_bestMended_25 : decode cX5_bestMended 25 = .ok (.bipush (-2), 2) := by decide +kernel
theorem dX5_bestMended_27 : decode cX5_bestMended 27 = .ok (.ireturn, 1) := by decide +kernel
theorem dX5_bestMended_28 : decode cX5_bestMended 28 = .ok (.aload_n 0, 1) := by decide +kernel
theorem dX5_bestMended_29 : decode cX5_bestMended 29 = .ok (.invokevirtual 122, 3) := by decide +kernel
theorem dX5_bestMended_32 : decode cX5_bestMended 32 = .ok (.iload_n 1, 1) := by decide +kernel
theorem dX5_bestMended_33 : decode cX5_bestMended 33 = .ok (.iload_n 2, 1) := by decide +kernel
theorem dX5_bestMended_34 : decode cX5_bestMended 34 = .ok (.invokevirtual 210, 3) := by decide +kernel
theorem dX5_bestMended_37 : decode cX5_bestMended 37 = .ok (.istore 4, 2) := by decide +kernel
theorem dX5_bestMended_39 : decode cX5_bestMended 39 = .ok (.iload 4, 2) := by decide +kernel
theorem dX5_bestMended_41 : decode cX5_bestMended 41 = .ok (.bipush (-5), 2) := by decide +kernel
theorem dX5_bestMended_43 : decode cX5_bestMended 43 = .ok (.if_icmp .ne 6, 3) := by decide +kernel
theorem dX5_bestMended_46 : decode cX5_bestMended 46 = .ok (.bipush (-5), 2) := by decide +kernel
theorem dX5_bestMended_48 : decode cX5_bestMended 48 = .ok (.ireturn, 1) := by decide +kernel
theorem dX5_bestMended_49 : decode cX5_bestMended 49 = .ok (.iload_n 3, 1) := by decide +kernel
theorem dX5_bestMended_50 : decode cX5_bestMended 50 = .ok (.ifCond .ne 15, 3) := by decide +kernel
theorem dX5_bestMended_53 : decode cX5_bestMended 53 = .ok (.aload_n 0, 1) := by decide +kernel
theorem dX5_bestMended_54 : decode cX5_bestMended 54 = .ok (.getfield 10, 3) := by decide +kernel
theorem dX5_bestMended_57 : decode cX5_bestMended 57 = .ok (.iload 4, 2) := by decide +kernel
theorem dX5_bestMended_59 : decode cX5_bestMended 59 = .ok (.invokevirtual 98, 3) := by decide +kernel
theorem dX5_bestMended_62 : decode cX5_bestMended 62 = .ok (.goto 5, 3) := by decide +kernel
theorem dX5_bestMended_65 : decode cX5_bestMended 65 = .ok (.iload 4, 2) := by decide +kernel
theorem dX5_bestMended_67 : decode cX5_bestMended 67 = .ok (.ireturn, 1) := by decide +kernel
set_option maxRecDepth 20000 in
theorem ggX5_count_X3_size : GoodIn wsX5_count wsX3_size := goodIn_r _ [8, 9, 197, 198, 199, 200, 201, 202] (by decide +kernel) (by decide +kernel)
set_option maxRecDepth 20000 in
theorem gX5_count_X3_size : GoodIn wsX5_count (wsV RX5 74 RX3 yX3_size wsX3_size) := goodIn_app (goodIn_of _ (by decide +kernel)) ggX5_count_X3_size
set_option maxRecDepth 20000 in
theorem ggX5_count_X3_keysThere : GoodIn wsX5_count wsX3_keysThere := goodIn_r _ [13, 14, 15, 16, 7, 17, 18, 19, 20, 21, 9, 22, 23, 24, 25, 26, 27, 28, 29, 197, 198, 199, 200, 201, 202] (by decide +kernel) (by decide +kernel)
set_option maxRecDepth 20000 in
theorem gX5_count_X3_keysThere : GoodIn wsX5_count (wsV RX5 213 RX3 yX3_keysThere wsX3_keysThere) := goodIn_app (goodIn_of _ (by decide +kernel)) ggX5_count_X3_keysThere
set_option maxRecDepth 20000 in
theorem ggX5_count_X3_doubledKeys : GoodIn wsX5_count wsX3_doubledKeys := goodIn_r _ [33, 14, 15, 16, 7, 17, 18, 19, 20, 21, 9, 22, 23, 24, 25, 26, 27, 28, 29, 197, 198, 199, 200, 201, 202] (by decide +kernel) (by decide +kernel)
set_option maxRecDepth 20000 in
theorem gX5_count_X3_doubledKeys : GoodIn wsX5_count (wsV RX5 108 RX3 yX3_doubledKeys wsX3_doubledKeys) := goodIn_app (goodIn_of _ (by decide +kernel)) ggX5_count_X3_doubledKeys
set_option maxRecDepth 20000 in
theorem ggX5_count_X5_choicesNow : GoodIn wsX5_count wsX5_choicesNow := goodIn_r _ [37, 38, 39, 40, 41, 42, 43, 44, 45, 46, 47, 48, 49, 50, 51, 52, 53, 5, 6, 7, 8, 9, 54, 55, 56, 57, 58, 59, 60, 61, 62, 63, 27, 28, 29, 22, 23, 24, 25, 26, 64, 65, 66, 67, 68, 69, 70, 71, 72, 73, 74, 75, 76, 77, 78, 79, 80, 81, 82, 83, 84, 85, 86, 87, 88, 89, 90, 91, 92, 93, 94, 190, 191, 192, 193, 194, 195, 196, 203, 204, 205, 206, 207, 208, 197, 198, 199, 200, 201, 202] (by decide +kernel) (by decide +kernel)
set_option maxRecDepth 20000 in
theorem gX5_count_X5_choicesNow : GoodIn wsX5_count (wsV RX5 122 RX5 yX5_choicesNow wsX5_choicesNow) := goodIn_app (goodIn_of _ (by decide +kernel)) ggX5_count_X5_choicesNow
set_option maxRecDepth 20000 in
theorem ggX5_count_X0_mendings : GoodIn wsX5_count wsX0_mendings := goodIn_r _ [98, 47, 203, 204, 205, 206, 207, 208] (by decide +kernel) (by decide +kernel)
set_option maxRecDepth 20000 in
theorem gX5_count_X0_mendings : GoodIn wsX5_count (wsV RX5 126 RX0 yX0_mendings wsX0_mendings) := goodIn_app (goodIn_of _ (by decide +kernel)) ggX5_count_X0_mendings
set_option maxRecDepth 20000 in
theorem ggX5_count_X0_sureRows : GoodIn wsX5_count wsX0_sureRows := goodIn_r _ [102, 46, 53, 5, 6, 7, 8, 9, 103, 104, 105, 42, 106, 54, 55, 56, 57, 58, 59, 60, 61, 62, 63, 27, 28, 29, 22, 23, 24, 25, 26, 64, 65, 66, 67, 68, 74, 75, 76, 77, 44, 203, 204, 205, 206, 207, 208, 197, 198, 199, 200, 201, 202] (by decide +kernel) (by decide +kernel)
set_option maxRecDepth 20000 in
theorem gX5_count_X0_sureRows : GoodIn wsX5_count (wsV RX5 216 RX0 yX0_sureRows wsX0_sureRows) := goodIn_app (goodIn_of _ (by decide +kernel)) ggX5_count_X0_sureRows
set_option maxRecDepth 20000 in
theorem ggX5_count_X0_sureValues : GoodIn wsX5_count wsX0_sureValues := goodIn_r _ [110, 111, 112, 113, 42, 114, 91, 92, 93, 94, 74, 75, 76, 77, 44, 27, 28, 29, 115, 116, 117, 118, 46, 119, 120, 121, 122, 73, 123, 124, 125, 7, 126, 127, 203, 204, 205, 206, 207, 208, 197, 198, 199, 200, 201, 202] (by decide +kernel) (by decide +kernel)
set_option maxRecDepth 20000 in
theorem gX5_count_X0_sureValues : GoodIn wsX5_count (wsV RX5 219 RX0 yX0_sureValues wsX0_sureValues) := goodIn_app (goodIn_of _ (by decide +kernel)) ggX5_count_X0_sureValues
set_option maxRecDepth 20000 in
theorem ggX5_count_X0_possibleValues : GoodIn wsX5_count wsX0_possibleValues := goodIn_r _ [131, 132, 133, 134, 42, 135, 115, 116, 117, 118, 46, 74, 75, 76, 77, 44, 27, 28, 29, 119, 120, 121, 122, 73, 123, 124, 125, 7, 126, 127, 203, 204, 205, 206, 207, 208, 197, 198, 199, 200, 201, 202] (by decide +kernel) (by decide +kernel)
set_option maxRecDepth 20000 in
theorem gX5_count_X0_possibleValues : GoodIn wsX5_count (wsV RX5 222 RX0 yX0_possibleValues wsX0_possibleValues) := goodIn_app (goodIn_of _ (by decide +kernel)) ggX5_count_X0_possibleValues
set_option maxRecDepth 20000 in
theorem ggX5_count_X0_sureWays : GoodIn wsX5_count wsX0_sureWays := goodIn_r _ [139, 140, 141, 142, 42, 143, 144, 145, 146, 147, 91, 92, 93, 94, 74, 75, 76, 77, 44, 27, 28, 29, 148, 149, 150, 151, 45, 152, 153, 154, 155, 156, 157, 158, 203, 204, 205, 206, 207, 208] (by decide +kernel) (by decide +kernel)
set_option maxRecDepth 20000 in
theorem gX5_count_X0_sureWays : GoodIn wsX5_count (wsV RX5 225 RX0 yX0_sureWays wsX0_sureWays) := goodIn_app (goodIn_of _ (by decide +kernel)) ggX5_count_X0_sureWays
set_option maxRecDepth 20000 in
theorem ggX5_count_X0_possibleWays : GoodIn wsX5_count wsX0_possibleWays := goodIn_r _ [162, 163, 164, 165, 42, 166, 144, 145, 146, 147, 91, 92, 93, 94, 74, 75, 76, 77, 44, 27, 28, 29, 167, 168, 169, 170, 45, 152, 153, 154, 155, 156, 157, 158, 203, 204, 205, 206, 207, 208] (by decide +kernel) (by decide +kernel)
set_option maxRecDepth 20000 in
theorem gX5_count_X0_possibleWays : GoodIn wsX5_count (wsV RX5 228 RX0 yX0_possibleWays wsX0_possibleWays) := goodIn_app (goodIn_of _ (by decide +kernel)) ggX5_count_X0_possibleWays
set_option maxRecDepth 20000 in
theorem ggX5_count_X3_prefersHeaviest : GoodIn wsX5_count wsX3_prefersHeaviest := goodIn_r _ [174, 58, 197, 198, 199, 200, 201, 202] (by decide +kernel) (by decide +kernel)
set_option maxRecDepth 20000 in
theorem gX5_count_X3_prefersHeaviest : GoodIn wsX5_count (wsV RX5 115 RX3 yX3_prefersHeaviest wsX3_prefersHeaviest) := goodIn_app (goodIn_of _ (by decide +kernel)) ggX5_count_X3_prefersHeaviest
set_option maxRecDepth 20000 in
theorem ggX5_count_X5_oneIf : GoodIn wsX5_count wsX5_oneIf := goodIn_r _ [177] (by decide +kernel) (by decide +kernel)
set_option maxRecDepth 20000 in
theorem gX5_count_X5_oneIf : GoodIn wsX5_count (va_wsS RX5 157 yX5_oneIf wsX5_oneIf) := goodIn_app (goodIn_of _ (by decide +kernel)) ggX5_count_X5_oneIf
set_option maxRecDepth 20000 in
theorem ggX5_count_X1_size : GoodIn wsX5_count wsX1_size := goodIn_r _ [182, 183, 209, 210, 211] (by decide +kernel) (by decide +kernel)
set_option maxRecDepth 20000 in
theorem gX5_count_X1_size : GoodIn wsX5_count (wsV RX5 141 RX1 yX1_size wsX1_size) := goodIn_app (goodIn_of _ (by decide +kernel)) ggX5_count_X1_size
set_option maxRecDepth 20000 in
theorem ggX5_count_X4_length : GoodIn wsX5_count wsX4_length := goodIn_r _ [188, 189, 212, 213] (by decide +kernel) (by decide +kernel)
set_option maxRecDepth 20000 in
theorem gX5_count_X4_length : GoodIn wsX5_count (wsV RX5 131 RX4 yX4_length wsX4_length) := goodIn_app (goodIn_of _ (by decide +kernel)) ggX5_count_X4_length
theorem dX5_count_0 : decode cX5_count 0 = .ok (.iload_n 1, 1) := by decide +kernel
theorem dX5_count_1 : decode cX5_count 1 = .ok (.tableswitch 162 0 11 #[63, 71, 79, 87, 95, 103, 111, 119, 127, 135, 146, 154], 63) := by decide +kernel
theorem dX5_count_64 : decode cX5_count 64 = .ok (.aload_n 0, 1) := by decide +kernel
theorem dX5_count_65 : decode cX5_count 65 = .ok (.getfield 10, 3) := by decide +kernel
theorem dX5_count_68 : decode cX5_count 68 = .ok (.invokevirtual 74, 3) := by decide +kernel
theorem dX5_count_71 : decode cX5_count 71 = .ok (.ireturn, 1) := by decide +kernel
theorem dX5_count_72 : decode cX5_count 72 = .ok (.aload_n 0, 1) := by decide +kernel
theorem dX5_count_73 : decode cX5_count 73 = .ok (.getfield 10, 3) := by decide +kernel
theorem dX5_count_76 : decode cX5_count 76 = .ok (.invokevirtual 213, 3) := by decide +kernel
theorem dX5_count_79 : decode cX5_count 79 = .ok (.ireturn, 1) := by decide +kernel
theorem dX5_count_80 : decode cX5_count 80 = .ok (.aload_n 0, 1) := by decide +kernel
theorem dX5_count_81 : decode cX5_count 81 = .ok (.getfield 10, 3) := by decide +kernel
theorem dX5_count_84 : decode cX5_count 84 = .ok (.invokevirtual 108, 3) := by decide +kernel
theorem dX5_count_87 : decode cX5_count 87 = .ok (.ireturn, 1) := by decide +kernel
theorem dX5_count_88 : decode cX5_count 88 = .ok (.aload_n 0, 1) := by decide +kernel
theorem dX5_count_89 : decode cX5_count 89 = .ok (.invokevirtual 122, 3) := by decide +kernel
theorem dX5_count_92 : decode cX5_count 92 = .ok (.invokevirtual 126, 3) := by decide +kernel
theorem dX5_count_95 : decode cX5_count 95 = .ok (.ireturn, 1) := by decide +kernel
theorem dX5_count_96 : decode cX5_count 96 = .ok (.aload_n 0, 1) := by decide +kernel
theorem dX5_count_97 : decode cX5_count 97 = .ok (.invokevirtual 122, 3) := by decide +kernel
theorem dX5_count_100 : decode cX5_count 100 = .ok (.invokevirtual 216, 3) := by decide +kernel
theorem dX5_count_103 : decode cX5_count 103 = .ok (.ireturn, 1) := by decide +kernel
theorem dX5_count_104 : decode cX5_count 104 = .ok (.aload_n 0, 1) := by decide +kernel
theorem dX5_count_105 : decode cX5_count 105 = .ok (.invokevirtual 122, 3) := by decide +kernel
theorem dX5_count_108 : decode cX5_count 108 = .ok (.invokevirtual 219, 3) := by decide +kernel
theorem dX5_count_111 : decode cX5_count 111 = .ok (.ireturn, 1) := by decide +kernel
theorem dX5_count_112 : decode cX5_count 112 = .ok (.aload_n 0, 1) := by decide +kernel
theorem dX5_count_113 : decode cX5_count 113 = .ok (.invokevirtual 122, 3) := by decide +kernel
theorem dX5_count_116 : decode cX5_count 116 = .ok (.invokevirtual 222, 3) := by decide +kernel
theorem dX5_count_119 : decode cX5_count 119 = .ok (.ireturn, 1) := by decide +kernel
theorem dX5_count_120 : decode cX5_count 120 = .ok (.aload_n 0, 1) := by decide +kernel
theorem dX5_count_121 : decode cX5_count 121 = .ok (.invokevirtual 122, 3) := by decide +kernel
theorem dX5_count_124 : decode cX5_count 124 = .ok (.invokevirtual 225, 3) := by decide +kernel
theorem dX5_count_127 : decode cX5_count 127 = .ok (.ireturn, 1) := by decide +kernel
theorem dX5_count_128 : decode cX5_count 128 = .ok (.aload_n 0, 1) := by decide +kernel
theorem dX5_count_129 : decode cX5_count 129 = .ok (.invokevirtual 122, 3) := by decide +kernel
theorem dX5_count_132 : decode cX5_count 132 = .ok (.invokevirtual 228, 3) := by decide +kernel
theorem dX5_count_135 : decode cX5_count 135 = .ok (.ireturn, 1) := by decide +kernel
theorem dX5_count_136 : decode cX5_count 136 = .ok (.aload_n 0, 1) := by decide +kernel
theorem dX5_count_137 : decode cX5_count 137 = .ok (.getfield 10, 3) := by decide +kernel
theorem dX5_count_140 : decode cX5_count 140 = .ok (.invokevirtual 115, 3) := by decide +kernel
theorem dX5_count_143 : decode cX5_count 143 = .ok (.invokestatic 157, 3) := by decide +kernel
theorem dX5_count_146 : decode cX5_count 146 = .ok (.ireturn, 1) := by decide +kernel
theorem dX5_count_147 : decode cX5_count 147 = .ok (.aload_n 0, 1) := by decide +kernel
theorem dX5_count_148 : decode cX5_count 148 = .ok (.getfield 28, 3) := by decide +kernel
theorem dX5_count_151 : decode cX5_count 151 = .ok (.invokevirtual 141, 3) := by decide +kernel
theorem dX5_count_154 : decode cX5_count 154 = .ok (.ireturn, 1) := by decide +kernel
theorem dX5_count_155 : decode cX5_count 155 = .ok (.aload_n 0, 1) := by decide +kernel
theorem dX5_count_156 : decode cX5_count 156 = .ok (.getfield 42, 3) := by decide +kernel
theorem dX5_count_159 : decode cX5_count 159 = .ok (.invokevirtual 131, 3) := by decide +kernel
theorem dX5_count_162 : decode cX5_count 162 = .ok (.ireturn, 1) := by decide +kernel
theorem dX5_count_163 : decode cX5_count 163 = .ok (.bipush (-2), 2) := by decide +kernel
theorem dX5_count_165 : decode cX5_count 165 = .ok (.ireturn, 1) := by decide +kernel
set_option maxRecDepth 20000 in
theorem ggX5_choicesNow_X0_update : GoodIn wsX5_choicesNow wsX0_update := goodIn_r _ [6, 7, 8, 9, 10, 11, 12, 13, 14, 15, 16, 17, 18, 19, 20, 21, 22, 23, 24, 25, 26, 27, 28, 29, 30, 31, 32, 33, 34, 35, 36, 37, 38, 39, 40, 41, 42, 43, 44, 45, 46, 47, 5, 48, 49, 50, 51, 52, 53, 54, 55, 56, 57, 58, 59, 60, 61, 62, 63, 64, 65, 66, 67, 68, 69, 70, 78, 79, 80, 81, 82, 83, 84, 85, 86, 87, 88, 89] (by decide +kernel) (by decide +kernel)
set_option maxRecDepth 20000 in
theorem gX5_choicesNow_X0_update : GoodIn wsX5_choicesNow (wsV RX5 231 RX0 yX0_update wsX0_update) := goodIn_app (goodIn_of _ (by decide +kernel)) ggX5_choicesNow_X0_update
theorem dX5_choicesNow_0 : decode cX5_choicesNow 0 = .ok (.aload_n 0, 1) := by decide +kernel
theorem dX5_choicesNow_1 : decode cX5_choicesNow 1 = .ok (.getfield 21, 3) := by decide +kernel
theorem dX5_choicesNow_4 : decode cX5_choicesNow 4 = .ok (.invokevirtual 231, 3) := by decide +kernel
theorem dX5_choicesNow_7 : decode cX5_choicesNow 7 = .ok (.aload_n 0, 1) := by decide +kernel
theorem dX5_choicesNow_8 : decode cX5_choicesNow 8 = .ok (.getfield 21, 3) := by decide +kernel
theorem dX5_choicesNow_11 : decode cX5_choicesNow 11 = .ok (.areturn, 1) := by decide +kernel
set_option maxRecDepth 20000 in
theorem ggX5_chosenBy_X3_firstWith : GoodIn wsX5_chosenBy wsX3_firstWith := goodIn_r _ [6, 7, 8, 9, 10, 5, 11, 12, 13, 14, 15, 36, 37, 38, 39, 40, 41] (by decide +kernel) (by decide +kernel)
set_option maxRecDepth 20000 in
theorem gX5_chosenBy_X3_firstWith : GoodIn wsX5_chosenBy (wsV RX5 234 RX3 yX3_firstWith wsX3_firstWith) := goodIn_app (goodIn_of _ (by decide +kernel)) ggX5_chosenBy_X3_firstWith
set_option maxRecDepth 20000 in
theorem ggX5_chosenBy_X3_lastWith : GoodIn wsX5_chosenBy wsX3_lastWith := goodIn_r _ [19, 7, 8, 9, 10, 5, 11, 12, 13, 14, 15, 36, 37, 38, 39, 40, 41] (by decide +kernel) (by decide +kernel)
set_option maxRecDepth 20000 in
theorem gX5_chosenBy_X3_lastWith : GoodIn wsX5_chosenBy (wsV RX5 237 RX3 yX3_lastWith wsX3_lastWith) := goodIn_app (goodIn_of _ (by decide +kernel)) ggX5_chosenBy_X3_lastWith
set_option maxRecDepth 20000 in
theorem ggX5_chosenBy_X3_heaviestWith : GoodIn wsX5_chosenBy wsX3_heaviestWith := goodIn_r _ [23, 7, 8, 9, 10, 5, 11, 12, 13, 14, 15, 24, 25, 26, 27, 28, 36, 37, 38, 39, 40, 41] (by decide +kernel) (by decide +kernel)
set_option maxRecDepth 20000 in
theorem gX5_chosenBy_X3_heaviestWith : GoodIn wsX5_chosenBy (wsV RX5 170 RX3 yX3_heaviestWith wsX3_heaviestWith) := goodIn_app (goodIn_of _ (by decide +kernel)) ggX5_chosenBy_X3_heaviestWith
theorem dX5_chosenBy_0 : decode cX5_chosenBy 0 = .ok (.iload_n 1, 1) := by decide +kernel
theorem dX5_chosenBy_1 : decode cX5_chosenBy 1 = .ok (.lookupswitch 45 #[(0, 27), (1, 36)], 27) := by decide +kernel
theorem dX5_chosenBy_28 : decode cX5_chosenBy 28 = .ok (.aload_n 0, 1) := by decide +kernel
theorem dX5_chosenBy_29 : decode cX5_chosenBy 29 = .ok (.getfield 10, 3) := by decide +kernel
theorem dX5_chosenBy_32 : decode cX5_chosenBy 32 = .ok (.iload_n 2, 1) := by decide +kernel
theorem dX5_chosenBy_33 : decode cX5_chosenBy 33 = .ok (.invokevirtual 234, 3) := by decide +kernel
theorem dX5_chosenBy_36 : decode cX5_chosenBy 36 = .ok (.ireturn, 1) := by decide +kernel
theorem dX5_chosenBy_37 : decode cX5_chosenBy 37 = .ok (.aload_n 0, 1) := by decide +kernel
theorem dX5_chosenBy_38 : decode cX5_chosenBy 38 = .ok (.getfield 10, 3) := by decide +kernel
theorem dX5_chosenBy_41 : decode cX5_chosenBy 41 = .ok (.iload_n 2, 1) := by decide +kernel
theorem dX5_chosenBy_42 : decode cX5_chosenBy 42 = .ok (.invokevirtual 237, 3) := by decide +kernel
theorem dX5_chosenBy_45 : decode cX5_chosenBy 45 = .ok (.ireturn, 1) := by decide +kernel
theorem dX5_chosenBy_46 : decode cX5_chosenBy 46 = .ok (.aload_n 0, 1) := by decide +kernel
theorem dX5_chosenBy_47 : decode cX5_chosenBy 47 = .ok (.getfield 10, 3) := by decide +kernel
theorem dX5_chosenBy_50 : decode cX5_chosenBy 50 = .ok (.iload_n 2, 1) := by decide +kernel
theorem dX5_chosenBy_51 : decode cX5_chosenBy 51 = .ok (.invokevirtual 170, 3) := by decide +kernel
theorem dX5_chosenBy_54 : decode cX5_chosenBy 54 = .ok (.ireturn, 1) := by decide +kernel
theorem dX5_isKey_0 : decode cX5_isKey 0 = .ok (.iload_n 0, 1) := by decide +kernel
theorem dX5_isKey_1 : decode cX5_isKey 1 = .ok (.ifCond .lt 13, 3) := by decide +kernel
theorem dX5_isKey_4 : decode cX5_isKey 4 = .ok (.iload_n 0, 1) := by decide +kernel
theorem dX5_isKey_5 : decode cX5_isKey 5 = .ok (.bipush 10, 2) := by decide +kernel
theorem dX5_isKey_7 : decode cX5_isKey 7 = .ok (.if_icmp .ge 7, 3) := by decide +kernel
theorem dX5_isKey_10 : decode cX5_isKey 10 = .ok (.iconst 1, 1) := by decide +kernel
theorem dX5_isKey_11 : decode cX5_isKey 11 = .ok (.goto 4, 3) := by decide +kernel
theorem dX5_isKey_14 : decode cX5_isKey 14 = .ok (.iconst 0, 1) := by decide +kernel
theorem dX5_isKey_15 : decode cX5_isKey 15 = .ok (.ireturn, 1) := by decide +kernel
theorem dX5_isValue_0 : decode cX5_isValue 0 = .ok (.iload_n 0, 1) := by decide +kernel
theorem dX5_isValue_1 : decode cX5_isValue 1 = .ok (.bipush 97, 2) := by decide +kernel
theorem dX5_isValue_3 : decode cX5_isValue 3 = .ok (.if_icmp .lt 13, 3) := by decide +kernel
theorem dX5_isValue_6 : decode cX5_isValue 6 = .ok (.iload_n 0, 1) := by decide +kernel
theorem dX5_isValue_7 : decode cX5_isValue 7 = .ok (.bipush 104, 2) := by decide +kernel
theorem dX5_isValue_9 : decode cX5_isValue 9 = .ok (.if_icmp .gt 7, 3) := by decide +kernel
theorem dX5_isValue_12 : decode cX5_isValue 12 = .ok (.iconst 1, 1) := by decide +kernel
theorem dX5_isValue_13 : decode cX5_isValue 13 = .ok (.goto 4, 3) := by decide +kernel
theorem dX5_isValue_16 : decode cX5_isValue 16 = .ok (.iconst 0, 1) := by decide +kernel
theorem dX5_isValue_17 : decode cX5_isValue 17 = .ok (.ireturn, 1) := by decide +kernel
theorem dX5_oneIf_0 : decode cX5_oneIf 0 = .ok (.iload_n 0, 1) := by decide +kernel
theorem dX5_oneIf_1 : decode cX5_oneIf 1 = .ok (.ifCond .eq 7, 3) := by decide +kernel
theorem dX5_oneIf_4 : decode cX5_oneIf 4 = .ok (.iconst 1, 1) := by decide +kernel
theorem dX5_oneIf_5 : decode cX5_oneIf 5 = .ok (.goto 4, 3) := by decide +kernel
theorem dX5_oneIf_8 : decode cX5_oneIf 8 = .ok (.iconst 0, 1) := by decide +kernel
theorem dX5_oneIf_9 : decode cX5_oneIf 9 = .ok (.ireturn, 1) := by decide +kernel
theorem dX5_at_0 : decode cX5_at 0 = .ok (.iload_n 1, 1) := by decide +kernel
theorem dX5_at_1 : decode cX5_at 1 = .ok (.ifCond .lt 15, 3) := by decide +kernel
theorem dX5_at_4 : decode cX5_at 4 = .ok (.iload_n 1, 1) := by decide +kernel
theorem dX5_at_5 : decode cX5_at 5 = .ok (.aload_n 0, 1) := by decide +kernel
theorem dX5_at_6 : decode cX5_at 6 = .ok (.arraylength, 1) := by decide +kernel
theorem dX5_at_7 : decode cX5_at 7 = .ok (.if_icmp .ge 9, 3) := by decide +kernel
theorem dX5_at_10 : decode cX5_at 10 = .ok (.aload_n 0, 1) := by decide +kernel
theorem dX5_at_11 : decode cX5_at 11 = .ok (.iload_n 1, 1) := by decide +kernel
theorem dX5_at_12 : decode cX5_at 12 = .ok (.iaload, 1) := by decide +kernel
theorem dX5_at_13 : decode cX5_at 13 = .ok (.goto 5, 3) := by decide +kernel
theorem dX5_at_16 : decode cX5_at 16 = .ok (.bipush (-5), 2) := by decide +kernel
theorem dX5_at_18 : decode cX5_at 18 = .ok (.ireturn, 1) := by decide +kernel
theorem dX5_put_0 : decode cX5_put 0 = .ok (.iload_n 1, 1) := by decide +kernel
theorem dX5_put_1 : decode cX5_put 1 = .ok (.ifCond .lt 13, 3) := by decide +kernel
theorem dX5_put_4 : decode cX5_put 4 = .ok (.iload_n 1, 1) := by decide +kernel
theorem dX5_put_5 : decode cX5_put 5 = .ok (.aload_n 0, 1) := by decide +kernel
theorem dX5_put_6 : decode cX5_put 6 = .ok (.arraylength, 1) := by decide +kernel
theorem dX5_put_7 : decode cX5_put 7 = .ok (.if_icmp .ge 7, 3) := by decide +kernel
theorem dX5_put_10 : decode cX5_put 10 = .ok (.aload_n 0, 1) := by decide +kernel
theorem dX5_put_11 : decode cX5_put 11 = .ok (.iload_n 1, 1) := by decide +kernel
theorem dX5_put_12 : decode cX5_put 12 = .ok (.iload_n 2, 1) := by decide +kernel
theorem dX5_put_13 : decode cX5_put 13 = .ok (.iastore, 1) := by decide +kernel
theorem dX5_put_14 : decode cX5_put 14 = .ok (.return_, 1) := by decide +kernel
theorem dX5_copy_0 : decode cX5_copy 0 = .ok (.aload_n 0, 1) := by decide +kernel
theorem dX5_copy_1 : decode cX5_copy 1 = .ok (.iconst 0, 1) := by decide +kernel
theorem dX5_copy_2 : decode cX5_copy 2 = .ok (.aload_n 1, 1) := by decide +kernel
theorem dX5_copy_3 : decode cX5_copy 3 = .ok (.iconst 0, 1) := by decide +kernel
theorem dX5_copy_4 : decode cX5_copy 4 = .ok (.aload_n 0, 1) := by decide +kernel
theorem dX5_copy_5 : decode cX5_copy 5 = .ok (.arraylength, 1) := by decide +kernel
theorem dX5_copy_6 : decode cX5_copy 6 = .ok (.aload_n 1, 1) := by decide +kernel
theorem dX5_copy_7 : decode cX5_copy 7 = .ok (.arraylength, 1) := by decide +kernel
theorem dX5_copy_8 : decode cX5_copy 8 = .ok (.invokestatic 240, 3) := by decide +kernel
theorem dX5_copy_11 : decode cX5_copy 11 = .ok (.invokestatic 245, 3) := by decide +kernel
theorem dX5_copy_14 : decode cX5_copy 14 = .ok (.return_, 1) := by decide +kernel
theorem dJ6_bitCount_0f7a4_0 : decode cJ6_bitCount_0f7a4 0 = .ok (.iload_n 0, 1) := by decide +kernel
theorem dJ6_bitCount_0f7a4_1 : decode cJ6_bitCount_0f7a4 1 = .ok (.iload_n 0, 1) := by decide +kernel
theorem dJ6_bitCount_0f7a4_2 : decode cJ6_bitCount_0f7a4 2 = .ok (.iconst 1, 1) := by decide +kernel
theorem dJ6_bitCount_0f7a4_3 : decode cJ6_bitCount_0f7a4 3 = .ok (.iushr, 1) := by decide +kernel
theorem dJ6_bitCount_0f7a4_4 : decode cJ6_bitCount_0f7a4 4 = .ok (.ldc_w 265, 3) := by decide +kernel
theorem dJ6_bitCount_0f7a4_7 : decode cJ6_bitCount_0f7a4 7 = .ok (.iand, 1) := by decide +kernel
theorem dJ6_bitCount_0f7a4_8 : decode cJ6_bitCount_0f7a4 8 = .ok (.isub, 1) := by decide +kernel
theorem dJ6_bitCount_0f7a4_9 : decode cJ6_bitCount_0f7a4 9 = .ok (.istore_n 0, 1) := by decide +kernel
theorem dJ6_bitCount_0f7a4_10 : decode cJ6_bitCount_0f7a4 10 = .ok (.iload_n 0, 1) := by decide +kernel
theorem dJ6_bitCount_0f7a4_11 : decode cJ6_bitCount_0f7a4 11 = .ok (.ldc_w 266, 3) := by decide +kernel
theorem dJ6_bitCount_0f7a4_14 : decode cJ6_bitCount_0f7a4 14 = .ok (.iand, 1) := by decide +kernel
theorem dJ6_bitCount_0f7a4_15 : decode cJ6_bitCount_0f7a4 15 = .ok (.iload_n 0, 1) := by decide +kernel
theorem dJ6_bitCount_0f7a4_16 : decode cJ6_bitCount_0f7a4 16 = .ok (.iconst 2, 1) := by decide +kernel
theorem dJ6_bitCount_0f7a4_17 : decode cJ6_bitCount_0f7a4 17 = .ok (.iushr, 1) := by decide +kernel
theorem dJ6_bitCount_0f7a4_18 : decode cJ6_bitCount_0f7a4 18 = .ok (.ldc_w 266, 3) := by decide +kernel
theorem dJ6_bitCount_0f7a4_21 : decode cJ6_bitCount_0f7a4 21 = .ok (.iand, 1) := by decide +kernel
theorem dJ6_bitCount_0f7a4_22 : decode cJ6_bitCount_0f7a4 22 = .ok (.iadd, 1) := by decide +kernel
theorem dJ6_bitCount_0f7a4_23 : decode cJ6_bitCount_0f7a4 23 = .ok (.istore_n 0, 1) := by decide +kernel
theorem dJ6_bitCount_0f7a4_24 : decode cJ6_bitCount_0f7a4 24 = .ok (.iload_n 0, 1) := by decide +kernel
theorem dJ6_bitCount_0f7a4_25 : decode cJ6_bitCount_0f7a4 25 = .ok (.iload_n 0, 1) := by decide +kernel
theorem dJ6_bitCount_0f7a4_26 : decode cJ6_bitCount_0f7a4 26 = .ok (.iconst 4, 1) := by decide +kernel
theorem dJ6_bitCount_0f7a4_27 : decode cJ6_bitCount_0f7a4 27 = .ok (.iushr, 1) := by decide +kernel
theorem dJ6_bitCount_0f7a4_28 : decode cJ6_bitCount_0f7a4 28 = .ok (.iadd, 1) := by decide +kernel
theorem dJ6_bitCount_0f7a4_29 : decode cJ6_bitCount_0f7a4 29 = .ok (.ldc_w 267, 3) := by decide +kernel
theorem dJ6_bitCount_0f7a4_32 : decode cJ6_bitCount_0f7a4 32 = .ok (.iand, 1) := by decide +kernel
theorem dJ6_bitCount_0f7a4_33 : decode cJ6_bitCount_0f7a4 33 = .ok (.istore_n 0, 1) := by decide +kernel
theorem dJ6_bitCount_0f7a4_34 : decode cJ6_bitCount_0f7a4 34 = .ok (.iload_n 0, 1) := by decide +kernel
theorem dJ6_bitCount_0f7a4_35 : decode cJ6_bitCount_0f7a4 35 = .ok (.iload_n 0, 1) := by decide +kernel
theorem dJ6_bitCount_0f7a4_36 : decode cJ6_bitCount_0f7a4 36 = .ok (.bipush 8, 2) := by decide +kernel
theorem dJ6_bitCount_0f7a4_38 : decode cJ6_bitCount_0f7a4 38 = .ok (.iushr, 1) := by decide +kernel
theorem dJ6_bitCount_0f7a4_39 : decode cJ6_bitCount_0f7a4 39 = .ok (.iadd, 1) := by decide +kernel
theorem dJ6_bitCount_0f7a4_40 : decode cJ6_bitCount_0f7a4 40 = .ok (.istore_n 0, 1) := by decide +kernel
theorem dJ6_bitCount_0f7a4_41 : decode cJ6_bitCount_0f7a4 41 = .ok (.iload_n 0, 1) := by decide +kernel
theorem dJ6_bitCount_0f7a4_42 : decode cJ6_bitCount_0f7a4 42 = .ok (.iload_n 0, 1) := by decide +kernel
theorem dJ6_bitCount_0f7a4_43 : decode cJ6_bitCount_0f7a4 43 = .ok (.bipush 16, 2) := by decide +kernel
theorem dJ6_bitCount_0f7a4_45 : decode cJ6_bitCount_0f7a4 45 = .ok (.iushr, 1) := by decide +kernel
theorem dJ6_bitCount_0f7a4_46 : decode cJ6_bitCount_0f7a4 46 = .ok (.iadd, 1) := by decide +kernel
theorem dJ6_bitCount_0f7a4_47 : decode cJ6_bitCount_0f7a4 47 = .ok (.istore_n 0, 1) := by decide +kernel
theorem dJ6_bitCount_0f7a4_48 : decode cJ6_bitCount_0f7a4 48 = .ok (.iload_n 0, 1) := by decide +kernel
theorem dJ6_bitCount_0f7a4_49 : decode cJ6_bitCount_0f7a4 49 = .ok (.bipush 63, 2) := by decide +kernel
theorem dJ6_bitCount_0f7a4_51 : decode cJ6_bitCount_0f7a4 51 = .ok (.iand, 1) := by decide +kernel
theorem dJ6_bitCount_0f7a4_52 : decode cJ6_bitCount_0f7a4 52 = .ok (.ireturn, 1) := by decide +kernel
theorem dJ9_min_7cf53_0 : decode cJ9_min_7cf53 0 = .ok (.iload_n 0, 1) := by decide +kernel
theorem dJ9_min_7cf53_1 : decode cJ9_min_7cf53 1 = .ok (.iload_n 1, 1) := by decide +kernel
theorem dJ9_min_7cf53_2 : decode cJ9_min_7cf53 2 = .ok (.if_icmp .gt 7, 3) := by decide +kernel
theorem dJ9_min_7cf53_5 : decode cJ9_min_7cf53 5 = .ok (.iload_n 0, 1) := by decide +kernel
theorem dJ9_min_7cf53_6 : decode cJ9_min_7cf53 6 = .ok (.goto 4, 3) := by decide +kernel
theorem dJ9_min_7cf53_9 : decode cJ9_min_7cf53 9 = .ok (.iload_n 1, 1) := by decide +kernel
theorem dJ9_min_7cf53_10 : decode cJ9_min_7cf53 10 = .ok (.ireturn, 1) := by decide +kernel
theorem dJ7_fill_53178_0 : decode cJ7_fill_53178 0 = .ok (.iconst 0, 1) := by decide +kernel
theorem dJ7_fill_53178_1 : decode cJ7_fill_53178 1 = .ok (.istore_n 2, 1) := by decide +kernel
theorem dJ7_fill_53178_2 : decode cJ7_fill_53178 2 = .ok (.aload_n 0, 1) := by decide +kernel
theorem dJ7_fill_53178_3 : decode cJ7_fill_53178 3 = .ok (.arraylength, 1) := by decide +kernel
theorem dJ7_fill_53178_4 : decode cJ7_fill_53178 4 = .ok (.istore_n 3, 1) := by decide +kernel
theorem dJ7_fill_53178_5 : decode cJ7_fill_53178 5 = .ok (.iload_n 2, 1) := by decide +kernel
theorem dJ7_fill_53178_6 : decode cJ7_fill_53178 6 = .ok (.iload_n 3, 1) := by decide +kernel
theorem dJ7_fill_53178_7 : decode cJ7_fill_53178 7 = .ok (.if_icmp .ge 13, 3) := by decide +kernel
theorem dJ7_fill_53178_10 : decode cJ7_fill_53178 10 = .ok (.aload_n 0, 1) := by decide +kernel
theorem dJ7_fill_53178_11 : decode cJ7_fill_53178 11 = .ok (.iload_n 2, 1) := by decide +kernel
theorem dJ7_fill_53178_12 : decode cJ7_fill_53178 12 = .ok (.iload_n 1, 1) := by decide +kernel
theorem dJ7_fill_53178_13 : decode cJ7_fill_53178 13 = .ok (.iastore, 1) := by decide +kernel
theorem dJ7_fill_53178_14 : decode cJ7_fill_53178 14 = .ok (.iinc 2 1, 3) := by decide +kernel
theorem dJ7_fill_53178_17 : decode cJ7_fill_53178 17 = .ok (.goto (-12), 3) := by decide +kernel
theorem dJ7_fill_53178_20 : decode cJ7_fill_53178 20 = .ok (.return_, 1) := by decide +kernel
