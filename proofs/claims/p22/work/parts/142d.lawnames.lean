set_option maxHeartbeats 1000000 in
set_option maxRecDepth 20000 in
theorem ggL_areAnswers_X5_bestMended_r5 : GoodIn wsL_areAnswers wsX5_bestMended_r5 := goodIn_r _ [203, 204, 205, 123, 124, 125, 126, 264, 265, 266, 267, 268] (by decide +kernel) (by decide +kernel)
set_option maxHeartbeats 1000000 in
set_option maxRecDepth 20000 in
theorem ggL_areAnswers_X5_bestMended_X5 : GoodIn wsL_areAnswers wsX50 := goodIn_r _ [329, 330, 331, 332, 333, 334, 335] (by decide +kernel) (by decide +kernel)
set_option maxHeartbeats 1000000 in
set_option maxRecDepth 20000 in
theorem ggL_areAnswers_X5_bestMended_X0 : GoodIn wsL_areAnswers wsX00 := goodIn_r _ [342, 343, 344, 345, 346, 347] (by decide +kernel) (by decide +kernel)
set_option maxHeartbeats 1000000 in
set_option maxRecDepth 20000 in
theorem ggL_areAnswers_X5_bestMended_X3 : GoodIn wsL_areAnswers wsX30 := goodIn_r _ [336, 337, 338, 339, 340, 341] (by decide +kernel) (by decide +kernel)
set_option maxRecDepth 20000 in
theorem ggL_areAnswers_X5_bestMended : GoodIn wsL_areAnswers wsX5_bestMended := goodIn_app ggL_areAnswers_X5_bestMended_h (goodIn_app (goodIn_app (goodIn_app (goodIn_app ggL_areAnswers_X5_bestMended_r1 (goodIn_app ggL_areAnswers_X5_bestMended_r2 (goodIn_app ggL_areAnswers_X5_bestMended_r3 (goodIn_app ggL_areAnswers_X5_bestMended_r4 (ggL_areAnswers_X5_bestMended_r5))))) ggL_areAnswers_X5_bestMended_X5) ggL_areAnswers_X5_bestMended_X0) ggL_areAnswers_X5_bestMended_X3)
set_option maxRecDepth 20000 in
theorem gL_areAnswers_X5_bestMended : GoodIn wsL_areAnswers (wsV RL 66 RX5 yX5_bestMended wsX5_bestMended) := goodIn_app (goodIn_of _ (by decide +kernel)) ggL_areAnswers_X5_bestMended
set_option maxHeartbeats 1000000 in
set_option maxRecDepth 20000 in
theorem ggL_areAnswers_X5_row_h : GoodIn wsL_areAnswers [.code yX5_row cX5_row 3 (some .int)] := goodIn_r _ [272] (by decide +kernel) (by decide +kernel)
set_option maxHeartbeats 1000000 in
set_option maxRecDepth 20000 in
theorem ggL_areAnswers_X5_row_r1 : GoodIn wsL_areAnswers wsX5_row_r1 := goodIn_r _ [6, 273, 274, 275, 12, 276, 14, 268, 28, 29, 30, 31, 32, 4, 33, 277, 128, 129, 130, 131, 278, 64, 65, 66] (by decide +kernel) (by decide +kernel)
set_option maxHeartbeats 1000000 in
set_option maxRecDepth 20000 in
theorem ggL_areAnswers_X5_row_r2 : GoodIn wsL_areAnswers wsX5_row_r2 := goodIn_r _ [67, 279, 89, 90, 91, 92, 280, 59, 60, 61, 62, 63, 27, 68, 69, 70, 71, 179, 180, 181, 38, 39, 40, 41] (by decide +kernel) (by decide +kernel)
set_option maxHeartbeats 1000000 in
set_option maxRecDepth 20000 in
theorem ggL_areAnswers_X5_row_r3 : GoodIn wsL_areAnswers wsX5_row_r3 := goodIn_r _ [42, 43, 44, 45, 46, 47, 48, 49, 50, 51, 52, 53, 54, 55, 56, 57, 10, 11, 13, 58, 72, 73, 74, 75] (by decide +kernel) (by decide +kernel)
set_option maxHeartbeats 1000000 in
set_option maxRecDepth 20000 in
theorem ggL_areAnswers_X5_row_r4 : GoodIn wsL_areAnswers wsX5_row_r4 := goodIn_r _ [76, 77, 78, 79, 80, 81, 82, 83, 84, 85, 86, 87, 88, 93, 94, 95, 96, 97, 98, 281, 108, 109, 110] (by decide +kernel) (by decide +kernel)
set_option maxHeartbeats 1000000 in
set_option maxRecDepth 20000 in
theorem ggL_areAnswers_X5_row_X5 : GoodIn wsL_areAnswers wsX50 := goodIn_r _ [329, 330, 331, 332, 333, 334, 335] (by decide +kernel) (by decide +kernel)
set_option maxHeartbeats 1000000 in
set_option maxRecDepth 20000 in
theorem ggL_areAnswers_X5_row_X3 : GoodIn wsL_areAnswers wsX30 := goodIn_r _ [336, 337, 338, 339, 340, 341] (by decide +kernel) (by decide +kernel)
set_option maxHeartbeats 1000000 in
set_option maxRecDepth 20000 in
theorem ggL_areAnswers_X5_row_X0 : GoodIn wsL_areAnswers wsX00 := goodIn_r _ [342, 343, 344, 345, 346, 347] (by decide +kernel) (by decide +kernel)
set_option maxRecDepth 20000 in
theorem ggL_areAnswers_X5_row : GoodIn wsL_areAnswers wsX5_row := goodIn_app ggL_areAnswers_X5_row_h (goodIn_app (goodIn_app (goodIn_app (goodIn_app ggL_areAnswers_X5_row_r1 (goodIn_app ggL_areAnswers_X5_row_r2 (goodIn_app ggL_areAnswers_X5_row_r3 (ggL_areAnswers_X5_row_r4)))) ggL_areAnswers_X5_row_X5) ggL_areAnswers_X5_row_X3) ggL_areAnswers_X5_row_X0)
set_option maxRecDepth 20000 in
theorem gL_areAnswers_X5_row : GoodIn wsL_areAnswers (wsV RL 32 RX5 yX5_row wsX5_row) := goodIn_app (goodIn_of _ (by decide +kernel)) ggL_areAnswers_X5_row
set_option maxHeartbeats 1000000 in
set_option maxRecDepth 20000 in
theorem ggL_areAnswers_X5_mend_h : GoodIn wsL_areAnswers [.code yX5_mend cX5_mend 3 (some .int)] := goodIn_r _ [285] (by decide +kernel) (by decide +kernel)
set_option maxHeartbeats 1000000 in
set_option maxRecDepth 20000 in
theorem ggL_areAnswers_X5_mend_r1 : GoodIn wsL_areAnswers wsX5_mend_r1 := goodIn_r _ [6, 7, 273, 274, 275, 12, 276, 14, 268, 28, 29, 30, 31, 32, 4, 33, 243, 24, 25, 26, 27, 286, 287, 288] (by decide +kernel) (by decide +kernel)
set_option maxHeartbeats 1000000 in
set_option maxRecDepth 20000 in
theorem ggL_areAnswers_X5_mend_r2 : GoodIn wsL_areAnswers wsX5_mend_r2 := goodIn_r _ [185, 289, 290, 187, 291, 292, 293, 294, 295, 296, 297, 298, 299, 300, 301, 302, 303, 131, 67, 92, 62, 304, 305, 306] (by decide +kernel) (by decide +kernel)
set_option maxHeartbeats 1000000 in
set_option maxRecDepth 20000 in
theorem ggL_areAnswers_X5_mend_r3 : GoodIn wsL_areAnswers wsX5_mend_r3 := goodIn_r _ [307, 308, 309, 310, 311, 312, 313, 314, 315, 316, 317, 318, 319, 82, 83, 320, 128, 129, 130, 63, 64, 65, 66, 254] (by decide +kernel) (by decide +kernel)
set_option maxHeartbeats 1000000 in
set_option maxRecDepth 20000 in
theorem ggL_areAnswers_X5_mend_r4 : GoodIn wsL_areAnswers wsX5_mend_r4 := goodIn_r _ [89, 90, 91] (by decide +kernel) (by decide +kernel)
set_option maxHeartbeats 1000000 in
set_option maxRecDepth 20000 in
theorem ggL_areAnswers_X5_mend_X5 : GoodIn wsL_areAnswers wsX50 := goodIn_r _ [329, 330, 331, 332, 333, 334, 335] (by decide +kernel) (by decide +kernel)
set_option maxHeartbeats 1000000 in
set_option maxRecDepth 20000 in
theorem ggL_areAnswers_X5_mend_X3 : GoodIn wsL_areAnswers wsX30 := goodIn_r _ [336, 337, 338, 339, 340, 341] (by decide +kernel) (by decide +kernel)
set_option maxHeartbeats 1000000 in
set_option maxRecDepth 20000 in
theorem ggL_areAnswers_X5_mend_X1 : GoodIn wsL_areAnswers wsX10 := goodIn_r _ [348, 349, 350] (by decide +kernel) (by decide +kernel)
set_option maxRecDepth 20000 in
theorem ggL_areAnswers_X5_mend : GoodIn wsL_areAnswers wsX5_mend := goodIn_app ggL_areAnswers_X5_mend_h (goodIn_app (goodIn_app (goodIn_app (goodIn_app ggL_areAnswers_X5_mend_r1 (goodIn_app ggL_areAnswers_X5_mend_r2 (goodIn_app ggL_areAnswers_X5_mend_r3 (ggL_areAnswers_X5_mend_r4)))) ggL_areAnswers_X5_mend_X5) ggL_areAnswers_X5_mend_X3) ggL_areAnswers_X5_mend_X1)
set_option maxRecDepth 20000 in
theorem gL_areAnswers_X5_mend : GoodIn wsL_areAnswers (wsV RL 41 RX5 yX5_mend wsX5_mend) := goodIn_app (goodIn_of _ (by decide +kernel)) ggL_areAnswers_X5_mend
set_option maxHeartbeats 1000000 in
set_option maxRecDepth 20000 in
theorem ggL_areAnswers_X5_undo_h : GoodIn wsL_areAnswers [.code yX5_undo cX5_undo 1 (some .int)] := goodIn_r _ [324] (by decide +kernel) (by decide +kernel)
set_option maxHeartbeats 1000000 in
set_option maxRecDepth 20000 in
theorem ggL_areAnswers_X5_undo_r1 : GoodIn wsL_areAnswers wsX5_undo_r1 := goodIn_r _ [7, 6, 325, 326, 327, 185, 328, 290, 187, 295, 296, 297, 298, 299, 300, 301, 302, 12, 303, 31, 131, 67, 92, 14] (by decide +kernel) (by decide +kernel)
set_option maxHeartbeats 1000000 in
set_option maxRecDepth 20000 in
theorem ggL_areAnswers_X5_undo_r2 : GoodIn wsL_areAnswers wsX5_undo_r2 := goodIn_r _ [62, 304, 4, 305, 306, 292, 293, 294, 307, 308, 309, 310, 182, 183, 184, 186] (by decide +kernel) (by decide +kernel)
set_option maxHeartbeats 1000000 in
set_option maxRecDepth 20000 in
theorem ggL_areAnswers_X5_undo_X5 : GoodIn wsL_areAnswers wsX50 := goodIn_r _ [329, 330, 331, 332, 333, 334, 335] (by decide +kernel) (by decide +kernel)
set_option maxHeartbeats 1000000 in
set_option maxRecDepth 20000 in
theorem ggL_areAnswers_X5_undo_X1 : GoodIn wsL_areAnswers wsX10 := goodIn_r _ [348, 349, 350] (by decide +kernel) (by decide +kernel)
set_option maxHeartbeats 1000000 in
set_option maxRecDepth 20000 in
theorem ggL_areAnswers_X5_undo_X3 : GoodIn wsL_areAnswers wsX30 := goodIn_r _ [336, 337, 338, 339, 340, 341] (by decide +kernel) (by decide +kernel)
set_option maxRecDepth 20000 in
theorem ggL_areAnswers_X5_undo : GoodIn wsL_areAnswers wsX5_undo := goodIn_app ggL_areAnswers_X5_undo_h (goodIn_app (goodIn_app (goodIn_app (goodIn_app ggL_areAnswers_X5_undo_r1 (ggL_areAnswers_X5_undo_r2)) ggL_areAnswers_X5_undo_X5) ggL_areAnswers_X5_undo_X1) ggL_areAnswers_X5_undo_X3)
set_option maxRecDepth 20000 in
theorem gL_areAnswers_X5_undo : GoodIn wsL_areAnswers (wsV RL 51 RX5 yX5_undo wsX5_undo) := goodIn_app (goodIn_of _ (by decide +kernel)) ggL_areAnswers_X5_undo
theorem dL_areAnswers_0 : decode cL_areAnswers 0 = .ok (.aload_n 0, 1) := by decide +kernel
theorem dL_areAnswers_1 : decode cL_areAnswers 1 = .ok (.iconst 3, 1) := by decide +kernel
theorem dL_areAnswers_2 : decode cL_areAnswers 2 = .ok (.invokevirtual 9, 3) := by decide +kernel
theorem dL_areAnswers_5 : decode cL_areAnswers 5 = .ok (.istore 5, 2) := by decide +kernel
theorem dL_areAnswers_7 : decode cL_areAnswers 7 = .ok (.aload_n 0, 1) := by decide +kernel
theorem dL_areAnswers_8 : decode cL_areAnswers 8 = .ok (.iload_n 2, 1) := by decide +kernel
theorem dL_areAnswers_9 : decode cL_areAnswers 9 = .ok (.iload_n 3, 1) := by decide +kernel
theorem dL_areAnswers_10 : decode cL_areAnswers 10 = .ok (.iconst 2, 1) := by decide +kernel
theorem dL_areAnswers_11 : decode cL_areAnswers 11 = .ok (.invokevirtual 59, 3) := by decide +kernel
theorem dL_areAnswers_14 : decode cL_areAnswers 14 = .ok (.istore 6, 2) := by decide +kernel
theorem dL_areAnswers_16 : decode cL_areAnswers 16 = .ok (.aload_n 0, 1) := by decide +kernel
theorem dL_areAnswers_17 : decode cL_areAnswers 17 = .ok (.iload_n 2, 1) := by decide +kernel
theorem dL_areAnswers_18 : decode cL_areAnswers 18 = .ok (.iload_n 3, 1) := by decide +kernel
theorem dL_areAnswers_19 : decode cL_areAnswers 19 = .ok (.iconst 3, 1) := by decide +kernel
theorem dL_areAnswers_20 : decode cL_areAnswers 20 = .ok (.invokevirtual 59, 3) := by decide +kernel
theorem dL_areAnswers_23 : decode cL_areAnswers 23 = .ok (.istore 7, 2) := by decide +kernel
theorem dL_areAnswers_25 : decode cL_areAnswers 25 = .ok (.aload_n 0, 1) := by decide +kernel
theorem dL_areAnswers_26 : decode cL_areAnswers 26 = .ok (.iload_n 2, 1) := by decide +kernel
theorem dL_areAnswers_27 : decode cL_areAnswers 27 = .ok (.iload_n 3, 1) := by decide +kernel
theorem dL_areAnswers_28 : decode cL_areAnswers 28 = .ok (.iconst 4, 1) := by decide +kernel
theorem dL_areAnswers_29 : decode cL_areAnswers 29 = .ok (.invokevirtual 59, 3) := by decide +kernel
theorem dL_areAnswers_32 : decode cL_areAnswers 32 = .ok (.istore 8, 2) := by decide +kernel
theorem dL_areAnswers_34 : decode cL_areAnswers 34 = .ok (.aload_n 0, 1) := by decide +kernel
theorem dL_areAnswers_35 : decode cL_areAnswers 35 = .ok (.iload 4, 2) := by decide +kernel
theorem dL_areAnswers_37 : decode cL_areAnswers 37 = .ok (.i2c, 1) := by decide +kernel
theorem dL_areAnswers_38 : decode cL_areAnswers 38 = .ok (.iconst 2, 1) := by decide +kernel
theorem dL_areAnswers_39 : decode cL_areAnswers 39 = .ok (.invokevirtual 63, 3) := by decide +kernel
theorem dL_areAnswers_42 : decode cL_areAnswers 42 = .ok (.istore 9, 2) := by decide +kernel
theorem dL_areAnswers_44 : decode cL_areAnswers 44 = .ok (.aload_n 0, 1) := by decide +kernel
theorem dL_areAnswers_45 : decode cL_areAnswers 45 = .ok (.iload 4, 2) := by decide +kernel
theorem dL_areAnswers_47 : decode cL_areAnswers 47 = .ok (.i2c, 1) := by decide +kernel
theorem dL_areAnswers_48 : decode cL_areAnswers 48 = .ok (.iconst 3, 1) := by decide +kernel
theorem dL_areAnswers_49 : decode cL_areAnswers 49 = .ok (.invokevirtual 63, 3) := by decide +kernel
theorem dL_areAnswers_52 : decode cL_areAnswers 52 = .ok (.istore 10, 2) := by decide +kernel
theorem dL_areAnswers_54 : decode cL_areAnswers 54 = .ok (.aload_n 0, 1) := by decide +kernel
theorem dL_areAnswers_55 : decode cL_areAnswers 55 = .ok (.iload 4, 2) := by decide +kernel
theorem dL_areAnswers_57 : decode cL_areAnswers 57 = .ok (.i2c, 1) := by decide +kernel
theorem dL_areAnswers_58 : decode cL_areAnswers 58 = .ok (.iconst 4, 1) := by decide +kernel
theorem dL_areAnswers_59 : decode cL_areAnswers 59 = .ok (.invokevirtual 63, 3) := by decide +kernel
theorem dL_areAnswers_62 : decode cL_areAnswers 62 = .ok (.istore 11, 2) := by decide +kernel
theorem dL_areAnswers_64 : decode cL_areAnswers 64 = .ok (.iload 6, 2) := by decide +kernel
theorem dL_areAnswers_66 : decode cL_areAnswers 66 = .ok (.ifCond .lt 185, 3) := by decide +kernel
theorem dL_areAnswers_69 : decode cL_areAnswers 69 = .ok (.iload 6, 2) := by decide +kernel
theorem dL_areAnswers_71 : decode cL_areAnswers 71 = .ok (.iload 5, 2) := by decide +kernel
theorem dL_areAnswers_73 : decode cL_areAnswers 73 = .ok (.if_icmp .gt 178, 3) := by decide +kernel
theorem dL_areAnswers_76 : decode cL_areAnswers 76 = .ok (.aload_n 0, 1) := by decide +kernel
theorem dL_areAnswers_77 : decode cL_areAnswers 77 = .ok (.iload_n 2, 1) := by decide +kernel
theorem dL_areAnswers_78 : decode cL_areAnswers 78 = .ok (.iload_n 3, 1) := by decide +kernel
theorem dL_areAnswers_79 : decode cL_areAnswers 79 = .ok (.iconst 0, 1) := by decide +kernel
theorem dL_areAnswers_80 : decode cL_areAnswers 80 = .ok (.invokevirtual 59, 3) := by decide +kernel
theorem dL_areAnswers_83 : decode cL_areAnswers 83 = .ok (.iconst 1, 1) := by decide +kernel
theorem dL_areAnswers_84 : decode cL_areAnswers 84 = .ok (.if_icmp .ne 7, 3) := by decide +kernel
theorem dL_areAnswers_87 : decode cL_areAnswers 87 = .ok (.iconst 1, 1) := by decide +kernel
theorem dL_areAnswers_88 : decode cL_areAnswers 88 = .ok (.goto 4, 3) := by decide +kernel
theorem dL_areAnswers_91 : decode cL_areAnswers 91 = .ok (.iconst 0, 1) := by decide +kernel
theorem dL_areAnswers_92 : decode cL_areAnswers 92 = .ok (.iload 6, 2) := by decide +kernel
theorem dL_areAnswers_94 : decode cL_areAnswers 94 = .ok (.iload 5, 2) := by decide +kernel
theorem dL_areAnswers_96 : decode cL_areAnswers 96 = .ok (.if_icmp .ne 7, 3) := by decide +kernel
theorem dL_areAnswers_99 : decode cL_areAnswers 99 = .ok (.iconst 1, 1) := by decide +kernel
theorem dL_areAnswers_100 : decode cL_areAnswers 100 = .ok (.goto 4, 3) := by decide +kernel
theorem dL_areAnswers_103 : decode cL_areAnswers 103 = .ok (.iconst 0, 1) := by decide +kernel
theorem dL_areAnswers_104 : decode cL_areAnswers 104 = .ok (.if_icmp .ne 147, 3) := by decide +kernel
theorem dL_areAnswers_107 : decode cL_areAnswers 107 = .ok (.aload_n 0, 1) := by decide +kernel
theorem dL_areAnswers_108 : decode cL_areAnswers 108 = .ok (.iload_n 2, 1) := by decide +kernel
theorem dL_areAnswers_109 : decode cL_areAnswers 109 = .ok (.iload_n 3, 1) := by decide +kernel
theorem dL_areAnswers_110 : decode cL_areAnswers 110 = .ok (.iconst 1, 1) := by decide +kernel
theorem dL_areAnswers_111 : decode cL_areAnswers 111 = .ok (.invokevirtual 59, 3) := by decide +kernel
theorem dL_areAnswers_114 : decode cL_areAnswers 114 = .ok (.iconst 1, 1) := by decide +kernel
theorem dL_areAnswers_115 : decode cL_areAnswers 115 = .ok (.if_icmp .ne 7, 3) := by decide +kernel
theorem dL_areAnswers_118 : decode cL_areAnswers 118 = .ok (.iconst 1, 1) := by decide +kernel
theorem dL_areAnswers_119 : decode cL_areAnswers 119 = .ok (.goto 4, 3) := by decide +kernel
theorem dL_areAnswers_122 : decode cL_areAnswers 122 = .ok (.iconst 0, 1) := by decide +kernel
theorem dL_areAnswers_123 : decode cL_areAnswers 123 = .ok (.iload 6, 2) := by decide +kernel
theorem dL_areAnswers_125 : decode cL_areAnswers 125 = .ok (.ifCond .le 7, 3) := by decide +kernel
theorem dL_areAnswers_128 : decode cL_areAnswers 128 = .ok (.iconst 1, 1) := by decide +kernel
theorem dL_areAnswers_129 : decode cL_areAnswers 129 = .ok (.goto 4, 3) := by decide +kernel
theorem dL_areAnswers_132 : decode cL_areAnswers 132 = .ok (.iconst 0, 1) := by decide +kernel
theorem dL_areAnswers_133 : decode cL_areAnswers 133 = .ok (.if_icmp .ne 118, 3) := by decide +kernel
theorem dL_areAnswers_136 : decode cL_areAnswers 136 = .ok (.iload 7, 2) := by decide +kernel
theorem dL_areAnswers_138 : decode cL_areAnswers 138 = .ok (.bipush (-5), 2) := by decide +kernel
theorem dL_areAnswers_140 : decode cL_areAnswers 140 = .ok (.if_icmp .ne 7, 3) := by decide +kernel
theorem dL_areAnswers_143 : decode cL_areAnswers 143 = .ok (.iconst 1, 1) := by decide +kernel
theorem dL_areAnswers_144 : decode cL_areAnswers 144 = .ok (.goto 4, 3) := by decide +kernel
theorem dL_areAnswers_147 : decode cL_areAnswers 147 = .ok (.iconst 0, 1) := by decide +kernel
theorem dL_areAnswers_148 : decode cL_areAnswers 148 = .ok (.iload 6, 2) := by decide +kernel
theorem dL_areAnswers_150 : decode cL_areAnswers 150 = .ok (.iload 5, 2) := by decide +kernel
theorem dL_areAnswers_152 : decode cL_areAnswers 152 = .ok (.if_icmp .ne 7, 3) := by decide +kernel
theorem dL_areAnswers_155 : decode cL_areAnswers 155 = .ok (.iconst 1, 1) := by decide +kernel
theorem dL_areAnswers_156 : decode cL_areAnswers 156 = .ok (.goto 4, 3) := by decide +kernel
theorem dL_areAnswers_159 : decode cL_areAnswers 159 = .ok (.iconst 0, 1) := by decide +kernel
theorem dL_areAnswers_160 : decode cL_areAnswers 160 = .ok (.if_icmp .ne 91, 3) := by decide +kernel
theorem dL_areAnswers_163 : decode cL_areAnswers 163 = .ok (.iload 7, 2) := by decide +kernel
theorem dL_areAnswers_165 : decode cL_areAnswers 165 = .ok (.iload 5, 2) := by decide +kernel
theorem dL_areAnswers_167 : decode cL_areAnswers 167 = .ok (.if_icmp .ge 84, 3) := by decide +kernel
theorem dL_areAnswers_170 : decode cL_areAnswers 170 = .ok (.iload 8, 2) := by decide +kernel
theorem dL_areAnswers_172 : decode cL_areAnswers 172 = .ok (.bipush (-5), 2) := by decide +kernel
theorem dL_areAnswers_174 : decode cL_areAnswers 174 = .ok (.if_icmp .ne 7, 3) := by decide +kernel
theorem dL_areAnswers_177 : decode cL_areAnswers 177 = .ok (.iconst 1, 1) := by decide +kernel
theorem dL_areAnswers_178 : decode cL_areAnswers 178 = .ok (.goto 4, 3) := by decide +kernel
theorem dL_areAnswers_181 : decode cL_areAnswers 181 = .ok (.iconst 0, 1) := by decide +kernel
theorem dL_areAnswers_182 : decode cL_areAnswers 182 = .ok (.iload 6, 2) := by decide +kernel
theorem dL_areAnswers_184 : decode cL_areAnswers 184 = .ok (.ifCond .ne 7, 3) := by decide +kernel
theorem dL_areAnswers_187 : decode cL_areAnswers 187 = .ok (.iconst 1, 1) := by decide +kernel
theorem dL_areAnswers_188 : decode cL_areAnswers 188 = .ok (.goto 4, 3) := by decide +kernel
theorem dL_areAnswers_191 : decode cL_areAnswers 191 = .ok (.iconst 0, 1) := by decide +kernel
theorem dL_areAnswers_192 : decode cL_areAnswers 192 = .ok (.if_icmp .ne 59, 3) := by decide +kernel
theorem dL_areAnswers_195 : decode cL_areAnswers 195 = .ok (.iload 8, 2) := by decide +kernel
theorem dL_areAnswers_197 : decode cL_areAnswers 197 = .ok (.bipush 9, 2) := by decide +kernel
theorem dL_areAnswers_199 : decode cL_areAnswers 199 = .ok (.if_icmp .gt 52, 3) := by decide +kernel
theorem dL_areAnswers_202 : decode cL_areAnswers 202 = .ok (.iload_n 2, 1) := by decide +kernel
theorem dL_areAnswers_203 : decode cL_areAnswers 203 = .ok (.iload_n 3, 1) := by decide +kernel
theorem dL_areAnswers_204 : decode cL_areAnswers 204 = .ok (.if_icmp .ne 33, 3) := by decide +kernel
theorem dL_areAnswers_207 : decode cL_areAnswers 207 = .ok (.iload 6, 2) := by decide +kernel
theorem dL_areAnswers_209 : decode cL_areAnswers 209 = .ok (.aload_n 0, 1) := by decide +kernel
theorem dL_areAnswers_210 : decode cL_areAnswers 210 = .ok (.iload_n 2, 1) := by decide +kernel
theorem dL_areAnswers_211 : decode cL_areAnswers 211 = .ok (.iconst 0, 1) := by decide +kernel
theorem dL_areAnswers_212 : decode cL_areAnswers 212 = .ok (.invokevirtual 38, 3) := by decide +kernel
theorem dL_areAnswers_215 : decode cL_areAnswers 215 = .ok (.ifCond .le 8, 3) := by decide +kernel
theorem dL_areAnswers_218 : decode cL_areAnswers 218 = .ok (.iload 5, 2) := by decide +kernel
theorem dL_areAnswers_220 : decode cL_areAnswers 220 = .ok (.goto 4, 3) := by decide +kernel
theorem dL_areAnswers_223 : decode cL_areAnswers 223 = .ok (.iconst 0, 1) := by decide +kernel
theorem dL_areAnswers_224 : decode cL_areAnswers 224 = .ok (.if_icmp .ne 27, 3) := by decide +kernel
theorem dL_areAnswers_227 : decode cL_areAnswers 227 = .ok (.iload 6, 2) := by decide +kernel
theorem dL_areAnswers_229 : decode cL_areAnswers 229 = .ok (.ifCond .eq 8, 3) := by decide +kernel
theorem dL_areAnswers_232 : decode cL_areAnswers 232 = .ok (.iload 8, 2) := by decide +kernel
theorem dL_areAnswers_234 : decode cL_areAnswers 234 = .ok (.ifCond .ne 17, 3) := by decide +kernel
theorem dL_areAnswers_237 : decode cL_areAnswers 237 = .ok (.iload_n 2, 1) := by decide +kernel
theorem dL_areAnswers_238 : decode cL_areAnswers 238 = .ok (.iload_n 3, 1) := by decide +kernel
theorem dL_areAnswers_239 : decode cL_areAnswers 239 = .ok (.if_icmp .eq 8, 3) := by decide +kernel
theorem dL_areAnswers_242 : decode cL_areAnswers 242 = .ok (.iload 8, 2) := by decide +kernel
theorem dL_areAnswers_244 : decode cL_areAnswers 244 = .ok (.ifCond .eq 7, 3) := by decide +kernel
theorem dL_areAnswers_247 : decode cL_areAnswers 247 = .ok (.iconst 1, 1) := by decide +kernel
theorem dL_areAnswers_248 : decode cL_areAnswers 248 = .ok (.goto 4, 3) := by decide +kernel
theorem dL_areAnswers_251 : decode cL_areAnswers 251 = .ok (.iconst 0, 1) := by decide +kernel
theorem dL_areAnswers_252 : decode cL_areAnswers 252 = .ok (.istore 12, 2) := by decide +kernel
theorem dL_areAnswers_254 : decode cL_areAnswers 254 = .ok (.iload 12, 2) := by decide +kernel
theorem dL_areAnswers_256 : decode cL_areAnswers 256 = .ok (.ifCond .eq 146, 3) := by decide +kernel
theorem dL_areAnswers_259 : decode cL_areAnswers 259 = .ok (.iload 9, 2) := by decide +kernel
theorem dL_areAnswers_261 : decode cL_areAnswers 261 = .ok (.ifCond .lt 141, 3) := by decide +kernel
theorem dL_areAnswers_264 : decode cL_areAnswers 264 = .ok (.iload 9, 2) := by decide +kernel
theorem dL_areAnswers_266 : decode cL_areAnswers 266 = .ok (.iload 5, 2) := by decide +kernel
theorem dL_areAnswers_268 : decode cL_areAnswers 268 = .ok (.if_icmp .gt 134, 3) := by decide +kernel
theorem dL_areAnswers_271 : decode cL_areAnswers 271 = .ok (.aload_n 0, 1) := by decide +kernel
theorem dL_areAnswers_272 : decode cL_areAnswers 272 = .ok (.iload 4, 2) := by decide +kernel
theorem dL_areAnswers_274 : decode cL_areAnswers 274 = .ok (.i2c, 1) := by decide +kernel
theorem dL_areAnswers_275 : decode cL_areAnswers 275 = .ok (.iconst 0, 1) := by decide +kernel
theorem dL_areAnswers_276 : decode cL_areAnswers 276 = .ok (.invokevirtual 63, 3) := by decide +kernel
theorem dL_areAnswers_279 : decode cL_areAnswers 279 = .ok (.iconst 1, 1) := by decide +kernel
theorem dL_areAnswers_280 : decode cL_areAnswers 280 = .ok (.if_icmp .ne 7, 3) := by decide +kernel
theorem dL_areAnswers_283 : decode cL_areAnswers 283 = .ok (.iconst 1, 1) := by decide +kernel
theorem dL_areAnswers_284 : decode cL_areAnswers 284 = .ok (.goto 4, 3) := by decide +kernel
theorem dL_areAnswers_287 : decode cL_areAnswers 287 = .ok (.iconst 0, 1) := by decide +kernel
theorem dL_areAnswers_288 : decode cL_areAnswers 288 = .ok (.iload 9, 2) := by decide +kernel
theorem dL_areAnswers_290 : decode cL_areAnswers 290 = .ok (.iload 5, 2) := by decide +kernel
theorem dL_areAnswers_292 : decode cL_areAnswers 292 = .ok (.if_icmp .ne 7, 3) := by decide +kernel
theorem dL_areAnswers_295 : decode cL_areAnswers 295 = .ok (.iconst 1, 1) := by decide +kernel
theorem dL_areAnswers_296 : decode cL_areAnswers 296 = .ok (.goto 4, 3) := by decide +kernel
theorem dL_areAnswers_299 : decode cL_areAnswers 299 = .ok (.iconst 0, 1) := by decide +kernel
theorem dL_areAnswers_300 : decode cL_areAnswers 300 = .ok (.if_icmp .ne 102, 3) := by decide +kernel
theorem dL_areAnswers_303 : decode cL_areAnswers 303 = .ok (.aload_n 0, 1) := by decide +kernel
theorem dL_areAnswers_304 : decode cL_areAnswers 304 = .ok (.iload 4, 2) := by decide +kernel
theorem dL_areAnswers_306 : decode cL_areAnswers 306 = .ok (.i2c, 1) := by decide +kernel
theorem dL_areAnswers_307 : decode cL_areAnswers 307 = .ok (.iconst 1, 1) := by decide +kernel
theorem dL_areAnswers_308 : decode cL_areAnswers 308 = .ok (.invokevirtual 63, 3) := by decide +kernel
theorem dL_areAnswers_311 : decode cL_areAnswers 311 = .ok (.iconst 1, 1) := by decide +kernel
theorem dL_areAnswers_312 : decode cL_areAnswers 312 = .ok (.if_icmp .ne 7, 3) := by decide +kernel
theorem dL_areAnswers_315 : decode cL_areAnswers 315 = .ok (.iconst 1, 1) := by decide +kernel
theorem dL_areAnswers_316 : decode cL_areAnswers 316 = .ok (.goto 4, 3) := by decide +kernel
theorem dL_areAnswers_319 : decode cL_areAnswers 319 = .ok (.iconst 0, 1) := by decide +kernel
theorem dL_areAnswers_320 : decode cL_areAnswers 320 = .ok (.iload 9, 2) := by decide +kernel
theorem dL_areAnswers_322 : decode cL_areAnswers 322 = .ok (.ifCond .le 7, 3) := by decide +kernel
theorem dL_areAnswers_325 : decode cL_areAnswers 325 = .ok (.iconst 1, 1) := by decide +kernel
theorem dL_areAnswers_326 : decode cL_areAnswers 326 = .ok (.goto 4, 3) := by decide +kernel
theorem dL_areAnswers_329 : decode cL_areAnswers 329 = .ok (.iconst 0, 1) := by decide +kernel
theorem dL_areAnswers_330 : decode cL_areAnswers 330 = .ok (.if_icmp .ne 72, 3) := by decide +kernel
theorem dL_areAnswers_333 : decode cL_areAnswers 333 = .ok (.iload 10, 2) := by decide +kernel
theorem dL_areAnswers_335 : decode cL_areAnswers 335 = .ok (.iload 11, 2) := by decide +kernel
theorem dL_areAnswers_337 : decode cL_areAnswers 337 = .ok (.if_icmp .gt 65, 3) := by decide +kernel
theorem dL_areAnswers_340 : decode cL_areAnswers 340 = .ok (.iload 10, 2) := by decide +kernel
theorem dL_areAnswers_342 : decode cL_areAnswers 342 = .ok (.ifCond .le 7, 3) := by decide +kernel
theorem dL_areAnswers_345 : decode cL_areAnswers 345 = .ok (.iconst 1, 1) := by decide +kernel
theorem dL_areAnswers_346 : decode cL_areAnswers 346 = .ok (.goto 4, 3) := by decide +kernel
theorem dL_areAnswers_349 : decode cL_areAnswers 349 = .ok (.iconst 0, 1) := by decide +kernel
theorem dL_areAnswers_350 : decode cL_areAnswers 350 = .ok (.iload 9, 2) := by decide +kernel
theorem dL_areAnswers_352 : decode cL_areAnswers 352 = .ok (.iload 5, 2) := by decide +kernel
theorem dL_areAnswers_354 : decode cL_areAnswers 354 = .ok (.if_icmp .ne 7, 3) := by decide +kernel
theorem dL_areAnswers_357 : decode cL_areAnswers 357 = .ok (.iconst 1, 1) := by decide +kernel
theorem dL_areAnswers_358 : decode cL_areAnswers 358 = .ok (.goto 4, 3) := by decide +kernel
theorem dL_areAnswers_361 : decode cL_areAnswers 361 = .ok (.iconst 0, 1) := by decide +kernel
theorem dL_areAnswers_362 : decode cL_areAnswers 362 = .ok (.if_icmp .ne 40, 3) := by decide +kernel
theorem dL_areAnswers_365 : decode cL_areAnswers 365 = .ok (.iload 11, 2) := by decide +kernel
theorem dL_areAnswers_367 : decode cL_areAnswers 367 = .ok (.ifCond .le 7, 3) := by decide +kernel
theorem dL_areAnswers_370 : decode cL_areAnswers 370 = .ok (.iconst 1, 1) := by decide +kernel
theorem dL_areAnswers_371 : decode cL_areAnswers 371 = .ok (.goto 4, 3) := by decide +kernel
theorem dL_areAnswers_374 : decode cL_areAnswers 374 = .ok (.iconst 0, 1) := by decide +kernel
theorem dL_areAnswers_375 : decode cL_areAnswers 375 = .ok (.iload 9, 2) := by decide +kernel
theorem dL_areAnswers_377 : decode cL_areAnswers 377 = .ok (.ifCond .le 7, 3) := by decide +kernel
theorem dL_areAnswers_380 : decode cL_areAnswers 380 = .ok (.iconst 1, 1) := by decide +kernel
theorem dL_areAnswers_381 : decode cL_areAnswers 381 = .ok (.goto 4, 3) := by decide +kernel
theorem dL_areAnswers_384 : decode cL_areAnswers 384 = .ok (.iconst 0, 1) := by decide +kernel
theorem dL_areAnswers_385 : decode cL_areAnswers 385 = .ok (.if_icmp .ne 17, 3) := by decide +kernel
theorem dL_areAnswers_388 : decode cL_areAnswers 388 = .ok (.iload 11, 2) := by decide +kernel
theorem dL_areAnswers_390 : decode cL_areAnswers 390 = .ok (.aload_n 0, 1) := by decide +kernel
theorem dL_areAnswers_391 : decode cL_areAnswers 391 = .ok (.iconst 1, 1) := by decide +kernel
theorem dL_areAnswers_392 : decode cL_areAnswers 392 = .ok (.invokevirtual 9, 3) := by decide +kernel
theorem dL_areAnswers_395 : decode cL_areAnswers 395 = .ok (.if_icmp .gt 7, 3) := by decide +kernel
theorem dL_areAnswers_398 : decode cL_areAnswers 398 = .ok (.iconst 1, 1) := by decide +kernel
theorem dL_areAnswers_399 : decode cL_areAnswers 399 = .ok (.goto 4, 3) := by decide +kernel
theorem dL_areAnswers_402 : decode cL_areAnswers 402 = .ok (.iconst 0, 1) := by decide +kernel
theorem dL_areAnswers_403 : decode cL_areAnswers 403 = .ok (.istore 12, 2) := by decide +kernel
theorem dL_areAnswers_405 : decode cL_areAnswers 405 = .ok (.aload_n 0, 1) := by decide +kernel
theorem dL_areAnswers_406 : decode cL_areAnswers 406 = .ok (.iload_n 2, 1) := by decide +kernel
theorem dL_areAnswers_407 : decode cL_areAnswers 407 = .ok (.iload_n 3, 1) := by decide +kernel
theorem dL_areAnswers_408 : decode cL_areAnswers 408 = .ok (.iconst 1, 1) := by decide +kernel
theorem dL_areAnswers_409 : decode cL_areAnswers 409 = .ok (.invokevirtual 66, 3) := by decide +kernel
theorem dL_areAnswers_412 : decode cL_areAnswers 412 = .ok (.istore 13, 2) := by decide +kernel
theorem dL_areAnswers_414 : decode cL_areAnswers 414 = .ok (.aload_n 0, 1) := by decide +kernel
theorem dL_areAnswers_415 : decode cL_areAnswers 415 = .ok (.iload_n 2, 1) := by decide +kernel
theorem dL_areAnswers_416 : decode cL_areAnswers 416 = .ok (.iload_n 3, 1) := by decide +kernel
theorem dL_areAnswers_417 : decode cL_areAnswers 417 = .ok (.iconst 0, 1) := by decide +kernel
theorem dL_areAnswers_418 : decode cL_areAnswers 418 = .ok (.invokevirtual 66, 3) := by decide +kernel
theorem dL_areAnswers_421 : decode cL_areAnswers 421 = .ok (.istore 14, 2) := by decide +kernel
theorem dL_areAnswers_423 : decode cL_areAnswers 423 = .ok (.iload 13, 2) := by decide +kernel
theorem dL_areAnswers_425 : decode cL_areAnswers 425 = .ok (.bipush (-5), 2) := by decide +kernel
theorem dL_areAnswers_427 : decode cL_areAnswers 427 = .ok (.if_icmp .ne 21, 3) := by decide +kernel
theorem dL_areAnswers_430 : decode cL_areAnswers 430 = .ok (.iload 12, 2) := by decide +kernel
theorem dL_areAnswers_432 : decode cL_areAnswers 432 = .ok (.ifCond .eq 14, 3) := by decide +kernel
theorem dL_areAnswers_435 : decode cL_areAnswers 435 = .ok (.iload 14, 2) := by decide +kernel
theorem dL_areAnswers_437 : decode cL_areAnswers 437 = .ok (.iload 13, 2) := by decide +kernel
theorem dL_areAnswers_439 : decode cL_areAnswers 439 = .ok (.if_icmp .ne 7, 3) := by decide +kernel
theorem dL_areAnswers_442 : decode cL_areAnswers 442 = .ok (.iconst 1, 1) := by decide +kernel
theorem dL_areAnswers_443 : decode cL_areAnswers 443 = .ok (.goto 4, 3) := by decide +kernel
theorem dL_areAnswers_446 : decode cL_areAnswers 446 = .ok (.iconst 0, 1) := by decide +kernel
theorem dL_areAnswers_447 : decode cL_areAnswers 447 = .ok (.ireturn, 1) := by decide +kernel
theorem dL_areAnswers_448 : decode cL_areAnswers 448 = .ok (.iload 12, 2) := by decide +kernel
theorem dL_areAnswers_450 : decode cL_areAnswers 450 = .ok (.ifCond .eq 74, 3) := by decide +kernel
theorem dL_areAnswers_453 : decode cL_areAnswers 453 = .ok (.iload 6, 2) := by decide +kernel
theorem dL_areAnswers_455 : decode cL_areAnswers 455 = .ok (.iload 5, 2) := by decide +kernel
theorem dL_areAnswers_457 : decode cL_areAnswers 457 = .ok (.if_icmp .ge 67, 3) := by decide +kernel
theorem dL_areAnswers_460 : decode cL_areAnswers 460 = .ok (.iload 14, 2) := by decide +kernel
theorem dL_areAnswers_462 : decode cL_areAnswers 462 = .ok (.aload_n 0, 1) := by decide +kernel
theorem dL_areAnswers_463 : decode cL_areAnswers 463 = .ok (.iload 13, 2) := by decide +kernel
theorem dL_areAnswers_465 : decode cL_areAnswers 465 = .ok (.iconst 0, 1) := by decide +kernel
theorem dL_areAnswers_466 : decode cL_areAnswers 466 = .ok (.invokevirtual 32, 3) := by decide +kernel
theorem dL_areAnswers_469 : decode cL_areAnswers 469 = .ok (.if_icmp .ne 55, 3) := by decide +kernel
theorem dL_areAnswers_472 : decode cL_areAnswers 472 = .ok (.aload_n 0, 1) := by decide +kernel
theorem dL_areAnswers_473 : decode cL_areAnswers 473 = .ok (.iload 13, 2) := by decide +kernel
theorem dL_areAnswers_475 : decode cL_areAnswers 475 = .ok (.iconst 4, 1) := by decide +kernel
theorem dL_areAnswers_476 : decode cL_areAnswers 476 = .ok (.invokevirtual 32, 3) := by decide +kernel
theorem dL_areAnswers_479 : decode cL_areAnswers 479 = .ok (.iconst 1, 1) := by decide +kernel
theorem dL_areAnswers_480 : decode cL_areAnswers 480 = .ok (.if_icmp .ne 44, 3) := by decide +kernel
theorem dL_areAnswers_483 : decode cL_areAnswers 483 = .ok (.aload_n 0, 1) := by decide +kernel
theorem dL_areAnswers_484 : decode cL_areAnswers 484 = .ok (.iload 14, 2) := by decide +kernel
theorem dL_areAnswers_486 : decode cL_areAnswers 486 = .ok (.iconst 0, 1) := by decide +kernel
theorem dL_areAnswers_487 : decode cL_areAnswers 487 = .ok (.invokevirtual 38, 3) := by decide +kernel
theorem dL_areAnswers_490 : decode cL_areAnswers 490 = .ok (.iconst 1, 1) := by decide +kernel
theorem dL_areAnswers_491 : decode cL_areAnswers 491 = .ok (.if_icmp .le 33, 3) := by decide +kernel
theorem dL_areAnswers_494 : decode cL_areAnswers 494 = .ok (.aload_n 0, 1) := by decide +kernel
theorem dL_areAnswers_495 : decode cL_areAnswers 495 = .ok (.iload 13, 2) := by decide +kernel
theorem dL_areAnswers_497 : decode cL_areAnswers 497 = .ok (.invokevirtual 41, 3) := by decide +kernel
theorem dL_areAnswers_500 : decode cL_areAnswers 500 = .ok (.aload_n 1, 1) := by decide +kernel
theorem dL_areAnswers_501 : decode cL_areAnswers 501 = .ok (.iload 13, 2) := by decide +kernel
theorem dL_areAnswers_503 : decode cL_areAnswers 503 = .ok (.invokevirtual 41, 3) := by decide +kernel
theorem dL_areAnswers_506 : decode cL_areAnswers 506 = .ok (.if_icmp .ne 18, 3) := by decide +kernel
theorem dL_areAnswers_509 : decode cL_areAnswers 509 = .ok (.aload_n 0, 1) := by decide +kernel
theorem dL_areAnswers_510 : decode cL_areAnswers 510 = .ok (.iload_n 2, 1) := by decide +kernel
theorem dL_areAnswers_511 : decode cL_areAnswers 511 = .ok (.iload_n 3, 1) := by decide +kernel
theorem dL_areAnswers_512 : decode cL_areAnswers 512 = .ok (.iconst 0, 1) := by decide +kernel
theorem dL_areAnswers_513 : decode cL_areAnswers 513 = .ok (.invokevirtual 59, 3) := by decide +kernel
theorem dL_areAnswers_516 : decode cL_areAnswers 516 = .ok (.iconst 1, 1) := by decide +kernel
theorem dL_areAnswers_517 : decode cL_areAnswers 517 = .ok (.if_icmp .ne 7, 3) := by decide +kernel
theorem dL_areAnswers_520 : decode cL_areAnswers 520 = .ok (.iconst 1, 1) := by decide +kernel
theorem dL_areAnswers_521 : decode cL_areAnswers 521 = .ok (.goto 4, 3) := by decide +kernel
theorem dL_areAnswers_524 : decode cL_areAnswers 524 = .ok (.iconst 0, 1) := by decide +kernel
theorem dL_areAnswers_525 : decode cL_areAnswers 525 = .ok (.istore 12, 2) := by decide +kernel
theorem dL_areAnswers_527 : decode cL_areAnswers 527 = .ok (.iload 12, 2) := by decide +kernel
theorem dL_areAnswers_529 : decode cL_areAnswers 529 = .ok (.ifCond .eq 30, 3) := by decide +kernel
theorem dL_areAnswers_532 : decode cL_areAnswers 532 = .ok (.aload_n 0, 1) := by decide +kernel
theorem dL_areAnswers_533 : decode cL_areAnswers 533 = .ok (.invokevirtual 51, 3) := by decide +kernel
theorem dL_areAnswers_536 : decode cL_areAnswers 536 = .ok (.aload_n 1, 1) := by decide +kernel
theorem dL_areAnswers_537 : decode cL_areAnswers 537 = .ok (.invokevirtual 51, 3) := by decide +kernel
theorem dL_areAnswers_540 : decode cL_areAnswers 540 = .ok (.if_icmp .ne 19, 3) := by decide +kernel
theorem dL_areAnswers_543 : decode cL_areAnswers 543 = .ok (.aload_n 0, 1) := by decide +kernel
theorem dL_areAnswers_544 : decode cL_areAnswers 544 = .ok (.iload_n 2, 1) := by decide +kernel
theorem dL_areAnswers_545 : decode cL_areAnswers 545 = .ok (.iload_n 3, 1) := by decide +kernel
theorem dL_areAnswers_546 : decode cL_areAnswers 546 = .ok (.iconst 2, 1) := by decide +kernel
theorem dL_areAnswers_547 : decode cL_areAnswers 547 = .ok (.invokevirtual 59, 3) := by decide +kernel
theorem dL_areAnswers_550 : decode cL_areAnswers 550 = .ok (.iload 6, 2) := by decide +kernel
theorem dL_areAnswers_552 : decode cL_areAnswers 552 = .ok (.if_icmp .ne 7, 3) := by decide +kernel
theorem dL_areAnswers_555 : decode cL_areAnswers 555 = .ok (.iconst 1, 1) := by decide +kernel
theorem dL_areAnswers_556 : decode cL_areAnswers 556 = .ok (.goto 4, 3) := by decide +kernel
theorem dL_areAnswers_559 : decode cL_areAnswers 559 = .ok (.iconst 0, 1) := by decide +kernel
theorem dL_areAnswers_560 : decode cL_areAnswers 560 = .ok (.ireturn, 1) := by decide +kernel
set_option maxHeartbeats 1000000 in
set_option maxRecDepth 20000 in
theorem ggL_areAlike_X5_sum_h : GoodIn wsL_areAlike [.code yX5_sum cX5_sum 3 (some .int)] := goodIn_r _ [5] (by decide +kernel) (by decide +kernel)
set_option maxHeartbeats 1000000 in
set_option maxRecDepth 20000 in
theorem ggL_areAlike_X5_sum_r1 : GoodIn wsL_areAlike wsX5_sum_r1 := goodIn_r _ [6, 7, 8, 4, 9, 10, 11, 12, 13, 14, 15, 16, 17, 18, 19, 20, 21, 22, 23, 24, 25, 26, 27, 28] (by decide +kernel) (by decide +kernel)
set_option maxHeartbeats 1000000 in
set_option maxRecDepth 20000 in
theorem ggL_areAlike_X5_sum_r2 : GoodIn wsL_areAlike wsX5_sum_r2 := goodIn_r _ [29, 30, 31, 32, 33, 34, 35, 36, 37, 38, 39, 40, 41, 42, 43, 44, 45, 46, 47, 48, 49, 50, 51, 52] (by decide +kernel) (by decide +kernel)
set_option maxHeartbeats 1000000 in
set_option maxRecDepth 20000 in
theorem ggL_areAlike_X5_sum_r3 : GoodIn wsL_areAlike wsX5_sum_r3 := goodIn_r _ [53, 54, 55, 56, 57, 58, 59, 60, 61, 62, 63, 64, 65, 66, 67, 68, 69, 70, 71, 72, 73, 74, 75, 76] (by decide +kernel) (by decide +kernel)
set_option maxHeartbeats 1000000 in
set_option maxRecDepth 20000 in
theorem ggL_areAlike_X5_sum_r4 : GoodIn wsL_areAlike wsX5_sum_r4 := goodIn_r _ [77, 78, 79, 80, 81, 82, 83, 84, 85, 86, 87, 88, 89, 90, 91, 92, 93, 94, 95, 96, 97, 98, 99, 100] (by decide +kernel) (by decide +kernel)
set_option maxHeartbeats 1000000 in
set_option maxRecDepth 20000 in
theorem ggL_areAlike_X5_sum_r5 : GoodIn wsL_areAlike wsX5_sum_r5 := goodIn_r _ [101, 102, 103, 104, 105, 106, 107] (by decide +kernel) (by decide +kernel)
set_option maxHeartbeats 1000000 in
set_option maxRecDepth 20000 in
theorem ggL_areAlike_X5_sum_X5 : GoodIn wsL_areAlike wsX50 := goodIn_r _ [301, 302, 303, 304, 305, 306, 307] (by decide +kernel) (by decide +kernel)
set_option maxHeartbeats 1000000 in
set_option maxRecDepth 20000 in
theorem ggL_areAlike_X5_sum_X0 : GoodIn wsL_areAlike wsX00 := goodIn_r _ [308, 309, 310, 311, 312, 313] (by decide +kernel) (by decide +kernel)
set_option maxHeartbeats 1000000 in
set_option maxRecDepth 20000 in
theorem ggL_areAlike_X5_sum_X3 : GoodIn wsL_areAlike wsX30 := goodIn_r _ [314, 315, 316, 317, 318, 319] (by decide +kernel) (by decide +kernel)
set_option maxRecDepth 20000 in
theorem ggL_areAlike_X5_sum : GoodIn wsL_areAlike wsX5_sum := goodIn_app ggL_areAlike_X5_sum_h (goodIn_app (goodIn_app (goodIn_app (goodIn_app ggL_areAlike_X5_sum_r1 (goodIn_app ggL_areAlike_X5_sum_r2 (goodIn_app ggL_areAlike_X5_sum_r3 (goodIn_app ggL_areAlike_X5_sum_r4 (ggL_areAlike_X5_sum_r5))))) ggL_areAlike_X5_sum_X5) ggL_areAlike_X5_sum_X0) ggL_areAlike_X5_sum_X3)
set_option maxRecDepth 20000 in
theorem gL_areAlike_X5_sum : GoodIn wsL_areAlike (wsV RL 69 RX5 yX5_sum wsX5_sum) := goodIn_app (goodIn_of _ (by decide +kernel)) ggL_areAlike_X5_sum
set_option maxHeartbeats 1000000 in
set_option maxRecDepth 20000 in
theorem ggL_areAlike_X5_count_h : GoodIn wsL_areAlike [.code yX5_count cX5_count 2 (some .int)] := goodIn_r _ [111] (by decide +kernel) (by decide +kernel)
set_option maxHeartbeats 1000000 in
set_option maxRecDepth 20000 in
theorem ggL_areAlike_X5_count_r1 : GoodIn wsL_areAlike wsX5_count_r1 := goodIn_r _ [112, 113, 114, 115, 26, 27, 28, 29, 30, 116, 117, 118, 119, 120, 121, 122, 123, 124, 125, 126, 127, 43, 44, 45] (by decide +kernel) (by decide +kernel)
set_option maxHeartbeats 1000000 in
set_option maxRecDepth 20000 in
theorem ggL_areAlike_X5_count_r2 : GoodIn wsL_areAlike wsX5_count_r2 := goodIn_r _ [46, 47, 41, 4, 42, 128, 129, 130, 131, 6, 7, 8, 9, 10, 11, 12, 13, 14, 15, 16, 17, 18, 19, 20] (by decide +kernel) (by decide +kernel)
set_option maxHeartbeats 1000000 in
set_option maxRecDepth 20000 in
theorem ggL_areAlike_X5_count_r3 : GoodIn wsL_areAlike wsX5_count_r3 := goodIn_r _ [21, 22, 23, 24, 25, 31, 32, 33, 34, 35, 36, 37, 38, 39, 40, 48, 49, 50, 51, 52, 53, 54, 55, 56] (by decide +kernel) (by decide +kernel)
set_option maxHeartbeats 1000000 in
set_option maxRecDepth 20000 in
theorem ggL_areAlike_X5_count_r4 : GoodIn wsL_areAlike wsX5_count_r4 := goodIn_r _ [57, 58, 59, 60, 61, 62, 63, 64, 65, 66, 67, 68, 69, 70, 71, 72, 73, 74, 75, 76, 77, 78, 132, 133] (by decide +kernel) (by decide +kernel)
set_option maxHeartbeats 1000000 in
set_option maxRecDepth 20000 in
theorem ggL_areAlike_X5_count_r5 : GoodIn wsL_areAlike wsX5_count_r5 := goodIn_r _ [134, 135, 136, 137, 138, 139, 140, 141, 142, 143, 144, 145, 146, 147, 148, 149, 150, 151, 152, 153, 154, 155, 91, 92] (by decide +kernel) (by decide +kernel)
set_option maxHeartbeats 1000000 in
set_option maxRecDepth 20000 in
theorem ggL_areAlike_X5_count_r6 : GoodIn wsL_areAlike wsX5_count_r6 := goodIn_r _ [93, 94, 156, 157, 158, 159, 160, 161, 162, 163, 164, 165, 166, 167, 168, 169, 170, 171, 172, 173, 174, 175, 176, 177] (by decide +kernel) (by decide +kernel)
set_option maxHeartbeats 1000000 in
set_option maxRecDepth 20000 in
theorem ggL_areAlike_X5_count_r7 : GoodIn wsL_areAlike wsX5_count_r7 := goodIn_r _ [178, 179, 180, 181, 182, 183, 184, 185, 186, 187, 188, 189, 190, 191, 192, 193, 194, 195, 196, 197, 198, 199, 200, 201] (by decide +kernel) (by decide +kernel)
set_option maxHeartbeats 1000000 in
set_option maxRecDepth 20000 in
theorem ggL_areAlike_X5_count_r8 : GoodIn wsL_areAlike wsX5_count_r8 := goodIn_r _ [202, 203, 204, 205, 206, 207, 208, 209, 210, 211, 212, 213, 214, 215, 216, 217, 218, 219, 220, 221, 222] (by decide +kernel) (by decide +kernel)
