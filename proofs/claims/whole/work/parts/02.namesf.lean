theorem dX8_lot_2 : decode cX8_lot 2 = .ok (.invokevirtual 155, 3) := by decide +kernel
theorem dX8_lot_5 : decode cX8_lot 5 = .ok (.ifCond .ne 5, 3) := by decide +kernel
theorem dX8_lot_8 : decode cX8_lot 8 = .ok (.iconst (-1), 1) := by decide +kernel
theorem dX8_lot_9 : decode cX8_lot 9 = .ok (.ireturn, 1) := by decide +kernel
theorem dX8_lot_10 : decode cX8_lot 10 = .ok (.iload_n 2, 1) := by decide +kernel
theorem dX8_lot_11 : decode cX8_lot 11 = .ok (.tableswitch 139 0 7 #[45, 51, 61, 71, 94, 100, 119, 133], 45) := by decide +kernel
theorem dX8_lot_56 : decode cX8_lot 56 = .ok (.aload_n 0, 1) := by decide +kernel
theorem dX8_lot_57 : decode cX8_lot 57 = .ok (.iload_n 1, 1) := by decide +kernel
theorem dX8_lot_58 : decode cX8_lot 58 = .ok (.invokevirtual 46, 3) := by decide +kernel
theorem dX8_lot_61 : decode cX8_lot 61 = .ok (.ireturn, 1) := by decide +kernel
theorem dX8_lot_62 : decode cX8_lot 62 = .ok (.aload_n 0, 1) := by decide +kernel
theorem dX8_lot_63 : decode cX8_lot 63 = .ok (.getfield 7, 3) := by decide +kernel
theorem dX8_lot_66 : decode cX8_lot 66 = .ok (.bipush 18, 2) := by decide +kernel
theorem dX8_lot_68 : decode cX8_lot 68 = .ok (.iload_n 1, 1) := by decide +kernel
theorem dX8_lot_69 : decode cX8_lot 69 = .ok (.iadd, 1) := by decide +kernel
theorem dX8_lot_70 : decode cX8_lot 70 = .ok (.iaload, 1) := by decide +kernel
theorem dX8_lot_71 : decode cX8_lot 71 = .ok (.ireturn, 1) := by decide +kernel
theorem dX8_lot_72 : decode cX8_lot 72 = .ok (.aload_n 0, 1) := by decide +kernel
theorem dX8_lot_73 : decode cX8_lot 73 = .ok (.getfield 7, 3) := by decide +kernel
theorem dX8_lot_76 : decode cX8_lot 76 = .ok (.bipush 30, 2) := by decide +kernel
theorem dX8_lot_78 : decode cX8_lot 78 = .ok (.iload_n 1, 1) := by decide +kernel
theorem dX8_lot_79 : decode cX8_lot 79 = .ok (.iadd, 1) := by decide +kernel
theorem dX8_lot_80 : decode cX8_lot 80 = .ok (.iaload, 1) := by decide +kernel
theorem dX8_lot_81 : decode cX8_lot 81 = .ok (.ireturn, 1) := by decide +kernel
theorem dX8_lot_82 : decode cX8_lot 82 = .ok (.aload_n 0, 1) := by decide +kernel
theorem dX8_lot_83 : decode cX8_lot 83 = .ok (.iload_n 1, 1) := by decide +kernel
theorem dX8_lot_84 : decode cX8_lot 84 = .ok (.invokevirtual 50, 3) := by decide +kernel
theorem dX8_lot_87 : decode cX8_lot 87 = .ok (.ifCond .eq 15, 3) := by decide +kernel
theorem dX8_lot_90 : decode cX8_lot 90 = .ok (.aload_n 0, 1) := by decide +kernel
theorem dX8_lot_91 : decode cX8_lot 91 = .ok (.getfield 7, 3) := by decide +kernel
theorem dX8_lot_94 : decode cX8_lot 94 = .ok (.bipush 42, 2) := by decide +kernel
theorem dX8_lot_96 : decode cX8_lot 96 = .ok (.iload_n 1, 1) := by decide +kernel
theorem dX8_lot_97 : decode cX8_lot 97 = .ok (.iadd, 1) := by decide +kernel
theorem dX8_lot_98 : decode cX8_lot 98 = .ok (.iaload, 1) := by decide +kernel
theorem dX8_lot_99 : decode cX8_lot 99 = .ok (.goto 5, 3) := by decide +kernel
theorem dX8_lot_102 : decode cX8_lot 102 = .ok (.bipush (-5), 2) := by decide +kernel
theorem dX8_lot_104 : decode cX8_lot 104 = .ok (.ireturn, 1) := by decide +kernel
theorem dX8_lot_105 : decode cX8_lot 105 = .ok (.aload_n 0, 1) := by decide +kernel
theorem dX8_lot_106 : decode cX8_lot 106 = .ok (.iload_n 1, 1) := by decide +kernel
theorem dX8_lot_107 : decode cX8_lot 107 = .ok (.invokevirtual 64, 3) := by decide +kernel
theorem dX8_lot_110 : decode cX8_lot 110 = .ok (.ireturn, 1) := by decide +kernel
theorem dX8_lot_111 : decode cX8_lot 111 = .ok (.aload_n 0, 1) := by decide +kernel
theorem dX8_lot_112 : decode cX8_lot 112 = .ok (.iload_n 1, 1) := by decide +kernel
theorem dX8_lot_113 : decode cX8_lot 113 = .ok (.invokevirtual 50, 3) := by decide +kernel
theorem dX8_lot_116 : decode cX8_lot 116 = .ok (.ifCond .eq 11, 3) := by decide +kernel
theorem dX8_lot_119 : decode cX8_lot 119 = .ok (.aload_n 0, 1) := by decide +kernel
theorem dX8_lot_120 : decode cX8_lot 120 = .ok (.iload_n 1, 1) := by decide +kernel
theorem dX8_lot_121 : decode cX8_lot 121 = .ok (.invokevirtual 70, 3) := by decide +kernel
theorem dX8_lot_124 : decode cX8_lot 124 = .ok (.goto 5, 3) := by decide +kernel
theorem dX8_lot_127 : decode cX8_lot 127 = .ok (.bipush (-5), 2) := by decide +kernel
theorem dX8_lot_129 : decode cX8_lot 129 = .ok (.ireturn, 1) := by decide +kernel
theorem dX8_lot_130 : decode cX8_lot 130 = .ok (.aload_n 0, 1) := by decide +kernel
theorem dX8_lot_131 : decode cX8_lot 131 = .ok (.iload_n 1, 1) := by decide +kernel
theorem dX8_lot_132 : decode cX8_lot 132 = .ok (.invokevirtual 85, 3) := by decide +kernel
theorem dX8_lot_135 : decode cX8_lot 135 = .ok (.ifCond .ne 7, 3) := by decide +kernel
theorem dX8_lot_138 : decode cX8_lot 138 = .ok (.iconst 1, 1) := by decide +kernel
theorem dX8_lot_139 : decode cX8_lot 139 = .ok (.goto 4, 3) := by decide +kernel
theorem dX8_lot_142 : decode cX8_lot 142 = .ok (.iconst 0, 1) := by decide +kernel
theorem dX8_lot_143 : decode cX8_lot 143 = .ok (.ireturn, 1) := by decide +kernel
theorem dX8_lot_144 : decode cX8_lot 144 = .ok (.aload_n 0, 1) := by decide +kernel
theorem dX8_lot_145 : decode cX8_lot 145 = .ok (.iload_n 1, 1) := by decide +kernel
theorem dX8_lot_146 : decode cX8_lot 146 = .ok (.invokevirtual 85, 3) := by decide +kernel
theorem dX8_lot_149 : decode cX8_lot 149 = .ok (.ireturn, 1) := by decide +kernel
theorem dX8_lot_150 : decode cX8_lot 150 = .ok (.bipush (-2), 2) := by decide +kernel
theorem dX8_lot_152 : decode cX8_lot 152 = .ok (.ireturn, 1) := by decide +kernel
set_option maxRecDepth 20000 in
theorem ggX8_page_X8_gatherings : GoodIn wsX8_page wsX8_gatherings := goodIn_r _ [6, 7, 8, 9, 5, 10, 1, 11, 12, 13, 14, 15, 16, 17, 18, 19, 20, 21, 22, 23, 24, 25, 26, 61, 62, 63, 64, 65, 66, 67, 68, 69, 70, 71, 72, 73, 74, 75, 76] (by decide +kernel) (by decide +kernel)
set_option maxRecDepth 20000 in
theorem gX8_page_X8_gatherings : GoodIn wsX8_page (wsV RX8 73 RX8 yX8_gatherings wsX8_gatherings) := goodIn_app (goodIn_of _ (by decide +kernel)) ggX8_page_X8_gatherings
set_option maxRecDepth 20000 in
theorem ggX8_page_X8_in : GoodIn wsX8_page wsX8_in := goodIn_r _ [29] (by decide +kernel) (by decide +kernel)
set_option maxRecDepth 20000 in
theorem gX8_page_X8_in : GoodIn wsX8_page (va_wsS RX8 42 yX8_in wsX8_in) := goodIn_app (goodIn_of _ (by decide +kernel)) ggX8_page_X8_in
set_option maxRecDepth 20000 in
theorem ggX8_page_X8_kindAt : GoodIn wsX8_page wsX8_kindAt := goodIn_r _ [33, 1, 34, 35, 36, 5, 37, 11, 12, 13, 14, 15, 16, 17, 18, 19, 20, 21, 22, 38, 39, 40, 41, 42, 43, 44, 45, 61, 62, 63, 64, 65, 66, 67, 68, 69, 70, 71, 72, 73, 74, 75, 76] (by decide +kernel) (by decide +kernel)
set_option maxRecDepth 20000 in
theorem gX8_page_X8_kindAt : GoodIn wsX8_page (wsV RX8 79 RX8 yX8_kindAt wsX8_kindAt) := goodIn_app (goodIn_of _ (by decide +kernel)) ggX8_page_X8_kindAt
set_option maxRecDepth 20000 in
theorem ggX8_page_X8_isBlank : GoodIn wsX8_page wsX8_isBlank := goodIn_r _ [48] (by decide +kernel) (by decide +kernel)
set_option maxRecDepth 20000 in
theorem gX8_page_X8_isBlank : GoodIn wsX8_page (va_wsS RX8 82 yX8_isBlank wsX8_isBlank) := goodIn_app (goodIn_of _ (by decide +kernel)) ggX8_page_X8_isBlank
set_option maxRecDepth 20000 in
theorem ggX8_page_X8_lotAt : GoodIn wsX8_page wsX8_lotAt := goodIn_r _ [37, 1, 11, 12, 13, 5, 14, 15, 16, 17, 18, 19, 20, 21, 22, 61, 62, 63, 64, 65, 66, 67, 68, 69, 70, 71, 72, 73, 74, 75, 76] (by decide +kernel) (by decide +kernel)
set_option maxRecDepth 20000 in
theorem gX8_page_X8_lotAt : GoodIn wsX8_page (wsV RX8 67 RX8 yX8_lotAt wsX8_lotAt) := goodIn_app (goodIn_of _ (by decide +kernel)) ggX8_page_X8_lotAt
set_option maxRecDepth 20000 in
theorem ggX8_page_X8_gatheringOf : GoodIn wsX8_page wsX8_gatheringOf := goodIn_r _ [52, 1, 61, 62, 63, 64, 65, 66, 67, 68, 69, 70, 71, 72, 73, 74, 75, 76] (by decide +kernel) (by decide +kernel)
set_option maxRecDepth 20000 in
theorem gX8_page_X8_gatheringOf : GoodIn wsX8_page (wsV RX8 88 RX8 yX8_gatheringOf wsX8_gatheringOf) := goodIn_app (goodIn_of _ (by decide +kernel)) ggX8_page_X8_gatheringOf
set_option maxRecDepth 20000 in
theorem ggX8_page_X8_sideOf : GoodIn wsX8_page wsX8_sideOf := goodIn_r _ [56, 1, 61, 62, 63, 64, 65, 66, 67, 68, 69, 70, 71, 72, 73, 74, 75, 76] (by decide +kernel) (by decide +kernel)
set_option maxRecDepth 20000 in
theorem gX8_page_X8_sideOf : GoodIn wsX8_page (wsV RX8 91 RX8 yX8_sideOf wsX8_sideOf) := goodIn_app (goodIn_of _ (by decide +kernel)) ggX8_page_X8_sideOf
set_option maxRecDepth 20000 in
theorem ggX8_page_X8_beside : GoodIn wsX8_page wsX8_beside := goodIn_r _ [60, 1, 2, 3, 4, 5, 6, 7, 8, 9, 10, 11, 12, 13, 14, 15, 16, 17, 18, 19, 20, 21, 22, 23, 24, 25, 26, 27, 28, 29, 61, 62, 63, 64, 65, 66, 67, 68, 69, 70, 71, 72, 73, 74, 75, 76] (by decide +kernel) (by decide +kernel)
set_option maxRecDepth 20000 in
theorem gX8_page_X8_beside : GoodIn wsX8_page (wsV RX8 76 RX8 yX8_beside wsX8_beside) := goodIn_app (goodIn_of _ (by decide +kernel)) ggX8_page_X8_beside
theorem dX8_page_0 : decode cX8_page 0 = .ok (.iload_n 1, 1) := by decide +kernel
theorem dX8_page_1 : decode cX8_page 1 = .ok (.i2l, 1) := by decide +kernel
theorem dX8_page_2 : decode cX8_page 2 = .ok (.lconst 1, 1) := by decide +kernel
theorem dX8_page_3 : decode cX8_page 3 = .ok (.aload_n 0, 1) := by decide +kernel
theorem dX8_page_4 : decode cX8_page 4 = .ok (.invokevirtual 73, 3) := by decide +kernel
theorem dX8_page_7 : decode cX8_page 7 = .ok (.aload_n 0, 1) := by decide +kernel
theorem dX8_page_8 : decode cX8_page 8 = .ok (.getfield 7, 3) := by decide +kernel
theorem dX8_page_11 : decode cX8_page 11 = .ok (.iconst 0, 1) := by decide +kernel
theorem dX8_page_12 : decode cX8_page 12 = .ok (.iaload, 1) := by decide +kernel
theorem dX8_page_13 : decode cX8_page 13 = .ok (.imul, 1) := by decide +kernel
theorem dX8_page_14 : decode cX8_page 14 = .ok (.i2l, 1) := by decide +kernel
theorem dX8_page_15 : decode cX8_page 15 = .ok (.invokestatic 42, 3) := by decide +kernel
theorem dX8_page_18 : decode cX8_page 18 = .ok (.ifCond .ne 5, 3) := by decide +kernel
theorem dX8_page_21 : decode cX8_page 21 = .ok (.iconst (-1), 1) := by decide +kernel
theorem dX8_page_22 : decode cX8_page 22 = .ok (.ireturn, 1) := by decide +kernel
theorem dX8_page_23 : decode cX8_page 23 = .ok (.aload_n 0, 1) := by decide +kernel
theorem dX8_page_24 : decode cX8_page 24 = .ok (.iload_n 1, 1) := by decide +kernel
theorem dX8_page_25 : decode cX8_page 25 = .ok (.invokevirtual 79, 3) := by decide +kernel
theorem dX8_page_28 : decode cX8_page 28 = .ok (.istore_n 3, 1) := by decide +kernel
theorem dX8_page_29 : decode cX8_page 29 = .ok (.iload_n 2, 1) := by decide +kernel
theorem dX8_page_30 : decode cX8_page 30 = .ok (.tableswitch 72 0 4 #[34, 52, 54, 60, 66], 34) := by decide +kernel
theorem dX8_page_64 : decode cX8_page 64 = .ok (.iload_n 3, 1) := by decide +kernel
theorem dX8_page_65 : decode cX8_page 65 = .ok (.invokestatic 82, 3) := by decide +kernel
theorem dX8_page_68 : decode cX8_page 68 = .ok (.ifCond .eq 8, 3) := by decide +kernel
theorem dX8_page_71 : decode cX8_page 71 = .ok (.bipush (-5), 2) := by decide +kernel
theorem dX8_page_73 : decode cX8_page 73 = .ok (.goto 8, 3) := by decide +kernel
theorem dX8_page_76 : decode cX8_page 76 = .ok (.aload_n 0, 1) := by decide +kernel
theorem dX8_page_77 : decode cX8_page 77 = .ok (.iload_n 1, 1) := by decide +kernel
theorem dX8_page_78 : decode cX8_page 78 = .ok (.invokevirtual 67, 3) := by decide +kernel
theorem dX8_page_81 : decode cX8_page 81 = .ok (.ireturn, 1) := by decide +kernel
theorem dX8_page_82 : decode cX8_page 82 = .ok (.iload_n 3, 1) := by decide +kernel
theorem dX8_page_83 : decode cX8_page 83 = .ok (.ireturn, 1) := by decide +kernel
theorem dX8_page_84 : decode cX8_page 84 = .ok (.aload_n 0, 1) := by decide +kernel
theorem dX8_page_85 : decode cX8_page 85 = .ok (.iload_n 1, 1) := by decide +kernel
theorem dX8_page_86 : decode cX8_page 86 = .ok (.invokevirtual 88, 3) := by decide +kernel
theorem dX8_page_89 : decode cX8_page 89 = .ok (.ireturn, 1) := by decide +kernel
theorem dX8_page_90 : decode cX8_page 90 = .ok (.aload_n 0, 1) := by decide +kernel
theorem dX8_page_91 : decode cX8_page 91 = .ok (.iload_n 1, 1) := by decide +kernel
theorem dX8_page_92 : decode cX8_page 92 = .ok (.invokevirtual 91, 3) := by decide +kernel
theorem dX8_page_95 : decode cX8_page 95 = .ok (.ireturn, 1) := by decide +kernel
theorem dX8_page_96 : decode cX8_page 96 = .ok (.aload_n 0, 1) := by decide +kernel
theorem dX8_page_97 : decode cX8_page 97 = .ok (.iload_n 1, 1) := by decide +kernel
theorem dX8_page_98 : decode cX8_page 98 = .ok (.invokevirtual 76, 3) := by decide +kernel
theorem dX8_page_101 : decode cX8_page 101 = .ok (.ireturn, 1) := by decide +kernel
theorem dX8_page_102 : decode cX8_page 102 = .ok (.bipush (-2), 2) := by decide +kernel
theorem dX8_page_104 : decode cX8_page 104 = .ok (.ireturn, 1) := by decide +kernel
set_option maxRecDepth 20000 in
theorem ggX8_pagesIn_X8_kindAt : GoodIn wsX8_pagesIn wsX8_kindAt := goodIn_r _ [6, 1, 7, 8, 9, 5, 10, 11, 12, 13, 14, 15, 16, 17, 18, 19, 20, 21, 22, 23, 24, 25, 26, 27, 28, 29, 30, 34, 35, 36, 37, 38, 39, 40, 41, 42, 43, 44, 45, 46, 47, 48, 49] (by decide +kernel) (by decide +kernel)
set_option maxRecDepth 20000 in
theorem gX8_pagesIn_X8_kindAt : GoodIn wsX8_pagesIn (wsV RX8 79 RX8 yX8_kindAt wsX8_kindAt) := goodIn_app (goodIn_of _ (by decide +kernel)) ggX8_pagesIn_X8_kindAt
set_option maxRecDepth 20000 in
theorem ggX8_pagesIn_X8_isBlank : GoodIn wsX8_pagesIn wsX8_isBlank := goodIn_r _ [33] (by decide +kernel) (by decide +kernel)
set_option maxRecDepth 20000 in
theorem gX8_pagesIn_X8_isBlank : GoodIn wsX8_pagesIn (va_wsS RX8 82 yX8_isBlank wsX8_isBlank) := goodIn_app (goodIn_of _ (by decide +kernel)) ggX8_pagesIn_X8_isBlank
theorem dX8_pagesIn_0 : decode cX8_pagesIn 0 = .ok (.iconst 0, 1) := by decide +kernel
theorem dX8_pagesIn_1 : decode cX8_pagesIn 1 = .ok (.istore_n 3, 1) := by decide +kernel
theorem dX8_pagesIn_2 : decode cX8_pagesIn 2 = .ok (.iconst 1, 1) := by decide +kernel
theorem dX8_pagesIn_3 : decode cX8_pagesIn 3 = .ok (.istore 4, 2) := by decide +kernel
theorem dX8_pagesIn_5 : decode cX8_pagesIn 5 = .ok (.iload 4, 2) := by decide +kernel
theorem dX8_pagesIn_7 : decode cX8_pagesIn 7 = .ok (.aload_n 0, 1) := by decide +kernel
theorem dX8_pagesIn_8 : decode cX8_pagesIn 8 = .ok (.getfield 7, 3) := by decide +kernel
theorem dX8_pagesIn_11 : decode cX8_pagesIn 11 = .ok (.iconst 0, 1) := by decide +kernel
theorem dX8_pagesIn_12 : decode cX8_pagesIn 12 = .ok (.iaload, 1) := by decide +kernel
theorem dX8_pagesIn_13 : decode cX8_pagesIn 13 = .ok (.if_icmp .gt 66, 3) := by decide +kernel
theorem dX8_pagesIn_16 : decode cX8_pagesIn 16 = .ok (.aload_n 0, 1) := by decide +kernel
theorem dX8_pagesIn_17 : decode cX8_pagesIn 17 = .ok (.aload_n 0, 1) := by decide +kernel
theorem dX8_pagesIn_18 : decode cX8_pagesIn 18 = .ok (.getfield 7, 3) := by decide +kernel
theorem dX8_pagesIn_21 : decode cX8_pagesIn 21 = .ok (.iconst 0, 1) := by decide +kernel
theorem dX8_pagesIn_22 : decode cX8_pagesIn 22 = .ok (.iaload, 1) := by decide +kernel
theorem dX8_pagesIn_23 : decode cX8_pagesIn 23 = .ok (.iload_n 1, 1) := by decide +kernel
theorem dX8_pagesIn_24 : decode cX8_pagesIn 24 = .ok (.imul, 1) := by decide +kernel
theorem dX8_pagesIn_25 : decode cX8_pagesIn 25 = .ok (.iload 4, 2) := by decide +kernel
theorem dX8_pagesIn_27 : decode cX8_pagesIn 27 = .ok (.iadd, 1) := by decide +kernel
theorem dX8_pagesIn_28 : decode cX8_pagesIn 28 = .ok (.invokevirtual 79, 3) := by decide +kernel
theorem dX8_pagesIn_31 : decode cX8_pagesIn 31 = .ok (.istore 5, 2) := by decide +kernel
theorem dX8_pagesIn_33 : decode cX8_pagesIn 33 = .ok (.iload_n 3, 1) := by decide +kernel
theorem dX8_pagesIn_34 : decode cX8_pagesIn 34 = .ok (.iload_n 2, 1) := by decide +kernel
theorem dX8_pagesIn_35 : decode cX8_pagesIn 35 = .ok (.ifCond .eq 19, 3) := by decide +kernel
theorem dX8_pagesIn_38 : decode cX8_pagesIn 38 = .ok (.iload 5, 2) := by decide +kernel
theorem dX8_pagesIn_40 : decode cX8_pagesIn 40 = .ok (.invokestatic 82, 3) := by decide +kernel
theorem dX8_pagesIn_43 : decode cX8_pagesIn 43 = .ok (.ifCond .eq 7, 3) := by decide +kernel
theorem dX8_pagesIn_46 : decode cX8_pagesIn 46 = .ok (.iconst 1, 1) := by decide +kernel
theorem dX8_pagesIn_47 : decode cX8_pagesIn 47 = .ok (.goto 24, 3) := by decide +kernel
theorem dX8_pagesIn_50 : decode cX8_pagesIn 50 = .ok (.iconst 0, 1) := by decide +kernel
theorem dX8_pagesIn_51 : decode cX8_pagesIn 51 = .ok (.goto 20, 3) := by decide +kernel
theorem dX8_pagesIn_54 : decode cX8_pagesIn 54 = .ok (.iload 5, 2) := by decide +kernel
theorem dX8_pagesIn_56 : decode cX8_pagesIn 56 = .ok (.iconst 2, 1) := by decide +kernel
theorem dX8_pagesIn_57 : decode cX8_pagesIn 57 = .ok (.if_icmp .eq 9, 3) := by decide +kernel
theorem dX8_pagesIn_60 : decode cX8_pagesIn 60 = .ok (.iload 5, 2) := by decide +kernel
theorem dX8_pagesIn_62 : decode cX8_pagesIn 62 = .ok (.iconst 3, 1) := by decide +kernel
theorem dX8_pagesIn_63 : decode cX8_pagesIn 63 = .ok (.if_icmp .ne 7, 3) := by decide +kernel
theorem dX8_pagesIn_66 : decode cX8_pagesIn 66 = .ok (.iconst 1, 1) := by decide +kernel
theorem dX8_pagesIn_67 : decode cX8_pagesIn 67 = .ok (.goto 4, 3) := by decide +kernel
theorem dX8_pagesIn_70 : decode cX8_pagesIn 70 = .ok (.iconst 0, 1) := by decide +kernel
theorem dX8_pagesIn_71 : decode cX8_pagesIn 71 = .ok (.iadd, 1) := by decide +kernel
theorem dX8_pagesIn_72 : decode cX8_pagesIn 72 = .ok (.istore_n 3, 1) := by decide +kernel
theorem dX8_pagesIn_73 : decode cX8_pagesIn 73 = .ok (.iinc 4 1, 3) := by decide +kernel
theorem dX8_pagesIn_76 : decode cX8_pagesIn 76 = .ok (.goto (-71), 3) := by decide +kernel
theorem dX8_pagesIn_79 : decode cX8_pagesIn 79 = .ok (.iload_n 3, 1) := by decide +kernel
theorem dX8_pagesIn_80 : decode cX8_pagesIn 80 = .ok (.ireturn, 1) := by decide +kernel
set_option maxRecDepth 20000 in
theorem ggX8_lotsIn_X8_firstPage : GoodIn wsX8_lotsIn wsX8_firstPage := goodIn_r _ [6, 1, 7, 8, 9, 5, 10, 11, 12, 13, 14, 15, 16, 17, 18, 23, 24, 25, 26, 27, 28, 29, 30, 31, 32, 33, 34, 35, 36, 37, 38] (by decide +kernel) (by decide +kernel)
set_option maxRecDepth 20000 in
theorem gX8_lotsIn_X8_firstPage : GoodIn wsX8_lotsIn (wsV RX8 64 RX8 yX8_firstPage wsX8_firstPage) := goodIn_app (goodIn_of _ (by decide +kernel)) ggX8_lotsIn_X8_firstPage
set_option maxRecDepth 20000 in
theorem ggX8_lotsIn_X8_gatheringOf : GoodIn wsX8_lotsIn wsX8_gatheringOf := goodIn_r _ [22, 1, 23, 24, 25, 26, 27, 28, 29, 30, 31, 32, 33, 34, 35, 36, 37, 38] (by decide +kernel) (by decide +kernel)
set_option maxRecDepth 20000 in
theorem gX8_lotsIn_X8_gatheringOf : GoodIn wsX8_lotsIn (wsV RX8 88 RX8 yX8_gatheringOf wsX8_gatheringOf) := goodIn_app (goodIn_of _ (by decide +kernel)) ggX8_lotsIn_X8_gatheringOf
set_option maxRecDepth 20000 in
theorem ggX8_lotsIn_X8_lengthOf : GoodIn wsX8_lotsIn wsX8_lengthOf := goodIn_r _ [10, 11, 12, 13, 5, 14, 1, 15, 16, 17, 18, 23, 24, 25, 26, 27, 28, 29, 30, 31, 32, 33, 34, 35, 36, 37, 38] (by decide +kernel) (by decide +kernel)
set_option maxRecDepth 20000 in
theorem gX8_lotsIn_X8_lengthOf : GoodIn wsX8_lotsIn (wsV RX8 54 RX8 yX8_lengthOf wsX8_lengthOf) := goodIn_app (goodIn_of _ (by decide +kernel)) ggX8_lotsIn_X8_lengthOf
theorem dX8_lotsIn_0 : decode cX8_lotsIn 0 = .ok (.iconst 0, 1) := by decide +kernel
theorem dX8_lotsIn_1 : decode cX8_lotsIn 1 = .ok (.istore_n 2, 1) := by decide +kernel
theorem dX8_lotsIn_2 : decode cX8_lotsIn 2 = .ok (.iconst 0, 1) := by decide +kernel
theorem dX8_lotsIn_3 : decode cX8_lotsIn 3 = .ok (.istore_n 3, 1) := by decide +kernel
theorem dX8_lotsIn_4 : decode cX8_lotsIn 4 = .ok (.iload_n 3, 1) := by decide +kernel
theorem dX8_lotsIn_5 : decode cX8_lotsIn 5 = .ok (.aload_n 0, 1) := by decide +kernel
theorem dX8_lotsIn_6 : decode cX8_lotsIn 6 = .ok (.getfield 7, 3) := by decide +kernel
theorem dX8_lotsIn_9 : decode cX8_lotsIn 9 = .ok (.iconst 5, 1) := by decide +kernel
theorem dX8_lotsIn_10 : decode cX8_lotsIn 10 = .ok (.iaload, 1) := by decide +kernel
theorem dX8_lotsIn_11 : decode cX8_lotsIn 11 = .ok (.if_icmp .ge 52, 3) := by decide +kernel
theorem dX8_lotsIn_14 : decode cX8_lotsIn 14 = .ok (.aload_n 0, 1) := by decide +kernel
theorem dX8_lotsIn_15 : decode cX8_lotsIn 15 = .ok (.iload_n 3, 1) := by decide +kernel
theorem dX8_lotsIn_16 : decode cX8_lotsIn 16 = .ok (.invokevirtual 64, 3) := by decide +kernel
theorem dX8_lotsIn_19 : decode cX8_lotsIn 19 = .ok (.istore 4, 2) := by decide +kernel
theorem dX8_lotsIn_21 : decode cX8_lotsIn 21 = .ok (.iload_n 2, 1) := by decide +kernel
theorem dX8_lotsIn_22 : decode cX8_lotsIn 22 = .ok (.aload_n 0, 1) := by decide +kernel
theorem dX8_lotsIn_23 : decode cX8_lotsIn 23 = .ok (.iload 4, 2) := by decide +kernel
theorem dX8_lotsIn_25 : decode cX8_lotsIn 25 = .ok (.invokevirtual 88, 3) := by decide +kernel
theorem dX8_lotsIn_28 : decode cX8_lotsIn 28 = .ok (.iload_n 1, 1) := by decide +kernel
theorem dX8_lotsIn_29 : decode cX8_lotsIn 29 = .ok (.if_icmp .gt 25, 3) := by decide +kernel
theorem dX8_lotsIn_32 : decode cX8_lotsIn 32 = .ok (.aload_n 0, 1) := by decide +kernel
theorem dX8_lotsIn_33 : decode cX8_lotsIn 33 = .ok (.iload 4, 2) := by decide +kernel
theorem dX8_lotsIn_35 : decode cX8_lotsIn 35 = .ok (.aload_n 0, 1) := by decide +kernel
theorem dX8_lotsIn_36 : decode cX8_lotsIn 36 = .ok (.iload_n 3, 1) := by decide +kernel
theorem dX8_lotsIn_37 : decode cX8_lotsIn 37 = .ok (.invokevirtual 54, 3) := by decide +kernel
theorem dX8_lotsIn_40 : decode cX8_lotsIn 40 = .ok (.iadd, 1) := by decide +kernel
theorem dX8_lotsIn_41 : decode cX8_lotsIn 41 = .ok (.iconst 1, 1) := by decide +kernel
theorem dX8_lotsIn_42 : decode cX8_lotsIn 42 = .ok (.isub, 1) := by decide +kernel
theorem dX8_lotsIn_43 : decode cX8_lotsIn 43 = .ok (.invokevirtual 88, 3) := by decide +kernel
theorem dX8_lotsIn_46 : decode cX8_lotsIn 46 = .ok (.iload_n 1, 1) := by decide +kernel
theorem dX8_lotsIn_47 : decode cX8_lotsIn 47 = .ok (.if_icmp .lt 7, 3) := by decide +kernel
theorem dX8_lotsIn_50 : decode cX8_lotsIn 50 = .ok (.iconst 1, 1) := by decide +kernel
theorem dX8_lotsIn_51 : decode cX8_lotsIn 51 = .ok (.goto 4, 3) := by decide +kernel
theorem dX8_lotsIn_54 : decode cX8_lotsIn 54 = .ok (.iconst 0, 1) := by decide +kernel
theorem dX8_lotsIn_55 : decode cX8_lotsIn 55 = .ok (.iadd, 1) := by decide +kernel
theorem dX8_lotsIn_56 : decode cX8_lotsIn 56 = .ok (.istore_n 2, 1) := by decide +kernel
theorem dX8_lotsIn_57 : decode cX8_lotsIn 57 = .ok (.iinc 3 1, 3) := by decide +kernel
theorem dX8_lotsIn_60 : decode cX8_lotsIn 60 = .ok (.goto (-56), 3) := by decide +kernel
theorem dX8_lotsIn_63 : decode cX8_lotsIn 63 = .ok (.iload_n 2, 1) := by decide +kernel
theorem dX8_lotsIn_64 : decode cX8_lotsIn 64 = .ok (.ireturn, 1) := by decide +kernel
set_option maxRecDepth 20000 in
theorem ggX8_gathering_X8_gatherings : GoodIn wsX8_gathering wsX8_gatherings := goodIn_r _ [5, 6, 7, 8, 4, 9, 10, 11, 12, 13, 14, 15, 16, 17, 18, 19, 20, 21, 22, 23, 24, 25, 26, 73, 74, 75, 76, 77, 78, 79, 80, 81, 82, 83, 84, 85, 86, 87, 88] (by decide +kernel) (by decide +kernel)
set_option maxRecDepth 20000 in
theorem gX8_gathering_X8_gatherings : GoodIn wsX8_gathering (wsV RX8 73 RX8 yX8_gatherings wsX8_gatherings) := goodIn_app (goodIn_of _ (by decide +kernel)) ggX8_gathering_X8_gatherings
set_option maxRecDepth 20000 in
theorem ggX8_gathering_X8_in : GoodIn wsX8_gathering wsX8_in := goodIn_r _ [29] (by decide +kernel) (by decide +kernel)
set_option maxRecDepth 20000 in
theorem gX8_gathering_X8_in : GoodIn wsX8_gathering (va_wsS RX8 42 yX8_in wsX8_in) := goodIn_app (goodIn_of _ (by decide +kernel)) ggX8_gathering_X8_in
set_option maxRecDepth 20000 in
theorem ggX8_gathering_X8_lotsIn : GoodIn wsX8_gathering wsX8_lotsIn := goodIn_r _ [33, 10, 34, 35, 36, 4, 37, 11, 12, 13, 14, 15, 16, 17, 18, 19, 20, 21, 22, 38, 39, 40, 41, 73, 74, 75, 76, 77, 78, 79, 80, 81, 82, 83, 84, 85, 86, 87, 88] (by decide +kernel) (by decide +kernel)
set_option maxRecDepth 20000 in
theorem gX8_gathering_X8_lotsIn : GoodIn wsX8_gathering (wsV RX8 211 RX8 yX8_lotsIn wsX8_lotsIn) := goodIn_app (goodIn_of _ (by decide +kernel)) ggX8_gathering_X8_lotsIn
set_option maxRecDepth 20000 in
theorem ggX8_gathering_X8_pagesIn : GoodIn wsX8_gathering wsX8_pagesIn := goodIn_r _ [45, 10, 46, 47, 48, 4, 49, 50, 51, 52, 53, 11, 12, 13, 14, 15, 16, 17, 18, 19, 20, 21, 22, 34, 35, 36, 37, 54, 55, 56, 57, 58, 59, 60, 73, 74, 75, 76, 77, 78, 79, 80, 81, 82, 83, 84, 85, 86, 87, 88] (by decide +kernel) (by decide +kernel)
set_option maxRecDepth 20000 in
theorem gX8_gathering_X8_pagesIn : GoodIn wsX8_gathering (wsV RX8 214 RX8 yX8_pagesIn wsX8_pagesIn) := goodIn_app (goodIn_of _ (by decide +kernel)) ggX8_gathering_X8_pagesIn
set_option maxRecDepth 20000 in
theorem ggX8_gathering_X8_colouredIn : GoodIn wsX8_gathering wsX8_colouredIn := goodIn_r _ [64, 65, 66, 67, 4, 68, 10, 54, 55, 56, 57, 34, 35, 36, 37, 11, 12, 13, 14, 15, 16, 17, 18, 19, 20, 21, 22, 38, 39, 40, 41, 69, 70, 71, 72, 73, 74, 75, 76, 77, 78, 79, 80, 81, 82, 83, 84, 85, 86, 87, 88] (by decide +kernel) (by decide +kernel)
set_option maxRecDepth 20000 in
theorem gX8_gathering_X8_colouredIn : GoodIn wsX8_gathering (wsV RX8 98 RX8 yX8_colouredIn wsX8_colouredIn) := goodIn_app (goodIn_of _ (by decide +kernel)) ggX8_gathering_X8_colouredIn
set_option maxRecDepth 20000 in
theorem ggX8_gathering_X8_isColoured : GoodIn wsX8_gathering wsX8_isColoured := goodIn_r _ [68, 10, 54, 55, 56, 4, 57, 34, 35, 36, 37, 11, 12, 13, 14, 15, 16, 17, 18, 19, 20, 21, 22, 38, 39, 40, 41, 69, 70, 71, 72, 73, 74, 75, 76, 77, 78, 79, 80, 81, 82, 83, 84, 85, 86, 87, 88] (by decide +kernel) (by decide +kernel)
set_option maxRecDepth 20000 in
theorem gX8_gathering_X8_isColoured : GoodIn wsX8_gathering (wsV RX8 94 RX8 yX8_isColoured wsX8_isColoured) := goodIn_app (goodIn_of _ (by decide +kernel)) ggX8_gathering_X8_isColoured
theorem dX8_gathering_0 : decode cX8_gathering 0 = .ok (.iload_n 1, 1) := by decide +kernel
theorem dX8_gathering_1 : decode cX8_gathering 1 = .ok (.i2l, 1) := by decide +kernel
theorem dX8_gathering_2 : decode cX8_gathering 2 = .ok (.lconst 0, 1) := by decide +kernel
theorem dX8_gathering_3 : decode cX8_gathering 3 = .ok (.aload_n 0, 1) := by decide +kernel
theorem dX8_gathering_4 : decode cX8_gathering 4 = .ok (.invokevirtual 73, 3) := by decide +kernel
theorem dX8_gathering_7 : decode cX8_gathering 7 = .ok (.i2l, 1) := by decide +kernel
theorem dX8_gathering_8 : decode cX8_gathering 8 = .ok (.lconst 1, 1) := by decide +kernel
theorem dX8_gathering_9 : decode cX8_gathering 9 = .ok (.lsub, 1) := by decide +kernel
theorem dX8_gathering_10 : decode cX8_gathering 10 = .ok (.invokestatic 42, 3) := by decide +kernel
theorem dX8_gathering_13 : decode cX8_gathering 13 = .ok (.ifCond .ne 5, 3) := by decide +kernel
theorem dX8_gathering_16 : decode cX8_gathering 16 = .ok (.iconst (-1), 1) := by decide +kernel
theorem dX8_gathering_17 : decode cX8_gathering 17 = .ok (.ireturn, 1) := by decide +kernel
theorem dX8_gathering_18 : decode cX8_gathering 18 = .ok (.iload_n 2, 1) := by decide +kernel
theorem dX8_gathering_19 : decode cX8_gathering 19 = .ok (.tableswitch 82 0 5 #[37, 43, 43, 59, 65, 65], 37) := by decide +kernel
theorem dX8_gathering_56 : decode cX8_gathering 56 = .ok (.aload_n 0, 1) := by decide +kernel
theorem dX8_gathering_57 : decode cX8_gathering 57 = .ok (.iload_n 1, 1) := by decide +kernel
theorem dX8_gathering_58 : decode cX8_gathering 58 = .ok (.invokevirtual 211, 3) := by decide +kernel
theorem dX8_gathering_61 : decode cX8_gathering 61 = .ok (.ireturn, 1) := by decide +kernel
theorem dX8_gathering_62 : decode cX8_gathering 62 = .ok (.aload_n 0, 1) := by decide +kernel
theorem dX8_gathering_63 : decode cX8_gathering 63 = .ok (.iload_n 1, 1) := by decide +kernel
theorem dX8_gathering_64 : decode cX8_gathering 64 = .ok (.iload_n 2, 1) := by decide +kernel
theorem dX8_gathering_65 : decode cX8_gathering 65 = .ok (.iconst 2, 1) := by decide +kernel
theorem dX8_gathering_66 : decode cX8_gathering 66 = .ok (.if_icmp .ne 7, 3) := by decide +kernel
theorem dX8_gathering_69 : decode cX8_gathering 69 = .ok (.iconst 1, 1) := by decide +kernel
theorem dX8_gathering_70 : decode cX8_gathering 70 = .ok (.goto 4, 3) := by decide +kernel
theorem dX8_gathering_73 : decode cX8_gathering 73 = .ok (.iconst 0, 1) := by decide +kernel
theorem dX8_gathering_74 : decode cX8_gathering 74 = .ok (.invokevirtual 214, 3) := by decide +kernel
theorem dX8_gathering_77 : decode cX8_gathering 77 = .ok (.ireturn, 1) := by decide +kernel
theorem dX8_gathering_78 : decode cX8_gathering 78 = .ok (.aload_n 0, 1) := by decide +kernel
theorem dX8_gathering_79 : decode cX8_gathering 79 = .ok (.iload_n 1, 1) := by decide +kernel
theorem dX8_gathering_80 : decode cX8_gathering 80 = .ok (.invokevirtual 98, 3) := by decide +kernel
theorem dX8_gathering_83 : decode cX8_gathering 83 = .ok (.ireturn, 1) := by decide +kernel
theorem dX8_gathering_84 : decode cX8_gathering 84 = .ok (.aload_n 0, 1) := by decide +kernel
theorem dX8_gathering_85 : decode cX8_gathering 85 = .ok (.iload_n 1, 1) := by decide +kernel
theorem dX8_gathering_86 : decode cX8_gathering 86 = .ok (.iload_n 2, 1) := by decide +kernel
theorem dX8_gathering_87 : decode cX8_gathering 87 = .ok (.iconst 4, 1) := by decide +kernel
theorem dX8_gathering_88 : decode cX8_gathering 88 = .ok (.isub, 1) := by decide +kernel
theorem dX8_gathering_89 : decode cX8_gathering 89 = .ok (.invokevirtual 94, 3) := by decide +kernel
theorem dX8_gathering_92 : decode cX8_gathering 92 = .ok (.ifCond .eq 7, 3) := by decide +kernel
theorem dX8_gathering_95 : decode cX8_gathering 95 = .ok (.iconst 1, 1) := by decide +kernel
theorem dX8_gathering_96 : decode cX8_gathering 96 = .ok (.goto 4, 3) := by decide +kernel
theorem dX8_gathering_99 : decode cX8_gathering 99 = .ok (.iconst 0, 1) := by decide +kernel
theorem dX8_gathering_100 : decode cX8_gathering 100 = .ok (.ireturn, 1) := by decide +kernel
theorem dX8_gathering_101 : decode cX8_gathering 101 = .ok (.bipush (-2), 2) := by decide +kernel
theorem dX8_gathering_103 : decode cX8_gathering 103 = .ok (.ireturn, 1) := by decide +kernel
set_option maxRecDepth 20000 in
theorem ggX8_ifChosen_X8_isLot : GoodIn wsX8_ifChosen wsX8_isLot := goodIn_r _ [7, 1, 8, 9, 6, 10, 82, 83, 84, 85, 86, 87, 88, 89, 90, 91, 92, 93, 94, 95, 96, 97] (by decide +kernel) (by decide +kernel)
set_option maxRecDepth 20000 in
theorem gX8_ifChosen_X8_isLot : GoodIn wsX8_ifChosen (wsV RX8 155 RX8 yX8_isLot wsX8_isLot) := goodIn_app (goodIn_of _ (by decide +kernel)) ggX8_ifChosen_X8_isLot
set_option maxRecDepth 20000 in
theorem ggX8_ifChosen_X8_isPlace : GoodIn wsX8_ifChosen wsX8_isPlace := goodIn_r _ [14, 15, 16, 17, 6, 18, 1, 19, 20, 21, 22, 8, 9, 10, 82, 83, 84, 85, 86, 87, 88, 89, 90, 91, 92, 93, 94, 95, 96, 97] (by decide +kernel) (by decide +kernel)
set_option maxRecDepth 20000 in
theorem gX8_ifChosen_X8_isPlace : GoodIn wsX8_ifChosen (wsV RX8 165 RX8 yX8_isPlace wsX8_isPlace) := goodIn_app (goodIn_of _ (by decide +kernel)) ggX8_ifChosen_X8_isPlace
set_option maxRecDepth 20000 in
theorem ggX8_ifChosen_X8_copy : GoodIn wsX8_ifChosen wsX8_copy := goodIn_r _ [25] (by decide +kernel) (by decide +kernel)
set_option maxRecDepth 20000 in
theorem gX8_ifChosen_X8_copy : GoodIn wsX8_ifChosen (va_wsS RX8 34 yX8_copy wsX8_copy) := goodIn_app (goodIn_of _ (by decide +kernel)) ggX8_ifChosen_X8_copy
set_option maxRecDepth 20000 in
theorem ggX8_ifChosen_X8_cost : GoodIn wsX8_ifChosen wsX8_cost := goodIn_r _ [29, 30, 31, 32, 6, 33, 34, 35, 36, 37, 1, 38, 39, 40, 41, 19, 20, 21, 22, 15, 16, 17, 18, 42, 43, 44, 45, 46, 47, 48, 49, 50, 51, 52, 53, 54, 55, 56, 57, 58, 59, 60, 61, 62, 63, 64, 65, 66, 67, 68, 69, 70, 71, 72, 73, 74, 75, 76, 77, 78, 79, 80, 81, 82, 83, 84, 85, 86, 87, 88, 89, 90, 91, 92, 93, 94, 95, 96, 97] (by decide +kernel) (by decide +kernel)
set_option maxRecDepth 20000 in
theorem gX8_ifChosen_X8_cost : GoodIn wsX8_ifChosen (wsV RX8 162 RX8 yX8_cost wsX8_cost) := goodIn_app (goodIn_of _ (by decide +kernel)) ggX8_ifChosen_X8_cost
theorem dX8_ifChosen_0 : decode cX8_ifChosen 0 = .ok (.aload_n 0, 1) := by decide +kernel
theorem dX8_ifChosen_1 : decode cX8_ifChosen 1 = .ok (.iload_n 1, 1) := by decide +kernel
theorem dX8_ifChosen_2 : decode cX8_ifChosen 2 = .ok (.invokevirtual 155, 3) := by decide +kernel
theorem dX8_ifChosen_5 : decode cX8_ifChosen 5 = .ok (.ifCond .ne 5, 3) := by decide +kernel
theorem dX8_ifChosen_8 : decode cX8_ifChosen 8 = .ok (.iconst (-1), 1) := by decide +kernel
theorem dX8_ifChosen_9 : decode cX8_ifChosen 9 = .ok (.ireturn, 1) := by decide +kernel
theorem dX8_ifChosen_10 : decode cX8_ifChosen 10 = .ok (.aload_n 0, 1) := by decide +kernel
theorem dX8_ifChosen_11 : decode cX8_ifChosen 11 = .ok (.iload_n 1, 1) := by decide +kernel
theorem dX8_ifChosen_12 : decode cX8_ifChosen 12 = .ok (.iload_n 3, 1) := by decide +kernel
theorem dX8_ifChosen_13 : decode cX8_ifChosen 13 = .ok (.invokevirtual 165, 3) := by decide +kernel
theorem dX8_ifChosen_16 : decode cX8_ifChosen 16 = .ok (.ifCond .ne 6, 3) := by decide +kernel
theorem dX8_ifChosen_19 : decode cX8_ifChosen 19 = .ok (.bipush (-2), 2) := by decide +kernel
theorem dX8_ifChosen_21 : decode cX8_ifChosen 21 = .ok (.ireturn, 1) := by decide +kernel
theorem dX8_ifChosen_22 : decode cX8_ifChosen 22 = .ok (.aload_n 0, 1) := by decide +kernel
theorem dX8_ifChosen_23 : decode cX8_ifChosen 23 = .ok (.getfield 7, 3) := by decide +kernel
theorem dX8_ifChosen_26 : decode cX8_ifChosen 26 = .ok (.aload_n 0, 1) := by decide +kernel
theorem dX8_ifChosen_27 : decode cX8_ifChosen 27 = .ok (.getfield 16, 3) := by decide +kernel
theorem dX8_ifChosen_30 : decode cX8_ifChosen 30 = .ok (.invokestatic 34, 3) := by decide +kernel
theorem dX8_ifChosen_33 : decode cX8_ifChosen 33 = .ok (.aload_n 0, 1) := by decide +kernel
theorem dX8_ifChosen_34 : decode cX8_ifChosen 34 = .ok (.getfield 7, 3) := by decide +kernel
theorem dX8_ifChosen_37 : decode cX8_ifChosen 37 = .ok (.bipush 30, 2) := by decide +kernel
theorem dX8_ifChosen_39 : decode cX8_ifChosen 39 = .ok (.iload_n 1, 1) := by decide +kernel
theorem dX8_ifChosen_40 : decode cX8_ifChosen 40 = .ok (.iadd, 1) := by decide +kernel
theorem dX8_ifChosen_41 : decode cX8_ifChosen 41 = .ok (.iload_n 2, 1) := by decide +kernel
theorem dX8_ifChosen_42 : decode cX8_ifChosen 42 = .ok (.ifCond .eq 7, 3) := by decide +kernel
theorem dX8_ifChosen_45 : decode cX8_ifChosen 45 = .ok (.iconst 1, 1) := by decide +kernel
theorem dX8_ifChosen_46 : decode cX8_ifChosen 46 = .ok (.goto 4, 3) := by decide +kernel
theorem dX8_ifChosen_49 : decode cX8_ifChosen 49 = .ok (.iconst 0, 1) := by decide +kernel
theorem dX8_ifChosen_50 : decode cX8_ifChosen 50 = .ok (.iastore, 1) := by decide +kernel
theorem dX8_ifChosen_51 : decode cX8_ifChosen 51 = .ok (.aload_n 0, 1) := by decide +kernel
theorem dX8_ifChosen_52 : decode cX8_ifChosen 52 = .ok (.getfield 7, 3) := by decide +kernel
theorem dX8_ifChosen_55 : decode cX8_ifChosen 55 = .ok (.bipush 42, 2) := by decide +kernel
theorem dX8_ifChosen_57 : decode cX8_ifChosen 57 = .ok (.iload_n 1, 1) := by decide +kernel
theorem dX8_ifChosen_58 : decode cX8_ifChosen 58 = .ok (.iadd, 1) := by decide +kernel
theorem dX8_ifChosen_59 : decode cX8_ifChosen 59 = .ok (.iload_n 3, 1) := by decide +kernel
theorem dX8_ifChosen_60 : decode cX8_ifChosen 60 = .ok (.iastore, 1) := by decide +kernel
theorem dX8_ifChosen_61 : decode cX8_ifChosen 61 = .ok (.aload_n 0, 1) := by decide +kernel
theorem dX8_ifChosen_62 : decode cX8_ifChosen 62 = .ok (.invokevirtual 162, 3) := by decide +kernel
theorem dX8_ifChosen_65 : decode cX8_ifChosen 65 = .ok (.istore 4, 2) := by decide +kernel
theorem dX8_ifChosen_67 : decode cX8_ifChosen 67 = .ok (.aload_n 0, 1) := by decide +kernel
theorem dX8_ifChosen_68 : decode cX8_ifChosen 68 = .ok (.getfield 16, 3) := by decide +kernel
theorem dX8_ifChosen_71 : decode cX8_ifChosen 71 = .ok (.aload_n 0, 1) := by decide +kernel
theorem dX8_ifChosen_72 : decode cX8_ifChosen 72 = .ok (.getfield 7, 3) := by decide +kernel
theorem dX8_ifChosen_75 : decode cX8_ifChosen 75 = .ok (.invokestatic 34, 3) := by decide +kernel
theorem dX8_ifChosen_78 : decode cX8_ifChosen 78 = .ok (.iload 4, 2) := by decide +kernel
theorem dX8_ifChosen_80 : decode cX8_ifChosen 80 = .ok (.ireturn, 1) := by decide +kernel
set_option maxRecDepth 20000 in
theorem ggX8_cheapest_X8_isLot : GoodIn wsX8_cheapest wsX8_isLot := goodIn_r _ [8, 2, 9, 10, 7, 11, 74, 75, 76, 77, 78, 79, 80, 81, 82, 83, 84, 85, 86, 87, 88, 89] (by decide +kernel) (by decide +kernel)
set_option maxRecDepth 20000 in
theorem gX8_cheapest_X8_isLot : GoodIn wsX8_cheapest (wsV RX8 155 RX8 yX8_isLot wsX8_isLot) := goodIn_app (goodIn_of _ (by decide +kernel)) ggX8_cheapest_X8_isLot
set_option maxRecDepth 20000 in
theorem ggX8_cheapest_X8_in : GoodIn wsX8_cheapest wsX8_in := goodIn_r _ [11] (by decide +kernel) (by decide +kernel)
set_option maxRecDepth 20000 in
theorem gX8_cheapest_X8_in : GoodIn wsX8_cheapest (va_wsS RX8 42 yX8_in wsX8_in) := goodIn_app (goodIn_of _ (by decide +kernel)) ggX8_cheapest_X8_in
set_option maxRecDepth 20000 in
theorem ggX8_cheapest_X8_leastOfAll : GoodIn wsX8_cheapest wsX8_leastOfAll := goodIn_r _ [15, 16, 17, 18, 19, 7, 20, 2, 1, 21, 22, 23, 24, 25, 26, 27, 28, 29, 30, 31, 32, 33, 34, 35, 36, 37, 38, 39, 40, 41, 42, 43, 44, 45, 46, 47, 48, 49, 50, 51, 52, 53, 54, 55, 56, 57, 58, 9, 10, 11, 59, 60, 61, 62, 63, 64, 65, 66, 74, 75, 76, 77, 78, 79, 80, 81, 82, 83, 84, 85, 86, 87, 88, 89] (by decide +kernel) (by decide +kernel)
set_option maxRecDepth 20000 in
theorem gX8_cheapest_X8_leastOfAll : GoodIn wsX8_cheapest (wsV RX8 168 RX8 yX8_leastOfAll wsX8_leastOfAll) := goodIn_app (goodIn_of _ (by decide +kernel)) ggX8_cheapest_X8_leastOfAll
set_option maxRecDepth 20000 in
theorem ggX8_cheapest_X8_copy : GoodIn wsX8_cheapest wsX8_copy := goodIn_r _ [69] (by decide +kernel) (by decide +kernel)
set_option maxRecDepth 20000 in
theorem gX8_cheapest_X8_copy : GoodIn wsX8_cheapest (va_wsS RX8 34 yX8_copy wsX8_copy) := goodIn_app (goodIn_of _ (by decide +kernel)) ggX8_cheapest_X8_copy
set_option maxRecDepth 20000 in
theorem ggX8_cheapest_X8_chooses : GoodIn wsX8_cheapest wsX8_chooses := goodIn_r _ [73, 2, 16, 49, 50, 21, 22, 7, 23, 44, 45, 46, 47, 48, 1, 32, 33, 34, 35, 36, 37, 38, 39, 40, 41, 42, 43, 51, 52, 53, 54, 55, 56, 57, 58, 9, 10, 11, 59, 60, 61, 62, 63, 64, 65, 66, 74, 75, 76, 77, 78, 79, 80, 81, 82, 83, 84, 85, 86, 87, 88, 89] (by decide +kernel) (by decide +kernel)
set_option maxRecDepth 20000 in
theorem gX8_cheapest_X8_chooses : GoodIn wsX8_cheapest (wsV RX8 171 RX8 yX8_chooses wsX8_chooses) := goodIn_app (goodIn_of _ (by decide +kernel)) ggX8_cheapest_X8_chooses
set_option maxRecDepth 20000 in
theorem ggX8_cheapest_X8_hasPlate : GoodIn wsX8_cheapest wsX8_hasPlate := goodIn_r _ [39, 2, 74, 75, 76, 77, 78, 79, 80, 81, 82, 83, 84, 85, 86, 87, 88, 89] (by decide +kernel) (by decide +kernel)
set_option maxRecDepth 20000 in
theorem gX8_cheapest_X8_hasPlate : GoodIn wsX8_cheapest (wsV RX8 50 RX8 yX8_hasPlate wsX8_hasPlate) := goodIn_app (goodIn_of _ (by decide +kernel)) ggX8_cheapest_X8_hasPlate
theorem dX8_cheapest_0 : decode cX8_cheapest 0 = .ok (.aload_n 0, 1) := by decide +kernel
theorem dX8_cheapest_1 : decode cX8_cheapest 1 = .ok (.iload_n 1, 1) := by decide +kernel
theorem dX8_cheapest_2 : decode cX8_cheapest 2 = .ok (.invokevirtual 155, 3) := by decide +kernel
theorem dX8_cheapest_5 : decode cX8_cheapest 5 = .ok (.ifCond .ne 5, 3) := by decide +kernel
theorem dX8_cheapest_8 : decode cX8_cheapest 8 = .ok (.iconst (-1), 1) := by decide +kernel
theorem dX8_cheapest_9 : decode cX8_cheapest 9 = .ok (.ireturn, 1) := by decide +kernel
theorem dX8_cheapest_10 : decode cX8_cheapest 10 = .ok (.iload_n 2, 1) := by decide +kernel
theorem dX8_cheapest_11 : decode cX8_cheapest 11 = .ok (.i2l, 1) := by decide +kernel
theorem dX8_cheapest_12 : decode cX8_cheapest 12 = .ok (.lconst 0, 1) := by decide +kernel
theorem dX8_cheapest_13 : decode cX8_cheapest 13 = .ok (.lconst 1, 1) := by decide +kernel
theorem dX8_cheapest_14 : decode cX8_cheapest 14 = .ok (.invokestatic 42, 3) := by decide +kernel
theorem dX8_cheapest_17 : decode cX8_cheapest 17 = .ok (.ifCond .ne 6, 3) := by decide +kernel
theorem dX8_cheapest_20 : decode cX8_cheapest 20 = .ok (.bipush (-2), 2) := by decide +kernel
theorem dX8_cheapest_22 : decode cX8_cheapest 22 = .ok (.ireturn, 1) := by decide +kernel
theorem dX8_cheapest_23 : decode cX8_cheapest 23 = .ok (.aload_n 0, 1) := by decide +kernel
theorem dX8_cheapest_24 : decode cX8_cheapest 24 = .ok (.invokevirtual 168, 3) := by decide +kernel
theorem dX8_cheapest_27 : decode cX8_cheapest 27 = .ok (.ldc 130, 2) := by decide +kernel
theorem dX8_cheapest_29 : decode cX8_cheapest 29 = .ok (.if_icmp .lt 6, 3) := by decide +kernel
theorem dX8_cheapest_32 : decode cX8_cheapest 32 = .ok (.bipush (-4), 2) := by decide +kernel
theorem dX8_cheapest_34 : decode cX8_cheapest 34 = .ok (.ireturn, 1) := by decide +kernel
theorem dX8_cheapest_35 : decode cX8_cheapest 35 = .ok (.aload_n 0, 1) := by decide +kernel
theorem dX8_cheapest_36 : decode cX8_cheapest 36 = .ok (.getfield 7, 3) := by decide +kernel
theorem dX8_cheapest_39 : decode cX8_cheapest 39 = .ok (.aload_n 0, 1) := by decide +kernel
theorem dX8_cheapest_40 : decode cX8_cheapest 40 = .ok (.getfield 16, 3) := by decide +kernel
theorem dX8_cheapest_43 : decode cX8_cheapest 43 = .ok (.invokestatic 34, 3) := by decide +kernel
theorem dX8_cheapest_46 : decode cX8_cheapest 46 = .ok (.aload_n 0, 1) := by decide +kernel
theorem dX8_cheapest_47 : decode cX8_cheapest 47 = .ok (.invokevirtual 171, 3) := by decide +kernel
theorem dX8_cheapest_50 : decode cX8_cheapest 50 = .ok (.iload_n 2, 1) := by decide +kernel
theorem dX8_cheapest_51 : decode cX8_cheapest 51 = .ok (.ifCond .ne 15, 3) := by decide +kernel
theorem dX8_cheapest_54 : decode cX8_cheapest 54 = .ok (.aload_n 0, 1) := by decide +kernel
theorem dX8_cheapest_55 : decode cX8_cheapest 55 = .ok (.getfield 7, 3) := by decide +kernel
theorem dX8_cheapest_58 : decode cX8_cheapest 58 = .ok (.bipush 30, 2) := by decide +kernel
theorem dX8_cheapest_60 : decode cX8_cheapest 60 = .ok (.iload_n 1, 1) := by decide +kernel
theorem dX8_cheapest_61 : decode cX8_cheapest 61 = .ok (.iadd, 1) := by decide +kernel
theorem dX8_cheapest_62 : decode cX8_cheapest 62 = .ok (.iaload, 1) := by decide +kernel
theorem dX8_cheapest_63 : decode cX8_cheapest 63 = .ok (.goto 25, 3) := by decide +kernel
theorem dX8_cheapest_66 : decode cX8_cheapest 66 = .ok (.aload_n 0, 1) := by decide +kernel
theorem dX8_cheapest_67 : decode cX8_cheapest 67 = .ok (.iload_n 1, 1) := by decide +kernel
theorem dX8_cheapest_68 : decode cX8_cheapest 68 = .ok (.invokevirtual 50, 3) := by decide +kernel
theorem dX8_cheapest_71 : decode cX8_cheapest 71 = .ok (.ifCond .eq 15, 3) := by decide +kernel
theorem dX8_cheapest_74 : decode cX8_cheapest 74 = .ok (.aload_n 0, 1) := by decide +kernel
theorem dX8_cheapest_75 : decode cX8_cheapest 75 = .ok (.getfield 7, 3) := by decide +kernel
theorem dX8_cheapest_78 : decode cX8_cheapest 78 = .ok (.bipush 42, 2) := by decide +kernel
theorem dX8_cheapest_80 : decode cX8_cheapest 80 = .ok (.iload_n 1, 1) := by decide +kernel
theorem dX8_cheapest_81 : decode cX8_cheapest 81 = .ok (.iadd, 1) := by decide +kernel
theorem dX8_cheapest_82 : decode cX8_cheapest 82 = .ok (.iaload, 1) := by decide +kernel
theorem dX8_cheapest_83 : decode cX8_cheapest 83 = .ok (.goto 5, 3) := by decide +kernel
theorem dX8_cheapest_86 : decode cX8_cheapest 86 = .ok (.bipush (-5), 2) := by decide +kernel
theorem dX8_cheapest_88 : decode cX8_cheapest 88 = .ok (.istore_n 3, 1) := by decide +kernel
theorem dX8_cheapest_89 : decode cX8_cheapest 89 = .ok (.aload_n 0, 1) := by decide +kernel
theorem dX8_cheapest_90 : decode cX8_cheapest 90 = .ok (.getfield 16, 3) := by decide +kernel
theorem dX8_cheapest_93 : decode cX8_cheapest 93 = .ok (.aload_n 0, 1) := by decide +kernel
theorem dX8_cheapest_94 : decode cX8_cheapest 94 = .ok (.getfield 7, 3) := by decide +kernel
theorem dX8_cheapest_97 : decode cX8_cheapest 97 = .ok (.invokestatic 34, 3) := by decide +kernel
theorem dX8_cheapest_100 : decode cX8_cheapest 100 = .ok (.iload_n 3, 1) := by decide +kernel
theorem dX8_cheapest_101 : decode cX8_cheapest 101 = .ok (.ireturn, 1) := by decide +kernel
set_option maxRecDepth 20000 in
theorem ggX8_leastCost_X8_isSetting : GoodIn wsX8_leastCost wsX8_isSetting := goodIn_r _ [6, 7, 8, 9, 10, 5, 11] (by decide +kernel) (by decide +kernel)
set_option maxRecDepth 20000 in
theorem gX8_leastCost_X8_isSetting : GoodIn wsX8_leastCost (va_wsS RX8 184 yX8_isSetting wsX8_isSetting) := goodIn_app (goodIn_of _ (by decide +kernel)) ggX8_leastCost_X8_isSetting
set_option maxRecDepth 20000 in
theorem ggX8_leastCost_X8_leastOfAll : GoodIn wsX8_leastCost wsX8_leastOfAll := goodIn_r _ [15, 16, 17, 18, 19, 5, 20, 1, 2, 21, 22, 23, 24, 25, 26, 27, 28, 29, 30, 31, 32, 33, 34, 35, 36, 37, 38, 39, 40, 41, 42, 43, 44, 45, 46, 47, 48, 49, 50, 51, 52, 53, 54, 55, 56, 57, 58, 9, 10, 11, 59, 60, 61, 62, 63, 64, 65, 66, 67, 68, 69, 70, 71, 72, 73, 74, 75, 76, 77, 78, 79, 80, 81, 82] (by decide +kernel) (by decide +kernel)
set_option maxRecDepth 20000 in
theorem gX8_leastCost_X8_leastOfAll : GoodIn wsX8_leastCost (wsV RX8 168 RX8 yX8_leastOfAll wsX8_leastOfAll) := goodIn_app (goodIn_of _ (by decide +kernel)) ggX8_leastCost_X8_leastOfAll
theorem dX8_leastCost_0 : decode cX8_leastCost 0 = .ok (.iconst 0, 1) := by decide +kernel
theorem dX8_leastCost_1 : decode cX8_leastCost 1 = .ok (.iload_n 1, 1) := by decide +kernel
theorem dX8_leastCost_2 : decode cX8_leastCost 2 = .ok (.invokestatic 184, 3) := by decide +kernel
theorem dX8_leastCost_5 : decode cX8_leastCost 5 = .ok (.ifCond .ne 6, 3) := by decide +kernel
theorem dX8_leastCost_8 : decode cX8_leastCost 8 = .ok (.bipush (-2), 2) := by decide +kernel
theorem dX8_leastCost_10 : decode cX8_leastCost 10 = .ok (.ireturn, 1) := by decide +kernel
theorem dX8_leastCost_11 : decode cX8_leastCost 11 = .ok (.aload_n 0, 1) := by decide +kernel
theorem dX8_leastCost_12 : decode cX8_leastCost 12 = .ok (.getfield 7, 3) := by decide +kernel
theorem dX8_leastCost_15 : decode cX8_leastCost 15 = .ok (.iconst 0, 1) := by decide +kernel
theorem dX8_leastCost_16 : decode cX8_leastCost 16 = .ok (.iaload, 1) := by decide +kernel
theorem dX8_leastCost_17 : decode cX8_leastCost 17 = .ok (.istore_n 2, 1) := by decide +kernel
theorem dX8_leastCost_18 : decode cX8_leastCost 18 = .ok (.aload_n 0, 1) := by decide +kernel
theorem dX8_leastCost_19 : decode cX8_leastCost 19 = .ok (.getfield 7, 3) := by decide +kernel
theorem dX8_leastCost_22 : decode cX8_leastCost 22 = .ok (.iconst 0, 1) := by decide +kernel
theorem dX8_leastCost_23 : decode cX8_leastCost 23 = .ok (.iload_n 1, 1) := by decide +kernel
theorem dX8_leastCost_24 : decode cX8_leastCost 24 = .ok (.iastore, 1) := by decide +kernel
theorem dX8_leastCost_25 : decode cX8_leastCost 25 = .ok (.aload_n 0, 1) := by decide +kernel
theorem dX8_leastCost_26 : decode cX8_leastCost 26 = .ok (.invokevirtual 168, 3) := by decide +kernel
theorem dX8_leastCost_29 : decode cX8_leastCost 29 = .ok (.istore_n 3, 1) := by decide +kernel
theorem dX8_leastCost_30 : decode cX8_leastCost 30 = .ok (.aload_n 0, 1) := by decide +kernel
theorem dX8_leastCost_31 : decode cX8_leastCost 31 = .ok (.getfield 7, 3) := by decide +kernel
theorem dX8_leastCost_34 : decode cX8_leastCost 34 = .ok (.iconst 0, 1) := by decide +kernel
theorem dX8_leastCost_35 : decode cX8_leastCost 35 = .ok (.iload_n 2, 1) := by decide +kernel
theorem dX8_leastCost_36 : decode cX8_leastCost 36 = .ok (.iastore, 1) := by decide +kernel
theorem dX8_leastCost_37 : decode cX8_leastCost 37 = .ok (.iload_n 3, 1) := by decide +kernel
theorem dX8_leastCost_38 : decode cX8_leastCost 38 = .ok (.ldc 130, 2) := by decide +kernel
theorem dX8_leastCost_40 : decode cX8_leastCost 40 = .ok (.if_icmp .lt 8, 3) := by decide +kernel
theorem dX8_leastCost_43 : decode cX8_leastCost 43 = .ok (.bipush (-4), 2) := by decide +kernel
theorem dX8_leastCost_45 : decode cX8_leastCost 45 = .ok (.goto 4, 3) := by decide +kernel
theorem dX8_leastCost_48 : decode cX8_leastCost 48 = .ok (.iload_n 3, 1) := by decide +kernel
theorem dX8_leastCost_49 : decode cX8_leastCost 49 = .ok (.ireturn, 1) := by decide +kernel
set_option maxRecDepth 20000 in
theorem ggX8_count_X8_plates : GoodIn wsX8_count wsX8_plates := goodIn_r _ [8, 1, 99, 100, 101, 102, 103, 104, 105, 106, 107, 108, 109, 110, 111, 112, 113, 114] (by decide +kernel) (by decide +kernel)
set_option maxRecDepth 20000 in
theorem gX8_count_X8_plates : GoodIn wsX8_count (wsV RX8 218 RX8 yX8_plates wsX8_plates) := goodIn_app (goodIn_of _ (by decide +kernel)) ggX8_count_X8_plates
set_option maxRecDepth 20000 in
theorem ggX8_count_X8_platesThatFace : GoodIn wsX8_count wsX8_platesThatFace := goodIn_r _ [12, 1, 13, 14, 15, 7, 16, 17, 18, 19, 20, 21, 22, 23, 24, 25, 26, 27, 28, 29, 30, 31, 32, 33, 34, 35, 36, 37, 38, 39, 40, 41, 42, 43, 44, 45, 46, 47, 48, 49, 50, 51, 52, 53, 54, 55, 56, 57, 58, 59, 60, 61, 62, 63, 64, 65, 66, 99, 100, 101, 102, 103, 104, 105, 106, 107, 108, 109, 110, 111, 112, 113, 114] (by decide +kernel) (by decide +kernel)
set_option maxRecDepth 20000 in
theorem gX8_count_X8_platesThatFace : GoodIn wsX8_count (wsV RX8 221 RX8 yX8_platesThatFace wsX8_platesThatFace) := goodIn_app (goodIn_of _ (by decide +kernel)) ggX8_count_X8_platesThatFace
set_option maxRecDepth 20000 in
theorem ggX8_count_X8_pagesOfLots : GoodIn wsX8_count wsX8_pagesOfLots := goodIn_r _ [48, 1, 29, 30, 31, 7, 32, 33, 34, 35, 36, 13, 14, 15, 16, 99, 100, 101, 102, 103, 104, 105, 106, 107, 108, 109, 110, 111, 112, 113, 114] (by decide +kernel) (by decide +kernel)
set_option maxRecDepth 20000 in
theorem gX8_count_X8_pagesOfLots : GoodIn wsX8_count (wsV RX8 57 RX8 yX8_pagesOfLots wsX8_pagesOfLots) := goodIn_app (goodIn_of _ (by decide +kernel)) ggX8_count_X8_pagesOfLots
set_option maxRecDepth 20000 in
theorem ggX8_count_X8_gatherings : GoodIn wsX8_count wsX8_gatherings := goodIn_r _ [44, 45, 46, 47, 7, 48, 1, 29, 30, 31, 32, 33, 34, 35, 36, 13, 14, 15, 16, 49, 50, 51, 52, 99, 100, 101, 102, 103, 104, 105, 106, 107, 108, 109, 110, 111, 112, 113, 114] (by decide +kernel) (by decide +kernel)
set_option maxRecDepth 20000 in
theorem gX8_count_X8_gatherings : GoodIn wsX8_count (wsV RX8 73 RX8 yX8_gatherings wsX8_gatherings) := goodIn_app (goodIn_of _ (by decide +kernel)) ggX8_count_X8_gatherings
set_option maxRecDepth 20000 in
theorem ggX8_count_X8_colouredSides : GoodIn wsX8_count wsX8_colouredSides := goodIn_r _ [70, 41, 42, 43, 7, 44, 45, 46, 47, 48, 1, 29, 30, 31, 32, 33, 34, 35, 36, 13, 14, 15, 16, 49, 50, 51, 52, 71, 72, 73, 74, 75, 76, 77, 78, 21, 22, 23, 24, 25, 26, 27, 28, 79, 80, 81, 82, 83, 84, 85, 86, 99, 100, 101, 102, 103, 104, 105, 106, 107, 108, 109, 110, 111, 112, 113, 114] (by decide +kernel) (by decide +kernel)
set_option maxRecDepth 20000 in
theorem gX8_count_X8_colouredSides : GoodIn wsX8_count (wsV RX8 101 RX8 yX8_colouredSides wsX8_colouredSides) := goodIn_app (goodIn_of _ (by decide +kernel)) ggX8_count_X8_colouredSides
set_option maxRecDepth 20000 in
theorem ggX8_count_X8_blanksPut : GoodIn wsX8_count wsX8_blanksPut := goodIn_r _ [90, 1, 99, 100, 101, 102, 103, 104, 105, 106, 107, 108, 109, 110, 111, 112, 113, 114] (by decide +kernel) (by decide +kernel)
set_option maxRecDepth 20000 in
theorem gX8_count_X8_blanksPut : GoodIn wsX8_count (wsV RX8 104 RX8 yX8_blanksPut wsX8_blanksPut) := goodIn_app (goodIn_of _ (by decide +kernel)) ggX8_count_X8_blanksPut
set_option maxRecDepth 20000 in
theorem ggX8_count_X8_cost : GoodIn wsX8_count wsX8_cost := goodIn_r _ [94, 41, 42, 43, 7, 44, 45, 46, 47, 48, 1, 29, 30, 31, 32, 33, 34, 35, 36, 13, 14, 15, 16, 49, 50, 51, 52, 67, 68, 69, 70, 71, 72, 73, 74, 75, 76, 77, 78, 21, 22, 23, 24, 25, 26, 27, 28, 79, 80, 81, 82, 83, 84, 85, 86, 87, 88, 89, 90, 95, 96, 97, 98, 99, 100, 101, 102, 103, 104, 105, 106, 107, 108, 109, 110, 111, 112, 113, 114] (by decide +kernel) (by decide +kernel)
set_option maxRecDepth 20000 in
theorem gX8_count_X8_cost : GoodIn wsX8_count (wsV RX8 162 RX8 yX8_cost wsX8_cost) := goodIn_app (goodIn_of _ (by decide +kernel)) ggX8_count_X8_cost
theorem dX8_count_0 : decode cX8_count 0 = .ok (.iload_n 1, 1) := by decide +kernel
theorem dX8_count_1 : decode cX8_count 1 = .ok (.tableswitch 158 0 16 #[83, 90, 90, 96, 101, 106, 111, 123, 128, 133, 138, 138, 138, 138, 138, 148, 153], 83) := by decide +kernel
theorem dX8_count_84 : decode cX8_count 84 = .ok (.aload_n 0, 1) := by decide +kernel
theorem dX8_count_85 : decode cX8_count 85 = .ok (.getfield 7, 3) := by decide +kernel
theorem dX8_count_88 : decode cX8_count 88 = .ok (.iconst 5, 1) := by decide +kernel
theorem dX8_count_89 : decode cX8_count 89 = .ok (.iaload, 1) := by decide +kernel
theorem dX8_count_90 : decode cX8_count 90 = .ok (.ireturn, 1) := by decide +kernel
theorem dX8_count_91 : decode cX8_count 91 = .ok (.aload_n 0, 1) := by decide +kernel
theorem dX8_count_92 : decode cX8_count 92 = .ok (.iload_n 1, 1) := by decide +kernel
theorem dX8_count_93 : decode cX8_count 93 = .ok (.invokevirtual 218, 3) := by decide +kernel
theorem dX8_count_96 : decode cX8_count 96 = .ok (.ireturn, 1) := by decide +kernel
theorem dX8_count_97 : decode cX8_count 97 = .ok (.aload_n 0, 1) := by decide +kernel
theorem dX8_count_98 : decode cX8_count 98 = .ok (.invokevirtual 221, 3) := by decide +kernel
theorem dX8_count_101 : decode cX8_count 101 = .ok (.ireturn, 1) := by decide +kernel
theorem dX8_count_102 : decode cX8_count 102 = .ok (.aload_n 0, 1) := by decide +kernel
theorem dX8_count_103 : decode cX8_count 103 = .ok (.invokevirtual 57, 3) := by decide +kernel
theorem dX8_count_106 : decode cX8_count 106 = .ok (.ireturn, 1) := by decide +kernel
theorem dX8_count_107 : decode cX8_count 107 = .ok (.aload_n 0, 1) := by decide +kernel
theorem dX8_count_108 : decode cX8_count 108 = .ok (.invokevirtual 73, 3) := by decide +kernel
theorem dX8_count_111 : decode cX8_count 111 = .ok (.ireturn, 1) := by decide +kernel
theorem dX8_count_112 : decode cX8_count 112 = .ok (.aload_n 0, 1) := by decide +kernel
theorem dX8_count_113 : decode cX8_count 113 = .ok (.invokevirtual 73, 3) := by decide +kernel
theorem dX8_count_116 : decode cX8_count 116 = .ok (.aload_n 0, 1) := by decide +kernel
theorem dX8_count_117 : decode cX8_count 117 = .ok (.getfield 7, 3) := by decide +kernel
theorem dX8_count_120 : decode cX8_count 120 = .ok (.iconst 0, 1) := by decide +kernel
theorem dX8_count_121 : decode cX8_count 121 = .ok (.iaload, 1) := by decide +kernel
theorem dX8_count_122 : decode cX8_count 122 = .ok (.imul, 1) := by decide +kernel
theorem dX8_count_123 : decode cX8_count 123 = .ok (.ireturn, 1) := by decide +kernel
theorem dX8_count_124 : decode cX8_count 124 = .ok (.aload_n 0, 1) := by decide +kernel
theorem dX8_count_125 : decode cX8_count 125 = .ok (.invokevirtual 101, 3) := by decide +kernel
theorem dX8_count_128 : decode cX8_count 128 = .ok (.ireturn, 1) := by decide +kernel
theorem dX8_count_129 : decode cX8_count 129 = .ok (.aload_n 0, 1) := by decide +kernel
theorem dX8_count_130 : decode cX8_count 130 = .ok (.invokevirtual 104, 3) := by decide +kernel
theorem dX8_count_133 : decode cX8_count 133 = .ok (.ireturn, 1) := by decide +kernel
theorem dX8_count_134 : decode cX8_count 134 = .ok (.aload_n 0, 1) := by decide +kernel
theorem dX8_count_135 : decode cX8_count 135 = .ok (.invokevirtual 162, 3) := by decide +kernel
theorem dX8_count_138 : decode cX8_count 138 = .ok (.ireturn, 1) := by decide +kernel
theorem dX8_count_139 : decode cX8_count 139 = .ok (.aload_n 0, 1) := by decide +kernel
theorem dX8_count_140 : decode cX8_count 140 = .ok (.getfield 7, 3) := by decide +kernel
theorem dX8_count_143 : decode cX8_count 143 = .ok (.iload_n 1, 1) := by decide +kernel
theorem dX8_count_144 : decode cX8_count 144 = .ok (.bipush 10, 2) := by decide +kernel
theorem dX8_count_146 : decode cX8_count 146 = .ok (.isub, 1) := by decide +kernel
theorem dX8_count_147 : decode cX8_count 147 = .ok (.iaload, 1) := by decide +kernel
theorem dX8_count_148 : decode cX8_count 148 = .ok (.ireturn, 1) := by decide +kernel
theorem dX8_count_149 : decode cX8_count 149 = .ok (.aload_n 0, 1) := by decide +kernel
theorem dX8_count_150 : decode cX8_count 150 = .ok (.getfield 38, 3) := by decide +kernel
theorem dX8_count_153 : decode cX8_count 153 = .ok (.ireturn, 1) := by decide +kernel
theorem dX8_count_154 : decode cX8_count 154 = .ok (.aload_n 0, 1) := by decide +kernel
theorem dX8_count_155 : decode cX8_count 155 = .ok (.getfield 187, 3) := by decide +kernel
theorem dX8_count_158 : decode cX8_count 158 = .ok (.ireturn, 1) := by decide +kernel
theorem dX8_count_159 : decode cX8_count 159 = .ok (.bipush (-2), 2) := by decide +kernel
theorem dX8_count_161 : decode cX8_count 161 = .ok (.ireturn, 1) := by decide +kernel
theorem dJ9_min_7cf53_0 : decode cJ9_min_7cf53 0 = .ok (.iload_n 0, 1) := by decide +kernel
theorem dJ9_min_7cf53_1 : decode cJ9_min_7cf53 1 = .ok (.iload_n 1, 1) := by decide +kernel
theorem dJ9_min_7cf53_2 : decode cJ9_min_7cf53 2 = .ok (.if_icmp .gt 7, 3) := by decide +kernel
theorem dJ9_min_7cf53_5 : decode cJ9_min_7cf53 5 = .ok (.iload_n 0, 1) := by decide +kernel
theorem dJ9_min_7cf53_6 : decode cJ9_min_7cf53 6 = .ok (.goto 4, 3) := by decide +kernel
theorem dJ9_min_7cf53_9 : decode cJ9_min_7cf53 9 = .ok (.iload_n 1, 1) := by decide +kernel
theorem dJ9_min_7cf53_10 : decode cJ9_min_7cf53 10 = .ok (.ireturn, 1) := by decide +kernel
