theorem dX7_lot_137 : decode cX7_lot 137 = .ok (.iload_n 1, 1) := by decide +kernel
theorem dX7_lot_138 : decode cX7_lot 138 = .ok (.invokevirtual 184, 3) := by decide +kernel
theorem dX7_lot_141 : decode cX7_lot 141 = .ok (.ireturn, 1) := by decide +kernel
theorem dX7_lot_142 : decode cX7_lot 142 = .ok (.iload_n 3, 1) := by decide +kernel
theorem dX7_lot_143 : decode cX7_lot 143 = .ok (.ifCond .eq 14, 3) := by decide +kernel
theorem dX7_lot_146 : decode cX7_lot 146 = .ok (.aload_n 0, 1) := by decide +kernel
theorem dX7_lot_147 : decode cX7_lot 147 = .ok (.getfield 50, 3) := by decide +kernel
theorem dX7_lot_150 : decode cX7_lot 150 = .ok (.iload_n 1, 1) := by decide +kernel
theorem dX7_lot_151 : decode cX7_lot 151 = .ok (.invokevirtual 187, 3) := by decide +kernel
theorem dX7_lot_154 : decode cX7_lot 154 = .ok (.goto 5, 3) := by decide +kernel
theorem dX7_lot_157 : decode cX7_lot 157 = .ok (.bipush (-5), 2) := by decide +kernel
theorem dX7_lot_159 : decode cX7_lot 159 = .ok (.ireturn, 1) := by decide +kernel
theorem dX7_lot_160 : decode cX7_lot 160 = .ok (.aload_n 0, 1) := by decide +kernel
theorem dX7_lot_161 : decode cX7_lot 161 = .ok (.getfield 50, 3) := by decide +kernel
theorem dX7_lot_164 : decode cX7_lot 164 = .ok (.iload_n 1, 1) := by decide +kernel
theorem dX7_lot_165 : decode cX7_lot 165 = .ok (.invokevirtual 190, 3) := by decide +kernel
theorem dX7_lot_168 : decode cX7_lot 168 = .ok (.ifCond .ne 7, 3) := by decide +kernel
theorem dX7_lot_171 : decode cX7_lot 171 = .ok (.iconst 1, 1) := by decide +kernel
theorem dX7_lot_172 : decode cX7_lot 172 = .ok (.goto 4, 3) := by decide +kernel
theorem dX7_lot_175 : decode cX7_lot 175 = .ok (.iconst 0, 1) := by decide +kernel
theorem dX7_lot_176 : decode cX7_lot 176 = .ok (.ireturn, 1) := by decide +kernel
theorem dX7_lot_177 : decode cX7_lot 177 = .ok (.aload_n 0, 1) := by decide +kernel
theorem dX7_lot_178 : decode cX7_lot 178 = .ok (.getfield 50, 3) := by decide +kernel
theorem dX7_lot_181 : decode cX7_lot 181 = .ok (.iload_n 1, 1) := by decide +kernel
theorem dX7_lot_182 : decode cX7_lot 182 = .ok (.invokevirtual 190, 3) := by decide +kernel
theorem dX7_lot_185 : decode cX7_lot 185 = .ok (.ireturn, 1) := by decide +kernel
theorem dX7_lot_186 : decode cX7_lot 186 = .ok (.bipush (-2), 2) := by decide +kernel
theorem dX7_lot_188 : decode cX7_lot 188 = .ok (.ireturn, 1) := by decide +kernel
set_option maxRecDepth 20000 in
theorem ggX7_page_X2_lay : GoodIn wsX7_page wsX2_lay := goodIn_r _ [7, 8, 9, 10, 11, 12, 13, 14, 15, 16, 17, 18, 19, 20, 21, 22, 23, 24, 25, 26, 27, 28, 29, 6, 30, 31, 32, 33, 34, 35, 36, 37, 38, 39, 40, 41, 42, 43, 44, 45, 46, 47, 48, 49, 50, 51, 52, 53, 54, 55, 56, 57, 58, 59, 60, 61, 62, 63, 64, 98, 99, 100, 101, 102, 103, 104, 105, 106] (by decide +kernel) (by decide +kernel)
set_option maxRecDepth 20000 in
theorem gX7_page_X2_lay : GoodIn wsX7_page (wsV RX7 181 RX2 yX2_lay wsX2_lay) := goodIn_app (goodIn_of _ (by decide +kernel)) ggX7_page_X2_lay
set_option maxRecDepth 20000 in
theorem ggX7_page_X2_hasPage : GoodIn wsX7_page wsX2_hasPage := goodIn_r _ [68, 9, 98, 99, 100, 101, 102, 103, 104] (by decide +kernel) (by decide +kernel)
set_option maxRecDepth 20000 in
theorem gX7_page_X2_hasPage : GoodIn wsX7_page (wsV RX7 193 RX2 yX2_hasPage wsX2_hasPage) := goodIn_app (goodIn_of _ (by decide +kernel)) ggX7_page_X2_hasPage
set_option maxRecDepth 20000 in
theorem ggX7_page_X2_owner : GoodIn wsX7_page wsX2_owner := goodIn_r _ [72, 41, 73, 18, 19, 20, 21, 22, 98, 99, 100, 101, 102, 103, 104, 106] (by decide +kernel) (by decide +kernel)
set_option maxRecDepth 20000 in
theorem gX7_page_X2_owner : GoodIn wsX7_page (wsV RX7 196 RX2 yX2_owner wsX2_owner) := goodIn_app (goodIn_of _ (by decide +kernel)) ggX7_page_X2_owner
set_option maxRecDepth 20000 in
theorem ggX7_page_X2_kind : GoodIn wsX7_page wsX2_kind := goodIn_r _ [77, 42, 73, 18, 19, 20, 21, 22, 98, 99, 100, 101, 102, 103, 104, 106] (by decide +kernel) (by decide +kernel)
set_option maxRecDepth 20000 in
theorem gX7_page_X2_kind : GoodIn wsX7_page (wsV RX7 199 RX2 yX2_kind wsX2_kind) := goodIn_app (goodIn_of _ (by decide +kernel)) ggX7_page_X2_kind
set_option maxRecDepth 20000 in
theorem ggX7_page_X2_gatheringOf : GoodIn wsX7_page wsX2_gatheringOf := goodIn_r _ [81, 8, 63, 60, 64, 98, 99, 100, 101, 102, 103, 104] (by decide +kernel) (by decide +kernel)
set_option maxRecDepth 20000 in
theorem gX7_page_X2_gatheringOf : GoodIn wsX7_page (wsV RX7 202 RX2 yX2_gatheringOf wsX2_gatheringOf) := goodIn_app (goodIn_of _ (by decide +kernel)) ggX7_page_X2_gatheringOf
set_option maxRecDepth 20000 in
theorem ggX7_page_X7_sideOfPage : GoodIn wsX7_page wsX7_sideOfPage := goodIn_r _ [84] (by decide +kernel) (by decide +kernel)
set_option maxRecDepth 20000 in
theorem gX7_page_X7_sideOfPage : GoodIn wsX7_page (va_wsS RX7 205 yX7_sideOfPage wsX7_sideOfPage) := goodIn_app (goodIn_of _ (by decide +kernel)) ggX7_page_X7_sideOfPage
set_option maxRecDepth 20000 in
theorem ggX7_page_X2_otherPage : GoodIn wsX7_page wsX2_otherPage := goodIn_r _ [88, 9, 98, 99, 100, 101, 102, 103, 104] (by decide +kernel) (by decide +kernel)
set_option maxRecDepth 20000 in
theorem gX7_page_X2_otherPage : GoodIn wsX7_page (wsV RX7 208 RX2 yX2_otherPage wsX2_otherPage) := goodIn_app (goodIn_of _ (by decide +kernel)) ggX7_page_X2_otherPage
theorem dX7_page_0 : decode cX7_page 0 = .ok (.aload_n 0, 1) := by decide +kernel
theorem dX7_page_1 : decode cX7_page 1 = .ok (.getfield 50, 3) := by decide +kernel
theorem dX7_page_4 : decode cX7_page 4 = .ok (.aload_n 0, 1) := by decide +kernel
theorem dX7_page_5 : decode cX7_page 5 = .ok (.getfield 10, 3) := by decide +kernel
theorem dX7_page_8 : decode cX7_page 8 = .ok (.invokevirtual 181, 3) := by decide +kernel
theorem dX7_page_11 : decode cX7_page 11 = .ok (.aload_n 0, 1) := by decide +kernel
theorem dX7_page_12 : decode cX7_page 12 = .ok (.getfield 50, 3) := by decide +kernel
theorem dX7_page_15 : decode cX7_page 15 = .ok (.iload_n 1, 1) := by decide +kernel
theorem dX7_page_16 : decode cX7_page 16 = .ok (.invokevirtual 193, 3) := by decide +kernel
theorem dX7_page_19 : decode cX7_page 19 = .ok (.ifCond .ne 5, 3) := by decide +kernel
theorem dX7_page_22 : decode cX7_page 22 = .ok (.iconst (-1), 1) := by decide +kernel
theorem dX7_page_23 : decode cX7_page 23 = .ok (.ireturn, 1) := by decide +kernel
theorem dX7_page_24 : decode cX7_page 24 = .ok (.iload_n 2, 1) := by decide +kernel
theorem dX7_page_25 : decode cX7_page 25 = .ok (.tableswitch 76 0 4 #[35, 44, 53, 62, 67], 35) := by decide +kernel
theorem dX7_page_60 : decode cX7_page 60 = .ok (.aload_n 0, 1) := by decide +kernel
theorem dX7_page_61 : decode cX7_page 61 = .ok (.getfield 50, 3) := by decide +kernel
theorem dX7_page_64 : decode cX7_page 64 = .ok (.iload_n 1, 1) := by decide +kernel
theorem dX7_page_65 : decode cX7_page 65 = .ok (.invokevirtual 196, 3) := by decide +kernel
theorem dX7_page_68 : decode cX7_page 68 = .ok (.ireturn, 1) := by decide +kernel
theorem dX7_page_69 : decode cX7_page 69 = .ok (.aload_n 0, 1) := by decide +kernel
theorem dX7_page_70 : decode cX7_page 70 = .ok (.getfield 50, 3) := by decide +kernel
theorem dX7_page_73 : decode cX7_page 73 = .ok (.iload_n 1, 1) := by decide +kernel
theorem dX7_page_74 : decode cX7_page 74 = .ok (.invokevirtual 199, 3) := by decide +kernel
theorem dX7_page_77 : decode cX7_page 77 = .ok (.ireturn, 1) := by decide +kernel
theorem dX7_page_78 : decode cX7_page 78 = .ok (.aload_n 0, 1) := by decide +kernel
theorem dX7_page_79 : decode cX7_page 79 = .ok (.getfield 50, 3) := by decide +kernel
theorem dX7_page_82 : decode cX7_page 82 = .ok (.iload_n 1, 1) := by decide +kernel
theorem dX7_page_83 : decode cX7_page 83 = .ok (.invokevirtual 202, 3) := by decide +kernel
theorem dX7_page_86 : decode cX7_page 86 = .ok (.ireturn, 1) := by decide +kernel
theorem dX7_page_87 : decode cX7_page 87 = .ok (.iload_n 1, 1) := by decide +kernel
theorem dX7_page_88 : decode cX7_page 88 = .ok (.invokestatic 205, 3) := by decide +kernel
theorem dX7_page_91 : decode cX7_page 91 = .ok (.ireturn, 1) := by decide +kernel
theorem dX7_page_92 : decode cX7_page 92 = .ok (.aload_n 0, 1) := by decide +kernel
theorem dX7_page_93 : decode cX7_page 93 = .ok (.getfield 50, 3) := by decide +kernel
theorem dX7_page_96 : decode cX7_page 96 = .ok (.iload_n 1, 1) := by decide +kernel
theorem dX7_page_97 : decode cX7_page 97 = .ok (.invokevirtual 208, 3) := by decide +kernel
theorem dX7_page_100 : decode cX7_page 100 = .ok (.ireturn, 1) := by decide +kernel
theorem dX7_page_101 : decode cX7_page 101 = .ok (.bipush (-2), 2) := by decide +kernel
theorem dX7_page_103 : decode cX7_page 103 = .ok (.ireturn, 1) := by decide +kernel
set_option maxRecDepth 20000 in
theorem ggX7_gathering_X2_lay : GoodIn wsX7_gathering wsX2_lay := goodIn_r _ [7, 8, 9, 10, 11, 12, 13, 14, 15, 16, 17, 18, 19, 20, 21, 22, 23, 24, 25, 26, 27, 28, 29, 6, 30, 31, 32, 33, 34, 35, 36, 37, 38, 39, 40, 41, 42, 43, 44, 45, 46, 47, 48, 49, 50, 51, 52, 53, 54, 55, 56, 57, 58, 59, 60, 61, 62, 63, 64, 113, 114, 115, 116, 117, 118, 119, 120, 121] (by decide +kernel) (by decide +kernel)
set_option maxRecDepth 20000 in
theorem gX7_gathering_X2_lay : GoodIn wsX7_gathering (wsV RX7 181 RX2 yX2_lay wsX2_lay) := goodIn_app (goodIn_of _ (by decide +kernel)) ggX7_gathering_X2_lay
set_option maxRecDepth 20000 in
theorem ggX7_gathering_X2_gatherings : GoodIn wsX7_gathering wsX2_gatherings := goodIn_r _ [68, 10, 113, 114, 115, 116, 117, 118, 119] (by decide +kernel) (by decide +kernel)
set_option maxRecDepth 20000 in
theorem gX7_gathering_X2_gatherings : GoodIn wsX7_gathering (wsV RX7 211 RX2 yX2_gatherings wsX2_gatherings) := goodIn_app (goodIn_of _ (by decide +kernel)) ggX7_gathering_X2_gatherings
set_option maxRecDepth 20000 in
theorem ggX7_gathering_X2_lotsIn : GoodIn wsX7_gathering wsX2_lotsIn := goodIn_r _ [72, 8, 73, 74, 75, 6, 76, 41, 77, 18, 19, 20, 21, 22, 113, 114, 115, 116, 117, 118, 119, 121] (by decide +kernel) (by decide +kernel)
set_option maxRecDepth 20000 in
theorem gX7_gathering_X2_lotsIn : GoodIn wsX7_gathering (wsV RX7 214 RX2 yX2_lotsIn wsX2_lotsIn) := goodIn_app (goodIn_of _ (by decide +kernel)) ggX7_gathering_X2_lotsIn
set_option maxRecDepth 20000 in
theorem ggX7_gathering_X2_platesIn : GoodIn wsX7_gathering wsX2_platesIn := goodIn_r _ [81, 8, 82, 83, 84, 6, 85, 86, 87, 88, 89, 90, 91, 92, 93, 42, 77, 18, 19, 20, 21, 22, 113, 114, 115, 116, 117, 118, 119, 121] (by decide +kernel) (by decide +kernel)
set_option maxRecDepth 20000 in
theorem gX7_gathering_X2_platesIn : GoodIn wsX7_gathering (wsV RX7 217 RX2 yX2_platesIn wsX2_platesIn) := goodIn_app (goodIn_of _ (by decide +kernel)) ggX7_gathering_X2_platesIn
set_option maxRecDepth 20000 in
theorem ggX7_gathering_X2_blanksIn : GoodIn wsX7_gathering wsX2_blanksIn := goodIn_r _ [97, 8, 86, 87, 88, 6, 89, 90, 91, 92, 93, 42, 77, 18, 19, 20, 21, 22, 113, 114, 115, 116, 117, 118, 119, 121] (by decide +kernel) (by decide +kernel)
set_option maxRecDepth 20000 in
theorem gX7_gathering_X2_blanksIn : GoodIn wsX7_gathering (wsV RX7 220 RX2 yX2_blanksIn wsX2_blanksIn) := goodIn_app (goodIn_of _ (by decide +kernel)) ggX7_gathering_X2_blanksIn
set_option maxRecDepth 20000 in
theorem ggX7_gathering_X2_coloured : GoodIn wsX7_gathering wsX2_coloured := goodIn_r _ [101, 8, 102, 60, 103, 90, 91, 92, 6, 93, 42, 77, 18, 19, 20, 21, 22, 113, 114, 115, 116, 117, 118, 119, 121] (by decide +kernel) (by decide +kernel)
set_option maxRecDepth 20000 in
theorem gX7_gathering_X2_coloured : GoodIn wsX7_gathering (wsV RX7 223 RX2 yX2_coloured wsX2_coloured) := goodIn_app (goodIn_of _ (by decide +kernel)) ggX7_gathering_X2_coloured
theorem dX7_gathering_0 : decode cX7_gathering 0 = .ok (.aload_n 0, 1) := by decide +kernel
theorem dX7_gathering_1 : decode cX7_gathering 1 = .ok (.getfield 50, 3) := by decide +kernel
theorem dX7_gathering_4 : decode cX7_gathering 4 = .ok (.aload_n 0, 1) := by decide +kernel
theorem dX7_gathering_5 : decode cX7_gathering 5 = .ok (.getfield 10, 3) := by decide +kernel
theorem dX7_gathering_8 : decode cX7_gathering 8 = .ok (.invokevirtual 181, 3) := by decide +kernel
theorem dX7_gathering_11 : decode cX7_gathering 11 = .ok (.iload_n 1, 1) := by decide +kernel
theorem dX7_gathering_12 : decode cX7_gathering 12 = .ok (.ifCond .lt 14, 3) := by decide +kernel
theorem dX7_gathering_15 : decode cX7_gathering 15 = .ok (.iload_n 1, 1) := by decide +kernel
theorem dX7_gathering_16 : decode cX7_gathering 16 = .ok (.aload_n 0, 1) := by decide +kernel
theorem dX7_gathering_17 : decode cX7_gathering 17 = .ok (.getfield 50, 3) := by decide +kernel
theorem dX7_gathering_20 : decode cX7_gathering 20 = .ok (.invokevirtual 211, 3) := by decide +kernel
theorem dX7_gathering_23 : decode cX7_gathering 23 = .ok (.if_icmp .lt 5, 3) := by decide +kernel
theorem dX7_gathering_26 : decode cX7_gathering 26 = .ok (.iconst (-1), 1) := by decide +kernel
theorem dX7_gathering_27 : decode cX7_gathering 27 = .ok (.ireturn, 1) := by decide +kernel
theorem dX7_gathering_28 : decode cX7_gathering 28 = .ok (.iload_n 2, 1) := by decide +kernel
theorem dX7_gathering_29 : decode cX7_gathering 29 = .ok (.tableswitch 106 0 5 #[39, 48, 57, 66, 86, 96], 39) := by decide +kernel
theorem dX7_gathering_68 : decode cX7_gathering 68 = .ok (.aload_n 0, 1) := by decide +kernel
theorem dX7_gathering_69 : decode cX7_gathering 69 = .ok (.getfield 50, 3) := by decide +kernel
theorem dX7_gathering_72 : decode cX7_gathering 72 = .ok (.iload_n 1, 1) := by decide +kernel
theorem dX7_gathering_73 : decode cX7_gathering 73 = .ok (.invokevirtual 214, 3) := by decide +kernel
theorem dX7_gathering_76 : decode cX7_gathering 76 = .ok (.ireturn, 1) := by decide +kernel
theorem dX7_gathering_77 : decode cX7_gathering 77 = .ok (.aload_n 0, 1) := by decide +kernel
theorem dX7_gathering_78 : decode cX7_gathering 78 = .ok (.getfield 50, 3) := by decide +kernel
theorem dX7_gathering_81 : decode cX7_gathering 81 = .ok (.iload_n 1, 1) := by decide +kernel
theorem dX7_gathering_82 : decode cX7_gathering 82 = .ok (.invokevirtual 217, 3) := by decide +kernel
theorem dX7_gathering_85 : decode cX7_gathering 85 = .ok (.ireturn, 1) := by decide +kernel
theorem dX7_gathering_86 : decode cX7_gathering 86 = .ok (.aload_n 0, 1) := by decide +kernel
theorem dX7_gathering_87 : decode cX7_gathering 87 = .ok (.getfield 50, 3) := by decide +kernel
theorem dX7_gathering_90 : decode cX7_gathering 90 = .ok (.iload_n 1, 1) := by decide +kernel
theorem dX7_gathering_91 : decode cX7_gathering 91 = .ok (.invokevirtual 220, 3) := by decide +kernel
theorem dX7_gathering_94 : decode cX7_gathering 94 = .ok (.ireturn, 1) := by decide +kernel
theorem dX7_gathering_95 : decode cX7_gathering 95 = .ok (.aload_n 0, 1) := by decide +kernel
theorem dX7_gathering_96 : decode cX7_gathering 96 = .ok (.getfield 50, 3) := by decide +kernel
theorem dX7_gathering_99 : decode cX7_gathering 99 = .ok (.iload_n 1, 1) := by decide +kernel
theorem dX7_gathering_100 : decode cX7_gathering 100 = .ok (.iconst 0, 1) := by decide +kernel
theorem dX7_gathering_101 : decode cX7_gathering 101 = .ok (.invokevirtual 223, 3) := by decide +kernel
theorem dX7_gathering_104 : decode cX7_gathering 104 = .ok (.aload_n 0, 1) := by decide +kernel
theorem dX7_gathering_105 : decode cX7_gathering 105 = .ok (.getfield 50, 3) := by decide +kernel
theorem dX7_gathering_108 : decode cX7_gathering 108 = .ok (.iload_n 1, 1) := by decide +kernel
theorem dX7_gathering_109 : decode cX7_gathering 109 = .ok (.iconst 1, 1) := by decide +kernel
theorem dX7_gathering_110 : decode cX7_gathering 110 = .ok (.invokevirtual 223, 3) := by decide +kernel
theorem dX7_gathering_113 : decode cX7_gathering 113 = .ok (.iadd, 1) := by decide +kernel
theorem dX7_gathering_114 : decode cX7_gathering 114 = .ok (.ireturn, 1) := by decide +kernel
theorem dX7_gathering_115 : decode cX7_gathering 115 = .ok (.aload_n 0, 1) := by decide +kernel
theorem dX7_gathering_116 : decode cX7_gathering 116 = .ok (.getfield 50, 3) := by decide +kernel
theorem dX7_gathering_119 : decode cX7_gathering 119 = .ok (.iload_n 1, 1) := by decide +kernel
theorem dX7_gathering_120 : decode cX7_gathering 120 = .ok (.iconst 0, 1) := by decide +kernel
theorem dX7_gathering_121 : decode cX7_gathering 121 = .ok (.invokevirtual 223, 3) := by decide +kernel
theorem dX7_gathering_124 : decode cX7_gathering 124 = .ok (.ireturn, 1) := by decide +kernel
theorem dX7_gathering_125 : decode cX7_gathering 125 = .ok (.aload_n 0, 1) := by decide +kernel
theorem dX7_gathering_126 : decode cX7_gathering 126 = .ok (.getfield 50, 3) := by decide +kernel
theorem dX7_gathering_129 : decode cX7_gathering 129 = .ok (.iload_n 1, 1) := by decide +kernel
theorem dX7_gathering_130 : decode cX7_gathering 130 = .ok (.iconst 1, 1) := by decide +kernel
theorem dX7_gathering_131 : decode cX7_gathering 131 = .ok (.invokevirtual 223, 3) := by decide +kernel
theorem dX7_gathering_134 : decode cX7_gathering 134 = .ok (.ireturn, 1) := by decide +kernel
theorem dX7_gathering_135 : decode cX7_gathering 135 = .ok (.bipush (-2), 2) := by decide +kernel
theorem dX7_gathering_137 : decode cX7_gathering 137 = .ok (.ireturn, 1) := by decide +kernel
set_option maxRecDepth 20000 in
theorem ggX7_ifChosen_X0_has : GoodIn wsX7_ifChosen wsX0_has := goodIn_r _ [7, 8, 9, 10, 6, 11, 12, 13, 14, 15, 16, 17, 18, 139, 140] (by decide +kernel) (by decide +kernel)
set_option maxRecDepth 20000 in
theorem gX7_ifChosen_X0_has : GoodIn wsX7_ifChosen (wsV RX7 94 RX0 yX0_has wsX0_has) := goodIn_app (goodIn_of _ (by decide +kernel)) ggX7_ifChosen_X0_has
set_option maxRecDepth 20000 in
theorem ggX7_ifChosen_X0_allows : GoodIn wsX7_ifChosen wsX0_allows := goodIn_r _ [22, 23, 24, 25, 6, 26, 27, 28, 29, 30, 12, 13, 14, 15, 16, 17, 18, 31, 32, 33, 34, 139, 140] (by decide +kernel) (by decide +kernel)
set_option maxRecDepth 20000 in
theorem gX7_ifChosen_X0_allows : GoodIn wsX7_ifChosen (wsV RX7 135 RX0 yX0_allows wsX0_allows) := goodIn_app (goodIn_of _ (by decide +kernel)) ggX7_ifChosen_X0_allows
set_option maxRecDepth 20000 in
theorem ggX7_ifChosen_X0_copy : GoodIn wsX7_ifChosen wsX0_copy := goodIn_r _ [38, 12, 39, 40, 41, 16, 42, 43, 14, 15, 17, 18, 44, 45, 46, 47, 139, 140] (by decide +kernel) (by decide +kernel)
set_option maxRecDepth 20000 in
theorem gX7_ifChosen_X0_copy : GoodIn wsX7_ifChosen (wsV RX7 178 RX0 yX0_copy wsX0_copy) := goodIn_app (goodIn_of _ (by decide +kernel)) ggX7_ifChosen_X0_copy
set_option maxRecDepth 20000 in
theorem ggX7_ifChosen_X0_putChoice : GoodIn wsX7_ifChosen wsX0_putChoice := goodIn_r _ [51, 12, 52, 45, 46, 16, 47, 18, 139, 140] (by decide +kernel) (by decide +kernel)
set_option maxRecDepth 20000 in
theorem gX7_ifChosen_X0_putChoice : GoodIn wsX7_ifChosen (wsV RX7 139 RX0 yX0_putChoice wsX0_putChoice) := goodIn_app (goodIn_of _ (by decide +kernel)) ggX7_ifChosen_X0_putChoice
set_option maxRecDepth 20000 in
theorem ggX7_ifChosen_X7_costOf : GoodIn wsX7_ifChosen wsX7_costOf := goodIn_r _ [57, 58, 59, 60, 61, 62, 63, 64, 65, 66, 67, 68, 69, 6, 70, 12, 13, 14, 15, 16, 17, 18, 71, 9, 10, 11, 72, 73, 74, 75, 76, 77, 78, 79, 80, 81, 82, 83, 84, 85, 86, 87, 88, 45, 46, 47, 89, 32, 33, 34, 90, 28, 29, 30, 91, 92, 93, 94, 95, 56, 96, 97, 98, 99, 100, 101, 102, 103, 104, 105, 106, 107, 108, 109, 110, 111, 112, 113, 114, 115, 116, 117, 118, 119, 120, 121, 122, 123, 124, 125, 126, 127, 128, 8, 129, 130, 131, 132, 133, 134, 135, 136, 137, 138, 141, 142, 143, 144, 145, 146, 147, 139, 140] (by decide +kernel) (by decide +kernel)
set_option maxRecDepth 20000 in
theorem gX7_ifChosen_X7_costOf : GoodIn wsX7_ifChosen (wsV RX7 131 RX7 yX7_costOf wsX7_costOf) := goodIn_app (goodIn_of _ (by decide +kernel)) ggX7_ifChosen_X7_costOf
theorem dX7_ifChosen_0 : decode cX7_ifChosen 0 = .ok (.aload_n 0, 1) := by decide +kernel
theorem dX7_ifChosen_1 : decode cX7_ifChosen 1 = .ok (.getfield 10, 3) := by decide +kernel
theorem dX7_ifChosen_4 : decode cX7_ifChosen 4 = .ok (.iload_n 1, 1) := by decide +kernel
theorem dX7_ifChosen_5 : decode cX7_ifChosen 5 = .ok (.invokevirtual 94, 3) := by decide +kernel
theorem dX7_ifChosen_8 : decode cX7_ifChosen 8 = .ok (.ifCond .ne 5, 3) := by decide +kernel
theorem dX7_ifChosen_11 : decode cX7_ifChosen 11 = .ok (.iconst (-1), 1) := by decide +kernel
theorem dX7_ifChosen_12 : decode cX7_ifChosen 12 = .ok (.ireturn, 1) := by decide +kernel
theorem dX7_ifChosen_13 : decode cX7_ifChosen 13 = .ok (.aload_n 0, 1) := by decide +kernel
theorem dX7_ifChosen_14 : decode cX7_ifChosen 14 = .ok (.getfield 10, 3) := by decide +kernel
theorem dX7_ifChosen_17 : decode cX7_ifChosen 17 = .ok (.iload_n 1, 1) := by decide +kernel
theorem dX7_ifChosen_18 : decode cX7_ifChosen 18 = .ok (.iload_n 3, 1) := by decide +kernel
theorem dX7_ifChosen_19 : decode cX7_ifChosen 19 = .ok (.invokevirtual 135, 3) := by decide +kernel
theorem dX7_ifChosen_22 : decode cX7_ifChosen 22 = .ok (.ifCond .ne 6, 3) := by decide +kernel
theorem dX7_ifChosen_25 : decode cX7_ifChosen 25 = .ok (.bipush (-2), 2) := by decide +kernel
theorem dX7_ifChosen_27 : decode cX7_ifChosen 27 = .ok (.ireturn, 1) := by decide +kernel
theorem dX7_ifChosen_28 : decode cX7_ifChosen 28 = .ok (.aload_n 0, 1) := by decide +kernel
theorem dX7_ifChosen_29 : decode cX7_ifChosen 29 = .ok (.getfield 16, 3) := by decide +kernel
theorem dX7_ifChosen_32 : decode cX7_ifChosen 32 = .ok (.aload_n 0, 1) := by decide +kernel
theorem dX7_ifChosen_33 : decode cX7_ifChosen 33 = .ok (.getfield 10, 3) := by decide +kernel
theorem dX7_ifChosen_36 : decode cX7_ifChosen 36 = .ok (.invokevirtual 178, 3) := by decide +kernel
theorem dX7_ifChosen_39 : decode cX7_ifChosen 39 = .ok (.aload_n 0, 1) := by decide +kernel
theorem dX7_ifChosen_40 : decode cX7_ifChosen 40 = .ok (.getfield 16, 3) := by decide +kernel
theorem dX7_ifChosen_43 : decode cX7_ifChosen 43 = .ok (.iload_n 1, 1) := by decide +kernel
theorem dX7_ifChosen_44 : decode cX7_ifChosen 44 = .ok (.iload_n 2, 1) := by decide +kernel
theorem dX7_ifChosen_45 : decode cX7_ifChosen 45 = .ok (.ifCond .eq 7, 3) := by decide +kernel
theorem dX7_ifChosen_48 : decode cX7_ifChosen 48 = .ok (.iconst 1, 1) := by decide +kernel
theorem dX7_ifChosen_49 : decode cX7_ifChosen 49 = .ok (.goto 4, 3) := by decide +kernel
theorem dX7_ifChosen_52 : decode cX7_ifChosen 52 = .ok (.iconst 0, 1) := by decide +kernel
theorem dX7_ifChosen_53 : decode cX7_ifChosen 53 = .ok (.iload_n 3, 1) := by decide +kernel
theorem dX7_ifChosen_54 : decode cX7_ifChosen 54 = .ok (.invokevirtual 139, 3) := by decide +kernel
theorem dX7_ifChosen_57 : decode cX7_ifChosen 57 = .ok (.aload_n 0, 1) := by decide +kernel
theorem dX7_ifChosen_58 : decode cX7_ifChosen 58 = .ok (.aload_n 0, 1) := by decide +kernel
theorem dX7_ifChosen_59 : decode cX7_ifChosen 59 = .ok (.getfield 16, 3) := by decide +kernel
theorem dX7_ifChosen_62 : decode cX7_ifChosen 62 = .ok (.invokevirtual 131, 3) := by decide +kernel
theorem dX7_ifChosen_65 : decode cX7_ifChosen 65 = .ok (.ireturn, 1) := by decide +kernel
set_option maxRecDepth 20000 in
theorem ggX7_cheapest_X0_has : GoodIn wsX7_cheapest wsX0_has := goodIn_r _ [7, 8, 9, 10, 6, 11, 12, 13, 14, 15, 16, 17, 18, 167, 168] (by decide +kernel) (by decide +kernel)
set_option maxRecDepth 20000 in
theorem gX7_cheapest_X0_has : GoodIn wsX7_cheapest (wsV RX7 94 RX0 yX0_has wsX0_has) := goodIn_app (goodIn_of _ (by decide +kernel)) ggX7_cheapest_X0_has
set_option maxRecDepth 20000 in
theorem ggX7_cheapest_X0_setting : GoodIn wsX7_cheapest wsX0_setting := goodIn_r _ [22, 12, 13, 14, 15, 16, 17, 18, 167, 168] (by decide +kernel) (by decide +kernel)
set_option maxRecDepth 20000 in
theorem gX7_cheapest_X0_setting : GoodIn wsX7_cheapest (wsV RX7 143 RX0 yX0_setting wsX0_setting) := goodIn_app (goodIn_of _ (by decide +kernel)) ggX7_cheapest_X0_setting
set_option maxRecDepth 20000 in
theorem ggX7_cheapest_X3_solve : GoodIn wsX7_cheapest wsX3_solve := goodIn_r _ [27, 28, 29, 30, 31, 32, 33, 6, 34, 12, 35, 36, 37, 16, 38, 39, 14, 15, 17, 18, 40, 41, 42, 43, 44, 45, 46, 47, 48, 49, 50, 51, 26, 52, 53, 54, 55, 9, 10, 11, 13, 56, 57, 58, 59, 60, 61, 62, 63, 64, 65, 66, 67, 68, 69, 70, 71, 72, 73, 74, 75, 76, 77, 78, 79, 80, 81, 82, 83, 84, 85, 86, 87, 88, 89, 90, 20, 21, 22, 91, 92, 93, 94, 95, 96, 97, 98, 99, 100, 101, 102, 103, 104, 105, 106, 107, 108, 109, 110, 111, 112, 113, 114, 115, 116, 117, 118, 119, 120, 121, 122, 123, 124, 125, 126, 127, 128, 129, 130, 131, 132, 133, 134, 135, 136, 137, 138, 139, 140, 141, 142, 143, 144, 145, 146, 147, 148, 149, 150, 169, 170, 171, 172, 167, 168] (by decide +kernel) (by decide +kernel)
set_option maxRecDepth 20000 in
theorem gX7_cheapest_X3_solve : GoodIn wsX7_cheapest (wsV RX7 146 RX3 yX3_solve wsX3_solve) := goodIn_app (goodIn_of _ (by decide +kernel)) ggX7_cheapest_X3_solve
set_option maxRecDepth 20000 in
theorem ggX7_cheapest_X3_chosen : GoodIn wsX7_cheapest wsX3_chosen := goodIn_r _ [154, 29, 169, 170, 171, 172] (by decide +kernel) (by decide +kernel)
set_option maxRecDepth 20000 in
theorem gX7_cheapest_X3_chosen : GoodIn wsX7_cheapest (wsV RX7 150 RX3 yX3_chosen wsX3_chosen) := goodIn_app (goodIn_of _ (by decide +kernel)) ggX7_cheapest_X3_chosen
set_option maxRecDepth 20000 in
theorem ggX7_cheapest_X0_blank : GoodIn wsX7_cheapest wsX0_blank := goodIn_r _ [146, 12, 13, 14, 15, 16, 17, 18, 167, 168] (by decide +kernel) (by decide +kernel)
set_option maxRecDepth 20000 in
theorem gX7_cheapest_X0_blank : GoodIn wsX7_cheapest (wsV RX7 117 RX0 yX0_blank wsX0_blank) := goodIn_app (goodIn_of _ (by decide +kernel)) ggX7_cheapest_X0_blank
set_option maxRecDepth 20000 in
theorem ggX7_cheapest_X0_plate : GoodIn wsX7_cheapest wsX0_plate := goodIn_r _ [68, 12, 13, 14, 15, 16, 17, 18, 167, 168] (by decide +kernel) (by decide +kernel)
set_option maxRecDepth 20000 in
theorem gX7_cheapest_X0_plate : GoodIn wsX7_cheapest (wsV RX7 105 RX0 yX0_plate wsX0_plate) := goodIn_app (goodIn_of _ (by decide +kernel)) ggX7_cheapest_X0_plate
set_option maxRecDepth 20000 in
theorem ggX7_cheapest_X0_place : GoodIn wsX7_cheapest wsX0_place := goodIn_r _ [150, 12, 13, 14, 15, 16, 17, 18, 167, 168] (by decide +kernel) (by decide +kernel)
set_option maxRecDepth 20000 in
theorem gX7_cheapest_X0_place : GoodIn wsX7_cheapest (wsV RX7 108 RX0 yX0_place wsX0_place) := goodIn_app (goodIn_of _ (by decide +kernel)) ggX7_cheapest_X0_place
theorem dX7_cheapest_0 : decode cX7_cheapest 0 = .ok (.aload_n 0, 1) := by decide +kernel
theorem dX7_cheapest_1 : decode cX7_cheapest 1 = .ok (.getfield 10, 3) := by decide +kernel
theorem dX7_cheapest_4 : decode cX7_cheapest 4 = .ok (.iload_n 1, 1) := by decide +kernel
theorem dX7_cheapest_5 : decode cX7_cheapest 5 = .ok (.invokevirtual 94, 3) := by decide +kernel
theorem dX7_cheapest_8 : decode cX7_cheapest 8 = .ok (.ifCond .ne 5, 3) := by decide +kernel
theorem dX7_cheapest_11 : decode cX7_cheapest 11 = .ok (.iconst (-1), 1) := by decide +kernel
theorem dX7_cheapest_12 : decode cX7_cheapest 12 = .ok (.ireturn, 1) := by decide +kernel
theorem dX7_cheapest_13 : decode cX7_cheapest 13 = .ok (.iload_n 2, 1) := by decide +kernel
theorem dX7_cheapest_14 : decode cX7_cheapest 14 = .ok (.ifCond .lt 8, 3) := by decide +kernel
theorem dX7_cheapest_17 : decode cX7_cheapest 17 = .ok (.iload_n 2, 1) := by decide +kernel
theorem dX7_cheapest_18 : decode cX7_cheapest 18 = .ok (.iconst 1, 1) := by decide +kernel
theorem dX7_cheapest_19 : decode cX7_cheapest 19 = .ok (.if_icmp .le 6, 3) := by decide +kernel
theorem dX7_cheapest_22 : decode cX7_cheapest 22 = .ok (.bipush (-2), 2) := by decide +kernel
theorem dX7_cheapest_24 : decode cX7_cheapest 24 = .ok (.ireturn, 1) := by decide +kernel
theorem dX7_cheapest_25 : decode cX7_cheapest 25 = .ok (.aload_n 0, 1) := by decide +kernel
theorem dX7_cheapest_26 : decode cX7_cheapest 26 = .ok (.getfield 57, 3) := by decide +kernel
theorem dX7_cheapest_29 : decode cX7_cheapest 29 = .ok (.aload_n 0, 1) := by decide +kernel
theorem dX7_cheapest_30 : decode cX7_cheapest 30 = .ok (.getfield 10, 3) := by decide +kernel
theorem dX7_cheapest_33 : decode cX7_cheapest 33 = .ok (.aload_n 0, 1) := by decide +kernel
theorem dX7_cheapest_34 : decode cX7_cheapest 34 = .ok (.getfield 10, 3) := by decide +kernel
theorem dX7_cheapest_37 : decode cX7_cheapest 37 = .ok (.iconst 0, 1) := by decide +kernel
theorem dX7_cheapest_38 : decode cX7_cheapest 38 = .ok (.invokevirtual 143, 3) := by decide +kernel
theorem dX7_cheapest_41 : decode cX7_cheapest 41 = .ok (.invokevirtual 146, 3) := by decide +kernel
theorem dX7_cheapest_44 : decode cX7_cheapest 44 = .ok (.ifCond .ne 6, 3) := by decide +kernel
theorem dX7_cheapest_47 : decode cX7_cheapest 47 = .ok (.bipush (-4), 2) := by decide +kernel
theorem dX7_cheapest_49 : decode cX7_cheapest 49 = .ok (.ireturn, 1) := by decide +kernel
theorem dX7_cheapest_50 : decode cX7_cheapest 50 = .ok (.iload_n 2, 1) := by decide +kernel
theorem dX7_cheapest_51 : decode cX7_cheapest 51 = .ok (.ifCond .ne 15, 3) := by decide +kernel
theorem dX7_cheapest_54 : decode cX7_cheapest 54 = .ok (.aload_n 0, 1) := by decide +kernel
theorem dX7_cheapest_55 : decode cX7_cheapest 55 = .ok (.getfield 57, 3) := by decide +kernel
theorem dX7_cheapest_58 : decode cX7_cheapest 58 = .ok (.invokevirtual 150, 3) := by decide +kernel
theorem dX7_cheapest_61 : decode cX7_cheapest 61 = .ok (.iload_n 1, 1) := by decide +kernel
theorem dX7_cheapest_62 : decode cX7_cheapest 62 = .ok (.invokevirtual 117, 3) := by decide +kernel
theorem dX7_cheapest_65 : decode cX7_cheapest 65 = .ok (.ireturn, 1) := by decide +kernel
theorem dX7_cheapest_66 : decode cX7_cheapest 66 = .ok (.aload_n 0, 1) := by decide +kernel
theorem dX7_cheapest_67 : decode cX7_cheapest 67 = .ok (.getfield 10, 3) := by decide +kernel
theorem dX7_cheapest_70 : decode cX7_cheapest 70 = .ok (.iload_n 1, 1) := by decide +kernel
theorem dX7_cheapest_71 : decode cX7_cheapest 71 = .ok (.invokevirtual 105, 3) := by decide +kernel
theorem dX7_cheapest_74 : decode cX7_cheapest 74 = .ok (.ifCond .ne 8, 3) := by decide +kernel
theorem dX7_cheapest_77 : decode cX7_cheapest 77 = .ok (.bipush (-5), 2) := by decide +kernel
theorem dX7_cheapest_79 : decode cX7_cheapest 79 = .ok (.goto 14, 3) := by decide +kernel
theorem dX7_cheapest_82 : decode cX7_cheapest 82 = .ok (.aload_n 0, 1) := by decide +kernel
theorem dX7_cheapest_83 : decode cX7_cheapest 83 = .ok (.getfield 57, 3) := by decide +kernel
theorem dX7_cheapest_86 : decode cX7_cheapest 86 = .ok (.invokevirtual 150, 3) := by decide +kernel
theorem dX7_cheapest_89 : decode cX7_cheapest 89 = .ok (.iload_n 1, 1) := by decide +kernel
theorem dX7_cheapest_90 : decode cX7_cheapest 90 = .ok (.invokevirtual 108, 3) := by decide +kernel
theorem dX7_cheapest_93 : decode cX7_cheapest 93 = .ok (.ireturn, 1) := by decide +kernel
set_option maxRecDepth 20000 in
theorem ggX7_leastCost_X7_isSetting : GoodIn wsX7_leastCost wsX7_isSetting := goodIn_r _ [6] (by decide +kernel) (by decide +kernel)
set_option maxRecDepth 20000 in
theorem gX7_leastCost_X7_isSetting : GoodIn wsX7_leastCost (va_wsS RX7 157 yX7_isSetting wsX7_isSetting) := goodIn_app (goodIn_of _ (by decide +kernel)) ggX7_leastCost_X7_isSetting
set_option maxRecDepth 20000 in
theorem ggX7_leastCost_X3_solve : GoodIn wsX7_leastCost wsX3_solve := goodIn_r _ [11, 12, 13, 14, 15, 16, 17, 18, 19, 20, 21, 22, 23, 24, 25, 26, 27, 28, 29, 30, 31, 32, 33, 34, 35, 36, 37, 38, 39, 40, 41, 42, 10, 43, 44, 45, 46, 47, 48, 49, 50, 51, 52, 53, 54, 55, 56, 57, 58, 59, 60, 61, 62, 63, 64, 65, 66, 67, 68, 69, 70, 71, 72, 73, 74, 75, 5, 76, 77, 78, 79, 80, 81, 82, 83, 84, 85, 86, 87, 88, 89, 90, 91, 92, 93, 94, 95, 96, 97, 98, 99, 100, 101, 102, 103, 104, 105, 106, 107, 108, 109, 110, 111, 112, 113, 114, 115, 116, 117, 118, 119, 120, 121, 122, 123, 124, 125, 126, 127, 128, 129, 130, 131, 132, 133, 134, 135, 136, 137, 138, 139, 140, 141, 142, 143, 144, 145, 146, 147, 218, 219, 220, 221, 222, 223] (by decide +kernel) (by decide +kernel)
set_option maxRecDepth 20000 in
theorem gX7_leastCost_X3_solve : GoodIn wsX7_leastCost (wsV RX7 146 RX3 yX3_solve wsX3_solve) := goodIn_app (goodIn_of _ (by decide +kernel)) ggX7_leastCost_X3_solve
set_option maxRecDepth 20000 in
theorem ggX7_leastCost_X3_chosen : GoodIn wsX7_leastCost wsX3_chosen := goodIn_r _ [151, 13, 218, 219, 220, 221] (by decide +kernel) (by decide +kernel)
set_option maxRecDepth 20000 in
theorem gX7_leastCost_X3_chosen : GoodIn wsX7_leastCost (wsV RX7 150 RX3 yX3_chosen wsX3_chosen) := goodIn_app (goodIn_of _ (by decide +kernel)) ggX7_leastCost_X3_chosen
set_option maxRecDepth 20000 in
theorem ggX7_leastCost_X7_costOf : GoodIn wsX7_leastCost wsX7_costOf := goodIn_r _ [155, 156, 157, 158, 159, 160, 161, 162, 163, 164, 165, 85, 86, 18, 87, 20, 50, 27, 28, 24, 29, 30, 166, 47, 48, 49, 167, 168, 169, 170, 171, 172, 173, 141, 142, 143, 174, 175, 176, 177, 178, 179, 180, 32, 33, 34, 181, 57, 58, 59, 182, 61, 62, 63, 183, 145, 146, 147, 75, 5, 76, 77, 78, 79, 184, 185, 186, 187, 188, 81, 82, 83, 84, 189, 190, 191, 192, 193, 194, 195, 196, 125, 126, 197, 198, 199, 200, 201, 202, 203, 204, 205, 206, 207, 208, 209, 210, 211, 212, 213, 214, 215, 216, 217, 224, 225, 226, 227, 228, 229, 230, 222, 223] (by decide +kernel) (by decide +kernel)
set_option maxRecDepth 20000 in
theorem gX7_leastCost_X7_costOf : GoodIn wsX7_leastCost (wsV RX7 131 RX7 yX7_costOf wsX7_costOf) := goodIn_app (goodIn_of _ (by decide +kernel)) ggX7_leastCost_X7_costOf
theorem dX7_leastCost_0 : decode cX7_leastCost 0 = .ok (.iconst 0, 1) := by decide +kernel
theorem dX7_leastCost_1 : decode cX7_leastCost 1 = .ok (.iload_n 1, 1) := by decide +kernel
theorem dX7_leastCost_2 : decode cX7_leastCost 2 = .ok (.invokestatic 157, 3) := by decide +kernel
theorem dX7_leastCost_5 : decode cX7_leastCost 5 = .ok (.ifCond .ne 6, 3) := by decide +kernel
theorem dX7_leastCost_8 : decode cX7_leastCost 8 = .ok (.bipush (-2), 2) := by decide +kernel
theorem dX7_leastCost_10 : decode cX7_leastCost 10 = .ok (.ireturn, 1) := by decide +kernel
theorem dX7_leastCost_11 : decode cX7_leastCost 11 = .ok (.aload_n 0, 1) := by decide +kernel
theorem dX7_leastCost_12 : decode cX7_leastCost 12 = .ok (.getfield 57, 3) := by decide +kernel
theorem dX7_leastCost_15 : decode cX7_leastCost 15 = .ok (.aload_n 0, 1) := by decide +kernel
theorem dX7_leastCost_16 : decode cX7_leastCost 16 = .ok (.getfield 10, 3) := by decide +kernel
theorem dX7_leastCost_19 : decode cX7_leastCost 19 = .ok (.iload_n 1, 1) := by decide +kernel
theorem dX7_leastCost_20 : decode cX7_leastCost 20 = .ok (.invokevirtual 146, 3) := by decide +kernel
theorem dX7_leastCost_23 : decode cX7_leastCost 23 = .ok (.ifCond .eq 17, 3) := by decide +kernel
theorem dX7_leastCost_26 : decode cX7_leastCost 26 = .ok (.aload_n 0, 1) := by decide +kernel
theorem dX7_leastCost_27 : decode cX7_leastCost 27 = .ok (.aload_n 0, 1) := by decide +kernel
theorem dX7_leastCost_28 : decode cX7_leastCost 28 = .ok (.getfield 57, 3) := by decide +kernel
theorem dX7_leastCost_31 : decode cX7_leastCost 31 = .ok (.invokevirtual 150, 3) := by decide +kernel
theorem dX7_leastCost_34 : decode cX7_leastCost 34 = .ok (.invokevirtual 131, 3) := by decide +kernel
theorem dX7_leastCost_37 : decode cX7_leastCost 37 = .ok (.goto 5, 3) := by decide +kernel
theorem dX7_leastCost_40 : decode cX7_leastCost 40 = .ok (.bipush (-4), 2) := by decide +kernel
theorem dX7_leastCost_42 : decode cX7_leastCost 42 = .ok (.ireturn, 1) := by decide +kernel
set_option maxRecDepth 20000 in
theorem ggX7_count_X2_lay : GoodIn wsX7_count wsX2_lay := goodIn_r _ [9, 10, 11, 12, 13, 14, 15, 16, 17, 18, 19, 20, 21, 22, 23, 24, 25, 26, 27, 28, 29, 30, 31, 8, 32, 33, 34, 35, 36, 37, 38, 39, 40, 41, 42, 43, 44, 45, 46, 47, 48, 49, 50, 51, 52, 53, 54, 55, 56, 57, 58, 59, 60, 61, 62, 63, 64, 65, 66, 167, 168, 169, 170, 171, 172, 173, 174, 175] (by decide +kernel) (by decide +kernel)
set_option maxRecDepth 20000 in
theorem gX7_count_X2_lay : GoodIn wsX7_count (wsV RX7 181 RX2 yX2_lay wsX2_lay) := goodIn_app (goodIn_of _ (by decide +kernel)) ggX7_count_X2_lay
set_option maxRecDepth 20000 in
theorem ggX7_count_X0_lots : GoodIn wsX7_count wsX0_lots := goodIn_r _ [28, 18, 19, 20, 21, 22, 23, 24, 174, 175] (by decide +kernel) (by decide +kernel)
set_option maxRecDepth 20000 in
theorem gX7_count_X0_lots : GoodIn wsX7_count (wsV RX7 68 RX0 yX0_lots wsX0_lots) := goodIn_app (goodIn_of _ (by decide +kernel)) ggX7_count_X0_lots
set_option maxRecDepth 20000 in
theorem ggX7_count_X0_plates : GoodIn wsX7_count wsX0_plates := goodIn_r _ [71, 72, 26, 27, 16, 28, 18, 19, 20, 21, 22, 23, 24, 73, 54, 55, 56, 174, 175] (by decide +kernel) (by decide +kernel)
set_option maxRecDepth 20000 in
theorem gX7_count_X0_plates : GoodIn wsX7_count (wsV RX7 226 RX0 yX0_plates wsX0_plates) := goodIn_app (goodIn_of _ (by decide +kernel)) ggX7_count_X0_plates
set_option maxRecDepth 20000 in
theorem ggX7_count_X7_facingPlates : GoodIn wsX7_count wsX7_facingPlates := goodIn_r _ [77, 2, 1, 67, 26, 27, 16, 28, 18, 19, 20, 21, 22, 23, 24, 78, 54, 55, 56, 79, 80, 81, 8, 82, 83, 84, 85, 86, 34, 87, 88, 89, 90, 91, 11, 92, 93, 94, 95, 96, 97, 98, 99, 44, 100, 101, 102, 103, 43, 158, 159, 160, 161, 162, 163, 164, 165, 166, 174, 175, 167, 168, 169, 170, 171, 172, 173] (by decide +kernel) (by decide +kernel)
set_option maxRecDepth 20000 in
theorem gX7_count_X7_facingPlates : GoodIn wsX7_count (wsV RX7 229 RX7 yX7_facingPlates wsX7_facingPlates) := goodIn_app (goodIn_of _ (by decide +kernel)) ggX7_count_X7_facingPlates
set_option maxRecDepth 20000 in
theorem ggX7_count_X0_pages : GoodIn wsX7_count wsX0_pages := goodIn_r _ [107, 72, 26, 27, 16, 28, 18, 19, 20, 21, 22, 23, 24, 108, 36, 37, 38, 109, 110, 111, 112, 113, 50, 51, 52, 73, 54, 55, 56, 174, 175] (by decide +kernel) (by decide +kernel)
set_option maxRecDepth 20000 in
theorem gX7_count_X0_pages : GoodIn wsX7_count (wsV RX7 124 RX0 yX0_pages wsX0_pages) := goodIn_app (goodIn_of _ (by decide +kernel)) ggX7_count_X0_pages
set_option maxRecDepth 20000 in
theorem ggX7_count_X2_gatherings : GoodIn wsX7_count wsX2_gatherings := goodIn_r _ [117, 12, 167, 168, 169, 170, 171, 172, 173] (by decide +kernel) (by decide +kernel)
set_option maxRecDepth 20000 in
theorem gX7_count_X2_gatherings : GoodIn wsX7_count (wsV RX7 211 RX2 yX2_gatherings wsX2_gatherings) := goodIn_app (goodIn_of _ (by decide +kernel)) ggX7_count_X2_gatherings
set_option maxRecDepth 20000 in
theorem ggX7_count_X2_allPages : GoodIn wsX7_count wsX2_allPages := goodIn_r _ [121, 11, 167, 168, 169, 170, 171, 172, 173] (by decide +kernel) (by decide +kernel)
set_option maxRecDepth 20000 in
theorem gX7_count_X2_allPages : GoodIn wsX7_count (wsV RX7 232 RX2 yX2_allPages wsX2_allPages) := goodIn_app (goodIn_of _ (by decide +kernel)) ggX7_count_X2_allPages
set_option maxRecDepth 20000 in
theorem ggX7_count_X2_colouredSides : GoodIn wsX7_count wsX2_colouredSides := goodIn_r _ [125, 12, 126, 127, 128, 8, 129, 10, 130, 62, 131, 96, 97, 98, 99, 44, 87, 20, 21, 22, 23, 24, 167, 168, 169, 170, 171, 172, 173, 175] (by decide +kernel) (by decide +kernel)
set_option maxRecDepth 20000 in
theorem gX7_count_X2_colouredSides : GoodIn wsX7_count (wsV RX7 235 RX2 yX2_colouredSides wsX2_colouredSides) := goodIn_app (goodIn_of _ (by decide +kernel)) ggX7_count_X2_colouredSides
set_option maxRecDepth 20000 in
theorem ggX7_count_X0_blanks : GoodIn wsX7_count wsX0_blanks := goodIn_r _ [135, 72, 26, 27, 16, 28, 18, 19, 20, 21, 22, 23, 24, 108, 36, 37, 38, 174, 175] (by decide +kernel) (by decide +kernel)
set_option maxRecDepth 20000 in
theorem gX7_count_X0_blanks : GoodIn wsX7_count (wsV RX7 238 RX0 yX0_blanks wsX0_blanks) := goodIn_app (goodIn_of _ (by decide +kernel)) ggX7_count_X0_blanks
set_option maxRecDepth 20000 in
theorem ggX7_count_X7_costOf : GoodIn wsX7_count wsX7_costOf := goodIn_r _ [139, 1, 5, 6, 7, 8, 9, 10, 11, 12, 13, 14, 15, 16, 17, 18, 19, 20, 21, 22, 23, 24, 25, 26, 27, 28, 29, 30, 31, 32, 33, 34, 35, 36, 37, 38, 39, 40, 41, 42, 43, 44, 45, 46, 47, 48, 49, 50, 51, 52, 53, 54, 55, 56, 57, 58, 59, 60, 61, 62, 63, 64, 65, 66, 114, 115, 116, 117, 140, 141, 142, 143, 144, 122, 123, 124, 125, 126, 127, 128, 129, 130, 131, 96, 97, 98, 99, 87, 145, 132, 133, 134, 135, 72, 108, 158, 159, 160, 161, 162, 163, 164, 165, 166, 167, 168, 169, 170, 171, 172, 173, 174, 175] (by decide +kernel) (by decide +kernel)
set_option maxRecDepth 20000 in
theorem gX7_count_X7_costOf : GoodIn wsX7_count (wsV RX7 131 RX7 yX7_costOf wsX7_costOf) := goodIn_app (goodIn_of _ (by decide +kernel)) ggX7_count_X7_costOf
set_option maxRecDepth 20000 in
theorem ggX7_count_X0_setting : GoodIn wsX7_count wsX0_setting := goodIn_r _ [17, 18, 19, 20, 21, 22, 23, 24, 174, 175] (by decide +kernel) (by decide +kernel)
set_option maxRecDepth 20000 in
theorem gX7_count_X0_setting : GoodIn wsX7_count (wsV RX7 143 RX0 yX0_setting wsX0_setting) := goodIn_app (goodIn_of _ (by decide +kernel)) ggX7_count_X0_setting
set_option maxRecDepth 20000 in
theorem ggX7_count_X1_states : GoodIn wsX7_count wsX1_states := goodIn_r _ [150, 151, 176, 177] (by decide +kernel) (by decide +kernel)
set_option maxRecDepth 20000 in
theorem gX7_count_X1_states : GoodIn wsX7_count (wsV RX7 172 RX1 yX1_states wsX1_states) := goodIn_app (goodIn_of _ (by decide +kernel)) ggX7_count_X1_states
set_option maxRecDepth 20000 in
theorem ggX7_count_X6_length : GoodIn wsX7_count wsX6_length := goodIn_r _ [156, 157, 178, 179] (by decide +kernel) (by decide +kernel)
set_option maxRecDepth 20000 in
theorem gX7_count_X6_length : GoodIn wsX7_count (wsV RX7 163 RX6 yX6_length wsX6_length) := goodIn_app (goodIn_of _ (by decide +kernel)) ggX7_count_X6_length
theorem dX7_count_0 : decode cX7_count 0 = .ok (.aload_n 0, 1) := by decide +kernel
theorem dX7_count_1 : decode cX7_count 1 = .ok (.getfield 50, 3) := by decide +kernel
theorem dX7_count_4 : decode cX7_count 4 = .ok (.aload_n 0, 1) := by decide +kernel
theorem dX7_count_5 : decode cX7_count 5 = .ok (.getfield 10, 3) := by decide +kernel
theorem dX7_count_8 : decode cX7_count 8 = .ok (.invokevirtual 181, 3) := by decide +kernel
theorem dX7_count_11 : decode cX7_count 11 = .ok (.iload_n 1, 1) := by decide +kernel
theorem dX7_count_12 : decode cX7_count 12 = .ok (.tableswitch 234 0 16 #[84, 92, 110, 119, 124, 132, 140, 148, 156, 164, 173, 182, 191, 200, 209, 218, 226], 84) := by decide +kernel
theorem dX7_count_96 : decode cX7_count 96 = .ok (.aload_n 0, 1) := by decide +kernel
theorem dX7_count_97 : decode cX7_count 97 = .ok (.getfield 10, 3) := by decide +kernel
theorem dX7_count_100 : decode cX7_count 100 = .ok (.invokevirtual 68, 3) := by decide +kernel
theorem dX7_count_103 : decode cX7_count 103 = .ok (.ireturn, 1) := by decide +kernel
theorem dX7_count_104 : decode cX7_count 104 = .ok (.aload_n 0, 1) := by decide +kernel
theorem dX7_count_105 : decode cX7_count 105 = .ok (.getfield 10, 3) := by decide +kernel
theorem dX7_count_108 : decode cX7_count 108 = .ok (.iconst 1, 1) := by decide +kernel
theorem dX7_count_109 : decode cX7_count 109 = .ok (.invokevirtual 226, 3) := by decide +kernel
theorem dX7_count_112 : decode cX7_count 112 = .ok (.aload_n 0, 1) := by decide +kernel
theorem dX7_count_113 : decode cX7_count 113 = .ok (.getfield 10, 3) := by decide +kernel
theorem dX7_count_116 : decode cX7_count 116 = .ok (.iconst 2, 1) := by decide +kernel
theorem dX7_count_117 : decode cX7_count 117 = .ok (.invokevirtual 226, 3) := by decide +kernel
theorem dX7_count_120 : decode cX7_count 120 = .ok (.iadd, 1) := by decide +kernel
theorem dX7_count_121 : decode cX7_count 121 = .ok (.ireturn, 1) := by decide +kernel
theorem dX7_count_122 : decode cX7_count 122 = .ok (.aload_n 0, 1) := by decide +kernel
theorem dX7_count_123 : decode cX7_count 123 = .ok (.getfield 10, 3) := by decide +kernel
theorem dX7_count_126 : decode cX7_count 126 = .ok (.iconst 2, 1) := by decide +kernel
theorem dX7_count_127 : decode cX7_count 127 = .ok (.invokevirtual 226, 3) := by decide +kernel
theorem dX7_count_130 : decode cX7_count 130 = .ok (.ireturn, 1) := by decide +kernel
theorem dX7_count_131 : decode cX7_count 131 = .ok (.aload_n 0, 1) := by decide +kernel
theorem dX7_count_132 : decode cX7_count 132 = .ok (.invokevirtual 229, 3) := by decide +kernel
theorem dX7_count_135 : decode cX7_count 135 = .ok (.ireturn, 1) := by decide +kernel
theorem dX7_count_136 : decode cX7_count 136 = .ok (.aload_n 0, 1) := by decide +kernel
theorem dX7_count_137 : decode cX7_count 137 = .ok (.getfield 10, 3) := by decide +kernel
theorem dX7_count_140 : decode cX7_count 140 = .ok (.invokevirtual 124, 3) := by decide +kernel
theorem dX7_count_143 : decode cX7_count 143 = .ok (.ireturn, 1) := by decide +kernel
theorem dX7_count_144 : decode cX7_count 144 = .ok (.aload_n 0, 1) := by decide +kernel
theorem dX7_count_145 : decode cX7_count 145 = .ok (.getfield 50, 3) := by decide +kernel
theorem dX7_count_148 : decode cX7_count 148 = .ok (.invokevirtual 211, 3) := by decide +kernel
theorem dX7_count_151 : decode cX7_count 151 = .ok (.ireturn, 1) := by decide +kernel
theorem dX7_count_152 : decode cX7_count 152 = .ok (.aload_n 0, 1) := by decide +kernel
theorem dX7_count_153 : decode cX7_count 153 = .ok (.getfield 50, 3) := by decide +kernel
theorem dX7_count_156 : decode cX7_count 156 = .ok (.invokevirtual 232, 3) := by decide +kernel
theorem dX7_count_159 : decode cX7_count 159 = .ok (.ireturn, 1) := by decide +kernel
theorem dX7_count_160 : decode cX7_count 160 = .ok (.aload_n 0, 1) := by decide +kernel
theorem dX7_count_161 : decode cX7_count 161 = .ok (.getfield 50, 3) := by decide +kernel
theorem dX7_count_164 : decode cX7_count 164 = .ok (.invokevirtual 235, 3) := by decide +kernel
theorem dX7_count_167 : decode cX7_count 167 = .ok (.ireturn, 1) := by decide +kernel
theorem dX7_count_168 : decode cX7_count 168 = .ok (.aload_n 0, 1) := by decide +kernel
theorem dX7_count_169 : decode cX7_count 169 = .ok (.getfield 10, 3) := by decide +kernel
theorem dX7_count_172 : decode cX7_count 172 = .ok (.invokevirtual 238, 3) := by decide +kernel
theorem dX7_count_175 : decode cX7_count 175 = .ok (.ireturn, 1) := by decide +kernel
theorem dX7_count_176 : decode cX7_count 176 = .ok (.aload_n 0, 1) := by decide +kernel
theorem dX7_count_177 : decode cX7_count 177 = .ok (.aload_n 0, 1) := by decide +kernel
theorem dX7_count_178 : decode cX7_count 178 = .ok (.getfield 10, 3) := by decide +kernel
theorem dX7_count_181 : decode cX7_count 181 = .ok (.invokevirtual 131, 3) := by decide +kernel
theorem dX7_count_184 : decode cX7_count 184 = .ok (.ireturn, 1) := by decide +kernel
theorem dX7_count_185 : decode cX7_count 185 = .ok (.aload_n 0, 1) := by decide +kernel
theorem dX7_count_186 : decode cX7_count 186 = .ok (.getfield 10, 3) := by decide +kernel
theorem dX7_count_189 : decode cX7_count 189 = .ok (.iconst 0, 1) := by decide +kernel
theorem dX7_count_190 : decode cX7_count 190 = .ok (.invokevirtual 143, 3) := by decide +kernel
theorem dX7_count_193 : decode cX7_count 193 = .ok (.ireturn, 1) := by decide +kernel
theorem dX7_count_194 : decode cX7_count 194 = .ok (.aload_n 0, 1) := by decide +kernel
theorem dX7_count_195 : decode cX7_count 195 = .ok (.getfield 10, 3) := by decide +kernel
theorem dX7_count_198 : decode cX7_count 198 = .ok (.iconst 1, 1) := by decide +kernel
theorem dX7_count_199 : decode cX7_count 199 = .ok (.invokevirtual 143, 3) := by decide +kernel
theorem dX7_count_202 : decode cX7_count 202 = .ok (.ireturn, 1) := by decide +kernel
theorem dX7_count_203 : decode cX7_count 203 = .ok (.aload_n 0, 1) := by decide +kernel
theorem dX7_count_204 : decode cX7_count 204 = .ok (.getfield 10, 3) := by decide +kernel
theorem dX7_count_207 : decode cX7_count 207 = .ok (.iconst 2, 1) := by decide +kernel
theorem dX7_count_208 : decode cX7_count 208 = .ok (.invokevirtual 143, 3) := by decide +kernel
theorem dX7_count_211 : decode cX7_count 211 = .ok (.ireturn, 1) := by decide +kernel
theorem dX7_count_212 : decode cX7_count 212 = .ok (.aload_n 0, 1) := by decide +kernel
theorem dX7_count_213 : decode cX7_count 213 = .ok (.getfield 10, 3) := by decide +kernel
theorem dX7_count_216 : decode cX7_count 216 = .ok (.iconst 3, 1) := by decide +kernel
theorem dX7_count_217 : decode cX7_count 217 = .ok (.invokevirtual 143, 3) := by decide +kernel
theorem dX7_count_220 : decode cX7_count 220 = .ok (.ireturn, 1) := by decide +kernel
theorem dX7_count_221 : decode cX7_count 221 = .ok (.aload_n 0, 1) := by decide +kernel
theorem dX7_count_222 : decode cX7_count 222 = .ok (.getfield 10, 3) := by decide +kernel
theorem dX7_count_225 : decode cX7_count 225 = .ok (.iconst 4, 1) := by decide +kernel
theorem dX7_count_226 : decode cX7_count 226 = .ok (.invokevirtual 143, 3) := by decide +kernel
theorem dX7_count_229 : decode cX7_count 229 = .ok (.ireturn, 1) := by decide +kernel
theorem dX7_count_230 : decode cX7_count 230 = .ok (.aload_n 0, 1) := by decide +kernel
theorem dX7_count_231 : decode cX7_count 231 = .ok (.getfield 29, 3) := by decide +kernel
theorem dX7_count_234 : decode cX7_count 234 = .ok (.invokevirtual 172, 3) := by decide +kernel
theorem dX7_count_237 : decode cX7_count 237 = .ok (.ireturn, 1) := by decide +kernel
theorem dX7_count_238 : decode cX7_count 238 = .ok (.aload_n 0, 1) := by decide +kernel
theorem dX7_count_239 : decode cX7_count 239 = .ok (.getfield 36, 3) := by decide +kernel
theorem dX7_count_242 : decode cX7_count 242 = .ok (.invokevirtual 163, 3) := by decide +kernel
theorem dX7_count_245 : decode cX7_count 245 = .ok (.ireturn, 1) := by decide +kernel
theorem dX7_count_246 : decode cX7_count 246 = .ok (.bipush (-2), 2) := by decide +kernel
theorem dX7_count_248 : decode cX7_count 248 = .ok (.ireturn, 1) := by decide +kernel
theorem dX7_isText_0 : decode cX7_isText 0 = .ok (.iload_n 0, 1) := by decide +kernel
theorem dX7_isText_1 : decode cX7_isText 1 = .ok (.iconst 1, 1) := by decide +kernel
theorem dX7_isText_2 : decode cX7_isText 2 = .ok (.if_icmp .lt 12, 3) := by decide +kernel
theorem dX7_isText_5 : decode cX7_isText 5 = .ok (.iload_n 0, 1) := by decide +kernel
theorem dX7_isText_6 : decode cX7_isText 6 = .ok (.iconst 3, 1) := by decide +kernel
theorem dX7_isText_7 : decode cX7_isText 7 = .ok (.if_icmp .gt 7, 3) := by decide +kernel
theorem dX7_isText_10 : decode cX7_isText 10 = .ok (.iconst 1, 1) := by decide +kernel
theorem dX7_isText_11 : decode cX7_isText 11 = .ok (.goto 4, 3) := by decide +kernel
theorem dX7_isText_14 : decode cX7_isText 14 = .ok (.iconst 0, 1) := by decide +kernel
theorem dX7_isText_15 : decode cX7_isText 15 = .ok (.ireturn, 1) := by decide +kernel
theorem dX7_isPlate_0 : decode cX7_isPlate 0 = .ok (.iload_n 0, 1) := by decide +kernel
theorem dX7_isPlate_1 : decode cX7_isPlate 1 = .ok (.ifCond .lt 12, 3) := by decide +kernel
theorem dX7_isPlate_4 : decode cX7_isPlate 4 = .ok (.iload_n 0, 1) := by decide +kernel
theorem dX7_isPlate_5 : decode cX7_isPlate 5 = .ok (.iconst 2, 1) := by decide +kernel
theorem dX7_isPlate_6 : decode cX7_isPlate 6 = .ok (.if_icmp .gt 7, 3) := by decide +kernel
theorem dX7_isPlate_9 : decode cX7_isPlate 9 = .ok (.iconst 1, 1) := by decide +kernel
theorem dX7_isPlate_10 : decode cX7_isPlate 10 = .ok (.goto 4, 3) := by decide +kernel
theorem dX7_isPlate_13 : decode cX7_isPlate 13 = .ok (.iconst 0, 1) := by decide +kernel
theorem dX7_isPlate_14 : decode cX7_isPlate 14 = .ok (.ireturn, 1) := by decide +kernel
theorem dX7_isSetting_0 : decode cX7_isSetting 0 = .ok (.iload_n 0, 1) := by decide +kernel
theorem dX7_isSetting_1 : decode cX7_isSetting 1 = .ok (.ifCond .ne 26, 3) := by decide +kernel
theorem dX7_isSetting_4 : decode cX7_isSetting 4 = .ok (.iload_n 1, 1) := by decide +kernel
theorem dX7_isSetting_5 : decode cX7_isSetting 5 = .ok (.iconst 4, 1) := by decide +kernel
theorem dX7_isSetting_6 : decode cX7_isSetting 6 = .ok (.if_icmp .eq 15, 3) := by decide +kernel
theorem dX7_isSetting_9 : decode cX7_isSetting 9 = .ok (.iload_n 1, 1) := by decide +kernel
theorem dX7_isSetting_10 : decode cX7_isSetting 10 = .ok (.bipush 8, 2) := by decide +kernel
theorem dX7_isSetting_12 : decode cX7_isSetting 12 = .ok (.if_icmp .eq 9, 3) := by decide +kernel
theorem dX7_isSetting_15 : decode cX7_isSetting 15 = .ok (.iload_n 1, 1) := by decide +kernel
theorem dX7_isSetting_16 : decode cX7_isSetting 16 = .ok (.bipush 16, 2) := by decide +kernel
theorem dX7_isSetting_18 : decode cX7_isSetting 18 = .ok (.if_icmp .ne 7, 3) := by decide +kernel
theorem dX7_isSetting_21 : decode cX7_isSetting 21 = .ok (.iconst 1, 1) := by decide +kernel
theorem dX7_isSetting_22 : decode cX7_isSetting 22 = .ok (.goto 4, 3) := by decide +kernel
theorem dX7_isSetting_25 : decode cX7_isSetting 25 = .ok (.iconst 0, 1) := by decide +kernel
theorem dX7_isSetting_26 : decode cX7_isSetting 26 = .ok (.ireturn, 1) := by decide +kernel
theorem dX7_isSetting_27 : decode cX7_isSetting 27 = .ok (.iload_n 1, 1) := by decide +kernel
theorem dX7_isSetting_28 : decode cX7_isSetting 28 = .ok (.ifCond .lt 24, 3) := by decide +kernel
theorem dX7_isSetting_31 : decode cX7_isSetting 31 = .ok (.iload_n 1, 1) := by decide +kernel
theorem dX7_isSetting_32 : decode cX7_isSetting 32 = .ok (.iload_n 0, 1) := by decide +kernel
theorem dX7_isSetting_33 : decode cX7_isSetting 33 = .ok (.iconst 4, 1) := by decide +kernel
theorem dX7_isSetting_34 : decode cX7_isSetting 34 = .ok (.if_icmp .ne 9, 3) := by decide +kernel
theorem dX7_isSetting_37 : decode cX7_isSetting 37 = .ok (.sipush 999, 3) := by decide +kernel
theorem dX7_isSetting_40 : decode cX7_isSetting 40 = .ok (.goto 5, 3) := by decide +kernel
theorem dX7_isSetting_43 : decode cX7_isSetting 43 = .ok (.bipush 99, 2) := by decide +kernel
theorem dX7_isSetting_45 : decode cX7_isSetting 45 = .ok (.if_icmp .gt 7, 3) := by decide +kernel
theorem dX7_isSetting_48 : decode cX7_isSetting 48 = .ok (.iconst 1, 1) := by decide +kernel
theorem dX7_isSetting_49 : decode cX7_isSetting 49 = .ok (.goto 4, 3) := by decide +kernel
theorem dX7_isSetting_52 : decode cX7_isSetting 52 = .ok (.iconst 0, 1) := by decide +kernel
theorem dX7_isSetting_53 : decode cX7_isSetting 53 = .ok (.ireturn, 1) := by decide +kernel
set_option maxRecDepth 20000 in
theorem ggX7_costOf_X2_lay : GoodIn wsX7_costOf wsX2_lay := goodIn_r _ [6, 7, 8, 9, 10, 11, 12, 13, 14, 15, 16, 17, 18, 19, 20, 21, 22, 23, 24, 25, 26, 27, 28, 5, 29, 30, 31, 32, 33, 34, 35, 36, 37, 38, 39, 40, 41, 42, 43, 44, 45, 46, 47, 48, 49, 50, 51, 52, 53, 54, 55, 56, 57, 58, 59, 60, 61, 62, 63, 104, 105, 106, 107, 108, 109, 110, 111, 112] (by decide +kernel) (by decide +kernel)
set_option maxRecDepth 20000 in
theorem gX7_costOf_X2_lay : GoodIn wsX7_costOf (wsV RX7 181 RX2 yX2_lay wsX2_lay) := goodIn_app (goodIn_of _ (by decide +kernel)) ggX7_costOf_X2_lay
set_option maxRecDepth 20000 in
theorem ggX7_costOf_X2_gatherings : GoodIn wsX7_costOf wsX2_gatherings := goodIn_r _ [67, 9, 104, 105, 106, 107, 108, 109, 110] (by decide +kernel) (by decide +kernel)
set_option maxRecDepth 20000 in
theorem gX7_costOf_X2_gatherings : GoodIn wsX7_costOf (wsV RX7 211 RX2 yX2_gatherings wsX2_gatherings) := goodIn_app (goodIn_of _ (by decide +kernel)) ggX7_costOf_X2_gatherings
set_option maxRecDepth 20000 in
theorem ggX7_costOf_X0_costOfGathering : GoodIn wsX7_costOf wsX0_costOfGathering := goodIn_r _ [71, 72, 11, 12, 13, 14, 15, 16, 17, 18, 19, 20, 21, 111, 112] (by decide +kernel) (by decide +kernel)
set_option maxRecDepth 20000 in
theorem gX7_costOf_X0_costOfGathering : GoodIn wsX7_costOf (wsV RX7 241 RX0 yX0_costOfGathering wsX0_costOfGathering) := goodIn_app (goodIn_of _ (by decide +kernel)) ggX7_costOf_X0_costOfGathering
set_option maxRecDepth 20000 in
theorem ggX7_costOf_X2_colouredSides : GoodIn wsX7_costOf wsX2_colouredSides := goodIn_r _ [76, 9, 77, 78, 79, 5, 80, 7, 81, 59, 82, 83, 84, 85, 86, 41, 87, 17, 18, 19, 20, 21, 104, 105, 106, 107, 108, 109, 110, 112] (by decide +kernel) (by decide +kernel)
set_option maxRecDepth 20000 in
theorem gX7_costOf_X2_colouredSides : GoodIn wsX7_costOf (wsV RX7 235 RX2 yX2_colouredSides wsX2_colouredSides) := goodIn_app (goodIn_of _ (by decide +kernel)) ggX7_costOf_X2_colouredSides
set_option maxRecDepth 20000 in
theorem ggX7_costOf_X0_setting : GoodIn wsX7_costOf wsX0_setting := goodIn_r _ [14, 15, 16, 17, 18, 19, 20, 21, 111, 112] (by decide +kernel) (by decide +kernel)
set_option maxRecDepth 20000 in
theorem gX7_costOf_X0_setting : GoodIn wsX7_costOf (wsV RX7 143 RX0 yX0_setting wsX0_setting) := goodIn_app (goodIn_of _ (by decide +kernel)) ggX7_costOf_X0_setting
set_option maxRecDepth 20000 in
theorem ggX7_costOf_X0_blanks : GoodIn wsX7_costOf wsX0_blanks := goodIn_r _ [92, 93, 23, 24, 13, 25, 15, 16, 17, 18, 19, 20, 21, 94, 33, 34, 35, 111, 112] (by decide +kernel) (by decide +kernel)
set_option maxRecDepth 20000 in
theorem gX7_costOf_X0_blanks : GoodIn wsX7_costOf (wsV RX7 238 RX0 yX0_blanks wsX0_blanks) := goodIn_app (goodIn_of _ (by decide +kernel)) ggX7_costOf_X0_blanks
theorem dX7_costOf_0 : decode cX7_costOf 0 = .ok (.aload_n 0, 1) := by decide +kernel
theorem dX7_costOf_1 : decode cX7_costOf 1 = .ok (.getfield 50, 3) := by decide +kernel
theorem dX7_costOf_4 : decode cX7_costOf 4 = .ok (.aload_n 1, 1) := by decide +kernel
theorem dX7_costOf_5 : decode cX7_costOf 5 = .ok (.invokevirtual 181, 3) := by decide +kernel
theorem dX7_costOf_8 : decode cX7_costOf 8 = .ok (.aload_n 0, 1) := by decide +kernel
theorem dX7_costOf_9 : decode cX7_costOf 9 = .ok (.getfield 50, 3) := by decide +kernel
theorem dX7_costOf_12 : decode cX7_costOf 12 = .ok (.invokevirtual 211, 3) := by decide +kernel
theorem dX7_costOf_15 : decode cX7_costOf 15 = .ok (.aload_n 1, 1) := by decide +kernel
theorem dX7_costOf_16 : decode cX7_costOf 16 = .ok (.invokevirtual 241, 3) := by decide +kernel
theorem dX7_costOf_19 : decode cX7_costOf 19 = .ok (.imul, 1) := by decide +kernel
theorem dX7_costOf_20 : decode cX7_costOf 20 = .ok (.aload_n 0, 1) := by decide +kernel
theorem dX7_costOf_21 : decode cX7_costOf 21 = .ok (.getfield 50, 3) := by decide +kernel
theorem dX7_costOf_24 : decode cX7_costOf 24 = .ok (.invokevirtual 235, 3) := by decide +kernel
theorem dX7_costOf_27 : decode cX7_costOf 27 = .ok (.aload_n 1, 1) := by decide +kernel
theorem dX7_costOf_28 : decode cX7_costOf 28 = .ok (.iconst 2, 1) := by decide +kernel
theorem dX7_costOf_29 : decode cX7_costOf 29 = .ok (.invokevirtual 143, 3) := by decide +kernel
theorem dX7_costOf_32 : decode cX7_costOf 32 = .ok (.imul, 1) := by decide +kernel
theorem dX7_costOf_33 : decode cX7_costOf 33 = .ok (.iadd, 1) := by decide +kernel
theorem dX7_costOf_34 : decode cX7_costOf 34 = .ok (.aload_n 1, 1) := by decide +kernel
theorem dX7_costOf_35 : decode cX7_costOf 35 = .ok (.invokevirtual 238, 3) := by decide +kernel
theorem dX7_costOf_38 : decode cX7_costOf 38 = .ok (.aload_n 1, 1) := by decide +kernel
theorem dX7_costOf_39 : decode cX7_costOf 39 = .ok (.iconst 3, 1) := by decide +kernel
theorem dX7_costOf_40 : decode cX7_costOf 40 = .ok (.invokevirtual 143, 3) := by decide +kernel
theorem dX7_costOf_43 : decode cX7_costOf 43 = .ok (.imul, 1) := by decide +kernel
theorem dX7_costOf_44 : decode cX7_costOf 44 = .ok (.iadd, 1) := by decide +kernel
theorem dX7_costOf_45 : decode cX7_costOf 45 = .ok (.ireturn, 1) := by decide +kernel
set_option maxRecDepth 20000 in
theorem ggX7_facingPlates_X0_lots : GoodIn wsX7_facingPlates wsX0_lots := goodIn_r _ [7, 8, 9, 10, 11, 12, 13, 14, 58, 59] (by decide +kernel) (by decide +kernel)
set_option maxRecDepth 20000 in
theorem gX7_facingPlates_X0_lots : GoodIn wsX7_facingPlates (wsV RX7 68 RX0 yX0_lots wsX0_lots) := goodIn_app (goodIn_of _ (by decide +kernel)) ggX7_facingPlates_X0_lots
set_option maxRecDepth 20000 in
theorem ggX7_facingPlates_X0_plate : GoodIn wsX7_facingPlates wsX0_plate := goodIn_r _ [18, 8, 9, 10, 11, 12, 13, 14, 58, 59] (by decide +kernel) (by decide +kernel)
set_option maxRecDepth 20000 in
theorem gX7_facingPlates_X0_plate : GoodIn wsX7_facingPlates (wsV RX7 105 RX0 yX0_plate wsX0_plate) := goodIn_app (goodIn_of _ (by decide +kernel)) ggX7_facingPlates_X0_plate
set_option maxRecDepth 20000 in
theorem ggX7_facingPlates_X2_whyNotFacing : GoodIn wsX7_facingPlates wsX2_whyNotFacing := goodIn_r _ [23, 24, 25, 26, 22, 27, 28, 29, 10, 11, 12, 13, 14, 30, 31, 32, 33, 34, 35, 36, 37, 38, 39, 40, 41, 42, 43, 44, 45, 46, 47, 48, 60, 61, 62, 63, 64, 65, 66, 59] (by decide +kernel) (by decide +kernel)
set_option maxRecDepth 20000 in
theorem gX7_facingPlates_X2_whyNotFacing : GoodIn wsX7_facingPlates (wsV RX7 190 RX2 yX2_whyNotFacing wsX2_whyNotFacing) := goodIn_app (goodIn_of _ (by decide +kernel)) ggX7_facingPlates_X2_whyNotFacing
theorem dX7_facingPlates_0 : decode cX7_facingPlates 0 = .ok (.iconst 0, 1) := by decide +kernel
theorem dX7_facingPlates_1 : decode cX7_facingPlates 1 = .ok (.istore_n 1, 1) := by decide +kernel
theorem dX7_facingPlates_2 : decode cX7_facingPlates 2 = .ok (.iconst 0, 1) := by decide +kernel
theorem dX7_facingPlates_3 : decode cX7_facingPlates 3 = .ok (.istore_n 2, 1) := by decide +kernel
theorem dX7_facingPlates_4 : decode cX7_facingPlates 4 = .ok (.iload_n 2, 1) := by decide +kernel
theorem dX7_facingPlates_5 : decode cX7_facingPlates 5 = .ok (.aload_n 0, 1) := by decide +kernel
theorem dX7_facingPlates_6 : decode cX7_facingPlates 6 = .ok (.getfield 10, 3) := by decide +kernel
theorem dX7_facingPlates_9 : decode cX7_facingPlates 9 = .ok (.invokevirtual 68, 3) := by decide +kernel
theorem dX7_facingPlates_12 : decode cX7_facingPlates 12 = .ok (.if_icmp .ge 34, 3) := by decide +kernel
theorem dX7_facingPlates_15 : decode cX7_facingPlates 15 = .ok (.aload_n 0, 1) := by decide +kernel
theorem dX7_facingPlates_16 : decode cX7_facingPlates 16 = .ok (.getfield 10, 3) := by decide +kernel
theorem dX7_facingPlates_19 : decode cX7_facingPlates 19 = .ok (.iload_n 2, 1) := by decide +kernel
theorem dX7_facingPlates_20 : decode cX7_facingPlates 20 = .ok (.invokevirtual 105, 3) := by decide +kernel
theorem dX7_facingPlates_23 : decode cX7_facingPlates 23 = .ok (.ifCond .eq 17, 3) := by decide +kernel
theorem dX7_facingPlates_26 : decode cX7_facingPlates 26 = .ok (.aload_n 0, 1) := by decide +kernel
theorem dX7_facingPlates_27 : decode cX7_facingPlates 27 = .ok (.getfield 50, 3) := by decide +kernel
theorem dX7_facingPlates_30 : decode cX7_facingPlates 30 = .ok (.iload_n 2, 1) := by decide +kernel
theorem dX7_facingPlates_31 : decode cX7_facingPlates 31 = .ok (.invokevirtual 190, 3) := by decide +kernel
theorem dX7_facingPlates_34 : decode cX7_facingPlates 34 = .ok (.ifCond .ne 6, 3) := by decide +kernel
theorem dX7_facingPlates_37 : decode cX7_facingPlates 37 = .ok (.iinc 1 1, 3) := by decide +kernel
theorem dX7_facingPlates_40 : decode cX7_facingPlates 40 = .ok (.iinc 2 1, 3) := by decide +kernel
theorem dX7_facingPlates_43 : decode cX7_facingPlates 43 = .ok (.goto (-39), 3) := by decide +kernel
theorem dX7_facingPlates_46 : decode cX7_facingPlates 46 = .ok (.iload_n 1, 1) := by decide +kernel
theorem dX7_facingPlates_47 : decode cX7_facingPlates 47 = .ok (.ireturn, 1) := by decide +kernel
theorem dX7_gatheringOfPage_0 : decode cX7_gatheringOfPage 0 = .ok (.iload_n 0, 1) := by decide +kernel
theorem dX7_gatheringOfPage_1 : decode cX7_gatheringOfPage 1 = .ok (.iconst 1, 1) := by decide +kernel
theorem dX7_gatheringOfPage_2 : decode cX7_gatheringOfPage 2 = .ok (.if_icmp .lt 8, 3) := by decide +kernel
theorem dX7_gatheringOfPage_5 : decode cX7_gatheringOfPage 5 = .ok (.iload_n 1, 1) := by decide +kernel
theorem dX7_gatheringOfPage_6 : decode cX7_gatheringOfPage 6 = .ok (.iconst 1, 1) := by decide +kernel
theorem dX7_gatheringOfPage_7 : decode cX7_gatheringOfPage 7 = .ok (.if_icmp .ge 7, 3) := by decide +kernel
theorem dX7_gatheringOfPage_10 : decode cX7_gatheringOfPage 10 = .ok (.iconst 0, 1) := by decide +kernel
theorem dX7_gatheringOfPage_11 : decode cX7_gatheringOfPage 11 = .ok (.goto 8, 3) := by decide +kernel
theorem dX7_gatheringOfPage_14 : decode cX7_gatheringOfPage 14 = .ok (.iload_n 0, 1) := by decide +kernel
theorem dX7_gatheringOfPage_15 : decode cX7_gatheringOfPage 15 = .ok (.iconst 1, 1) := by decide +kernel
theorem dX7_gatheringOfPage_16 : decode cX7_gatheringOfPage 16 = .ok (.isub, 1) := by decide +kernel
theorem dX7_gatheringOfPage_17 : decode cX7_gatheringOfPage 17 = .ok (.iload_n 1, 1) := by decide +kernel
theorem dX7_gatheringOfPage_18 : decode cX7_gatheringOfPage 18 = .ok (.idiv, 1) := by decide +kernel
theorem dX7_gatheringOfPage_19 : decode cX7_gatheringOfPage 19 = .ok (.ireturn, 1) := by decide +kernel
set_option maxRecDepth 20000 in
theorem ggX7_gatheringsFor_X7_gatheringOfPage : GoodIn wsX7_gatheringsFor wsX7_gatheringOfPage := goodIn_r _ [4] (by decide +kernel) (by decide +kernel)
set_option maxRecDepth 20000 in
theorem gX7_gatheringsFor_X7_gatheringOfPage : GoodIn wsX7_gatheringsFor (va_wsS RX7 244 yX7_gatheringOfPage wsX7_gatheringOfPage) := goodIn_app (goodIn_of _ (by decide +kernel)) ggX7_gatheringsFor_X7_gatheringOfPage
theorem dX7_gatheringsFor_0 : decode cX7_gatheringsFor 0 = .ok (.iload_n 0, 1) := by decide +kernel
theorem dX7_gatheringsFor_1 : decode cX7_gatheringsFor 1 = .ok (.iconst 1, 1) := by decide +kernel
theorem dX7_gatheringsFor_2 : decode cX7_gatheringsFor 2 = .ok (.if_icmp .ge 7, 3) := by decide +kernel
theorem dX7_gatheringsFor_5 : decode cX7_gatheringsFor 5 = .ok (.iconst 0, 1) := by decide +kernel
theorem dX7_gatheringsFor_6 : decode cX7_gatheringsFor 6 = .ok (.goto 10, 3) := by decide +kernel
theorem dX7_gatheringsFor_9 : decode cX7_gatheringsFor 9 = .ok (.iload_n 0, 1) := by decide +kernel
theorem dX7_gatheringsFor_10 : decode cX7_gatheringsFor 10 = .ok (.iload_n 1, 1) := by decide +kernel
theorem dX7_gatheringsFor_11 : decode cX7_gatheringsFor 11 = .ok (.invokestatic 244, 3) := by decide +kernel
theorem dX7_gatheringsFor_14 : decode cX7_gatheringsFor 14 = .ok (.iconst 1, 1) := by decide +kernel
theorem dX7_gatheringsFor_15 : decode cX7_gatheringsFor 15 = .ok (.iadd, 1) := by decide +kernel
theorem dX7_gatheringsFor_16 : decode cX7_gatheringsFor 16 = .ok (.ireturn, 1) := by decide +kernel
theorem dX7_sideOfPage_0 : decode cX7_sideOfPage 0 = .ok (.iload_n 0, 1) := by decide +kernel
theorem dX7_sideOfPage_1 : decode cX7_sideOfPage 1 = .ok (.iconst 3, 1) := by decide +kernel
theorem dX7_sideOfPage_2 : decode cX7_sideOfPage 2 = .ok (.iand, 1) := by decide +kernel
theorem dX7_sideOfPage_3 : decode cX7_sideOfPage 3 = .ok (.istore_n 1, 1) := by decide +kernel
theorem dX7_sideOfPage_4 : decode cX7_sideOfPage 4 = .ok (.iload_n 1, 1) := by decide +kernel
theorem dX7_sideOfPage_5 : decode cX7_sideOfPage 5 = .ok (.ifCond .eq 8, 3) := by decide +kernel
theorem dX7_sideOfPage_8 : decode cX7_sideOfPage 8 = .ok (.iload_n 1, 1) := by decide +kernel
theorem dX7_sideOfPage_9 : decode cX7_sideOfPage 9 = .ok (.iconst 1, 1) := by decide +kernel
theorem dX7_sideOfPage_10 : decode cX7_sideOfPage 10 = .ok (.if_icmp .ne 7, 3) := by decide +kernel
theorem dX7_sideOfPage_13 : decode cX7_sideOfPage 13 = .ok (.iconst 0, 1) := by decide +kernel
theorem dX7_sideOfPage_14 : decode cX7_sideOfPage 14 = .ok (.goto 4, 3) := by decide +kernel
theorem dX7_sideOfPage_17 : decode cX7_sideOfPage 17 = .ok (.iconst 1, 1) := by decide +kernel
theorem dX7_sideOfPage_18 : decode cX7_sideOfPage 18 = .ok (.ireturn, 1) := by decide +kernel
theorem dX8_init_0 : decode cX8_init 0 = .ok (.aload_n 0, 1) := by decide +kernel
theorem dX8_init_1 : decode cX8_init 1 = .ok (.invokespecial 1, 3) := by decide +kernel
theorem dX8_init_4 : decode cX8_init 4 = .ok (.aload_n 0, 1) := by decide +kernel
theorem dX8_init_5 : decode cX8_init 5 = .ok (.bipush 54, 2) := by decide +kernel
theorem dX8_init_7 : decode cX8_init 7 = .ok (.newarray .int, 2) := by decide +kernel
theorem dX8_init_9 : decode cX8_init 9 = .ok (.putfield 7, 3) := by decide +kernel
theorem dX8_init_12 : decode cX8_init 12 = .ok (.aload_n 0, 1) := by decide +kernel
theorem dX8_init_13 : decode cX8_init 13 = .ok (.bipush 54, 2) := by decide +kernel
theorem dX8_init_15 : decode cX8_init 15 = .ok (.newarray .int, 2) := by decide +kernel
theorem dX8_init_17 : decode cX8_init 17 = .ok (.putfield 13, 3) := by decide +kernel
theorem dX8_init_20 : decode cX8_init 20 = .ok (.aload_n 0, 1) := by decide +kernel
theorem dX8_init_21 : decode cX8_init 21 = .ok (.bipush 54, 2) := by decide +kernel
theorem dX8_init_23 : decode cX8_init 23 = .ok (.newarray .int, 2) := by decide +kernel
theorem dX8_init_25 : decode cX8_init 25 = .ok (.putfield 16, 3) := by decide +kernel
theorem dX8_init_28 : decode cX8_init 28 = .ok (.aload_n 0, 1) := by decide +kernel
theorem dX8_init_29 : decode cX8_init 29 = .ok (.sipush 216, 3) := by decide +kernel
theorem dX8_init_32 : decode cX8_init 32 = .ok (.newarray .int, 2) := by decide +kernel
theorem dX8_init_34 : decode cX8_init 34 = .ok (.putfield 19, 3) := by decide +kernel
theorem dX8_init_37 : decode cX8_init 37 = .ok (.aload_n 0, 1) := by decide +kernel
theorem dX8_init_38 : decode cX8_init 38 = .ok (.bipush 54, 2) := by decide +kernel
theorem dX8_init_40 : decode cX8_init 40 = .ok (.newarray .int, 2) := by decide +kernel
theorem dX8_init_42 : decode cX8_init 42 = .ok (.putfield 22, 3) := by decide +kernel
theorem dX8_init_45 : decode cX8_init 45 = .ok (.aload_n 0, 1) := by decide +kernel
theorem dX8_init_46 : decode cX8_init 46 = .ok (.sipush 3328, 3) := by decide +kernel
theorem dX8_init_49 : decode cX8_init 49 = .ok (.newarray .int, 2) := by decide +kernel
theorem dX8_init_51 : decode cX8_init 51 = .ok (.putfield 25, 3) := by decide +kernel
theorem dX8_init_54 : decode cX8_init 54 = .ok (.aload_n 0, 1) := by decide +kernel
theorem dX8_init_55 : decode cX8_init 55 = .ok (.bipush 60, 2) := by decide +kernel
theorem dX8_init_57 : decode cX8_init 57 = .ok (.newarray .int, 2) := by decide +kernel
theorem dX8_init_59 : decode cX8_init 59 = .ok (.putfield 28, 3) := by decide +kernel
theorem dX8_init_62 : decode cX8_init 62 = .ok (.aload_n 0, 1) := by decide +kernel
theorem dX8_init_63 : decode cX8_init 63 = .ok (.bipush 48, 2) := by decide +kernel
theorem dX8_init_65 : decode cX8_init 65 = .ok (.newarray .int, 2) := by decide +kernel
theorem dX8_init_67 : decode cX8_init 67 = .ok (.putfield 31, 3) := by decide +kernel
theorem dX8_init_70 : decode cX8_init 70 = .ok (.aload_n 0, 1) := by decide +kernel
theorem dX8_init_71 : decode cX8_init 71 = .ok (.getfield 7, 3) := by decide +kernel
theorem dX8_init_74 : decode cX8_init 74 = .ok (.iconst 0, 1) := by decide +kernel
theorem dX8_init_75 : decode cX8_init 75 = .ok (.bipush 8, 2) := by decide +kernel
theorem dX8_init_77 : decode cX8_init 77 = .ok (.iastore, 1) := by decide +kernel
theorem dX8_init_78 : decode cX8_init 78 = .ok (.aload_n 0, 1) := by decide +kernel
theorem dX8_init_79 : decode cX8_init 79 = .ok (.getfield 7, 3) := by decide +kernel
theorem dX8_init_82 : decode cX8_init 82 = .ok (.iconst 1, 1) := by decide +kernel
theorem dX8_init_83 : decode cX8_init 83 = .ok (.bipush 10, 2) := by decide +kernel
theorem dX8_init_85 : decode cX8_init 85 = .ok (.iastore, 1) := by decide +kernel
theorem dX8_init_86 : decode cX8_init 86 = .ok (.aload_n 0, 1) := by decide +kernel
theorem dX8_init_87 : decode cX8_init 87 = .ok (.getfield 7, 3) := by decide +kernel
theorem dX8_init_90 : decode cX8_init 90 = .ok (.iconst 2, 1) := by decide +kernel
theorem dX8_init_91 : decode cX8_init 91 = .ok (.bipush 20, 2) := by decide +kernel
theorem dX8_init_93 : decode cX8_init 93 = .ok (.iastore, 1) := by decide +kernel
theorem dX8_init_94 : decode cX8_init 94 = .ok (.aload_n 0, 1) := by decide +kernel
theorem dX8_init_95 : decode cX8_init 95 = .ok (.getfield 7, 3) := by decide +kernel
theorem dX8_init_98 : decode cX8_init 98 = .ok (.iconst 3, 1) := by decide +kernel
theorem dX8_init_99 : decode cX8_init 99 = .ok (.iconst 1, 1) := by decide +kernel
theorem dX8_init_100 : decode cX8_init 100 = .ok (.iastore, 1) := by decide +kernel
theorem dX8_init_101 : decode cX8_init 101 = .ok (.aload_n 0, 1) := by decide +kernel
theorem dX8_init_102 : decode cX8_init 102 = .ok (.getfield 7, 3) := by decide +kernel
theorem dX8_init_105 : decode cX8_init 105 = .ok (.iconst 4, 1) := by decide +kernel
theorem dX8_init_106 : decode cX8_init 106 = .ok (.bipush 100, 2) := by decide +kernel
theorem dX8_init_108 : decode cX8_init 108 = .ok (.iastore, 1) := by decide +kernel
theorem dX8_init_109 : decode cX8_init 109 = .ok (.return_, 1) := by decide +kernel
theorem dX8_in_0 : decode cX8_in 0 = .ok (.lload_n 0, 1) := by decide +kernel
theorem dX8_in_1 : decode cX8_in 1 = .ok (.lload_n 2, 1) := by decide +kernel
theorem dX8_in_2 : decode cX8_in 2 = .ok (.lcmp, 1) := by decide +kernel
theorem dX8_in_3 : decode cX8_in 3 = .ok (.ifCond .lt 14, 3) := by decide +kernel
theorem dX8_in_6 : decode cX8_in 6 = .ok (.lload_n 0, 1) := by decide +kernel
theorem dX8_in_7 : decode cX8_in 7 = .ok (.lload 4, 2) := by decide +kernel
theorem dX8_in_9 : decode cX8_in 9 = .ok (.lcmp, 1) := by decide +kernel
theorem dX8_in_10 : decode cX8_in 10 = .ok (.ifCond .gt 7, 3) := by decide +kernel
theorem dX8_in_13 : decode cX8_in 13 = .ok (.iconst 1, 1) := by decide +kernel
theorem dX8_in_14 : decode cX8_in 14 = .ok (.goto 4, 3) := by decide +kernel
theorem dX8_in_17 : decode cX8_in 17 = .ok (.iconst 0, 1) := by decide +kernel
theorem dX8_in_18 : decode cX8_in 18 = .ok (.ireturn, 1) := by decide +kernel
theorem dX8_copy_0 : decode cX8_copy 0 = .ok (.iconst 0, 1) := by decide +kernel
theorem dX8_copy_1 : decode cX8_copy 1 = .ok (.istore_n 2, 1) := by decide +kernel
theorem dX8_copy_2 : decode cX8_copy 2 = .ok (.iload_n 2, 1) := by decide +kernel
theorem dX8_copy_3 : decode cX8_copy 3 = .ok (.bipush 54, 2) := by decide +kernel
theorem dX8_copy_5 : decode cX8_copy 5 = .ok (.if_icmp .ge 15, 3) := by decide +kernel
theorem dX8_copy_8 : decode cX8_copy 8 = .ok (.aload_n 1, 1) := by decide +kernel
theorem dX8_copy_9 : decode cX8_copy 9 = .ok (.iload_n 2, 1) := by decide +kernel
theorem dX8_copy_10 : decode cX8_copy 10 = .ok (.aload_n 0, 1) := by decide +kernel
theorem dX8_copy_11 : decode cX8_copy 11 = .ok (.iload_n 2, 1) := by decide +kernel
theorem dX8_copy_12 : decode cX8_copy 12 = .ok (.iaload, 1) := by decide +kernel
theorem dX8_copy_13 : decode cX8_copy 13 = .ok (.iastore, 1) := by decide +kernel
theorem dX8_copy_14 : decode cX8_copy 14 = .ok (.iinc 2 1, 3) := by decide +kernel
theorem dX8_copy_17 : decode cX8_copy 17 = .ok (.goto (-15), 3) := by decide +kernel
theorem dX8_copy_20 : decode cX8_copy 20 = .ok (.return_, 1) := by decide +kernel
set_option maxRecDepth 20000 in
theorem ggX8_remember_X8_copy : GoodIn wsX8_remember wsX8_copy := goodIn_r _ [6] (by decide +kernel) (by decide +kernel)
set_option maxRecDepth 20000 in
theorem gX8_remember_X8_copy : GoodIn wsX8_remember (va_wsS RX8 34 yX8_copy wsX8_copy) := goodIn_app (goodIn_of _ (by decide +kernel)) ggX8_remember_X8_copy
theorem dX8_remember_0 : decode cX8_remember 0 = .ok (.aload_n 0, 1) := by decide +kernel
theorem dX8_remember_1 : decode cX8_remember 1 = .ok (.getfield 7, 3) := by decide +kernel
theorem dX8_remember_4 : decode cX8_remember 4 = .ok (.aload_n 0, 1) := by decide +kernel
theorem dX8_remember_5 : decode cX8_remember 5 = .ok (.getfield 13, 3) := by decide +kernel
theorem dX8_remember_8 : decode cX8_remember 8 = .ok (.invokestatic 34, 3) := by decide +kernel
theorem dX8_remember_11 : decode cX8_remember 11 = .ok (.return_, 1) := by decide +kernel
theorem dX8_acted_0 : decode cX8_acted 0 = .ok (.aload_n 0, 1) := by decide +kernel
theorem dX8_acted_1 : decode cX8_acted 1 = .ok (.getfield 38, 3) := by decide +kernel
theorem dX8_acted_4 : decode cX8_acted 4 = .ok (.iconst 4, 1) := by decide +kernel
theorem dX8_acted_5 : decode cX8_acted 5 = .ok (.if_icmp .ne 43, 3) := by decide +kernel
theorem dX8_acted_8 : decode cX8_acted 8 = .ok (.iconst 0, 1) := by decide +kernel
theorem dX8_acted_9 : decode cX8_acted 9 = .ok (.istore_n 2, 1) := by decide +kernel
theorem dX8_acted_10 : decode cX8_acted 10 = .ok (.iload_n 2, 1) := by decide +kernel
theorem dX8_acted_11 : decode cX8_acted 11 = .ok (.sipush 162, 3) := by decide +kernel
theorem dX8_acted_14 : decode cX8_acted 14 = .ok (.if_icmp .ge 24, 3) := by decide +kernel
theorem dX8_acted_17 : decode cX8_acted 17 = .ok (.aload_n 0, 1) := by decide +kernel
theorem dX8_acted_18 : decode cX8_acted 18 = .ok (.getfield 19, 3) := by decide +kernel
theorem dX8_acted_21 : decode cX8_acted 21 = .ok (.iload_n 2, 1) := by decide +kernel
theorem dX8_acted_22 : decode cX8_acted 22 = .ok (.aload_n 0, 1) := by decide +kernel
theorem dX8_acted_23 : decode cX8_acted 23 = .ok (.getfield 19, 3) := by decide +kernel
theorem dX8_acted_26 : decode cX8_acted 26 = .ok (.iload_n 2, 1) := by decide +kernel
theorem dX8_acted_27 : decode cX8_acted 27 = .ok (.bipush 54, 2) := by decide +kernel
theorem dX8_acted_29 : decode cX8_acted 29 = .ok (.iadd, 1) := by decide +kernel
theorem dX8_acted_30 : decode cX8_acted 30 = .ok (.iaload, 1) := by decide +kernel
theorem dX8_acted_31 : decode cX8_acted 31 = .ok (.iastore, 1) := by decide +kernel
theorem dX8_acted_32 : decode cX8_acted 32 = .ok (.iinc 2 1, 3) := by decide +kernel
theorem dX8_acted_35 : decode cX8_acted 35 = .ok (.goto (-25), 3) := by decide +kernel
theorem dX8_acted_38 : decode cX8_acted 38 = .ok (.aload_n 0, 1) := by decide +kernel
theorem dX8_acted_39 : decode cX8_acted 39 = .ok (.dup, 1) := by decide +kernel
theorem dX8_acted_40 : decode cX8_acted 40 = .ok (.getfield 38, 3) := by decide +kernel
theorem dX8_acted_43 : decode cX8_acted 43 = .ok (.iconst 1, 1) := by decide +kernel
theorem dX8_acted_44 : decode cX8_acted 44 = .ok (.isub, 1) := by decide +kernel
theorem dX8_acted_45 : decode cX8_acted 45 = .ok (.putfield 38, 3) := by decide +kernel
theorem dX8_acted_48 : decode cX8_acted 48 = .ok (.iconst 0, 1) := by decide +kernel
theorem dX8_acted_49 : decode cX8_acted 49 = .ok (.istore_n 2, 1) := by decide +kernel
theorem dX8_acted_50 : decode cX8_acted 50 = .ok (.iload_n 2, 1) := by decide +kernel
theorem dX8_acted_51 : decode cX8_acted 51 = .ok (.bipush 54, 2) := by decide +kernel
theorem dX8_acted_53 : decode cX8_acted 53 = .ok (.if_icmp .ge 29, 3) := by decide +kernel
theorem dX8_acted_56 : decode cX8_acted 56 = .ok (.aload_n 0, 1) := by decide +kernel
theorem dX8_acted_57 : decode cX8_acted 57 = .ok (.getfield 19, 3) := by decide +kernel
theorem dX8_acted_60 : decode cX8_acted 60 = .ok (.bipush 54, 2) := by decide +kernel
theorem dX8_acted_62 : decode cX8_acted 62 = .ok (.aload_n 0, 1) := by decide +kernel
theorem dX8_acted_63 : decode cX8_acted 63 = .ok (.getfield 38, 3) := by decide +kernel
theorem dX8_acted_66 : decode cX8_acted 66 = .ok (.imul, 1) := by decide +kernel
theorem dX8_acted_67 : decode cX8_acted 67 = .ok (.iload_n 2, 1) := by decide +kernel
theorem dX8_acted_68 : decode cX8_acted 68 = .ok (.iadd, 1) := by decide +kernel
theorem dX8_acted_69 : decode cX8_acted 69 = .ok (.aload_n 0, 1) := by decide +kernel
theorem dX8_acted_70 : decode cX8_acted 70 = .ok (.getfield 13, 3) := by decide +kernel
theorem dX8_acted_73 : decode cX8_acted 73 = .ok (.iload_n 2, 1) := by decide +kernel
theorem dX8_acted_74 : decode cX8_acted 74 = .ok (.iaload, 1) := by decide +kernel
theorem dX8_acted_75 : decode cX8_acted 75 = .ok (.iastore, 1) := by decide +kernel
theorem dX8_acted_76 : decode cX8_acted 76 = .ok (.iinc 2 1, 3) := by decide +kernel
theorem dX8_acted_79 : decode cX8_acted 79 = .ok (.goto (-29), 3) := by decide +kernel
theorem dX8_acted_82 : decode cX8_acted 82 = .ok (.aload_n 0, 1) := by decide +kernel
theorem dX8_acted_83 : decode cX8_acted 83 = .ok (.dup, 1) := by decide +kernel
theorem dX8_acted_84 : decode cX8_acted 84 = .ok (.getfield 38, 3) := by decide +kernel
theorem dX8_acted_87 : decode cX8_acted 87 = .ok (.iconst 1, 1) := by decide +kernel
theorem dX8_acted_88 : decode cX8_acted 88 = .ok (.iadd, 1) := by decide +kernel
theorem dX8_acted_89 : decode cX8_acted 89 = .ok (.putfield 38, 3) := by decide +kernel
theorem dX8_acted_92 : decode cX8_acted 92 = .ok (.iload_n 1, 1) := by decide +kernel
theorem dX8_acted_93 : decode cX8_acted 93 = .ok (.ireturn, 1) := by decide +kernel
set_option maxRecDepth 20000 in
theorem ggX8_isLot_X8_in : GoodIn wsX8_isLot wsX8_in := goodIn_r _ [5] (by decide +kernel) (by decide +kernel)
set_option maxRecDepth 20000 in
theorem gX8_isLot_X8_in : GoodIn wsX8_isLot (va_wsS RX8 42 yX8_in wsX8_in) := goodIn_app (goodIn_of _ (by decide +kernel)) ggX8_isLot_X8_in
theorem dX8_isLot_0 : decode cX8_isLot 0 = .ok (.iload_n 1, 1) := by decide +kernel
theorem dX8_isLot_1 : decode cX8_isLot 1 = .ok (.i2l, 1) := by decide +kernel
theorem dX8_isLot_2 : decode cX8_isLot 2 = .ok (.lconst 0, 1) := by decide +kernel
theorem dX8_isLot_3 : decode cX8_isLot 3 = .ok (.aload_n 0, 1) := by decide +kernel
theorem dX8_isLot_4 : decode cX8_isLot 4 = .ok (.getfield 7, 3) := by decide +kernel
theorem dX8_isLot_7 : decode cX8_isLot 7 = .ok (.iconst 5, 1) := by decide +kernel
theorem dX8_isLot_8 : decode cX8_isLot 8 = .ok (.iaload, 1) := by decide +kernel
theorem dX8_isLot_9 : decode cX8_isLot 9 = .ok (.i2l, 1) := by decide +kernel
theorem dX8_isLot_10 : decode cX8_isLot 10 = .ok (.lconst 1, 1) := by decide +kernel
theorem dX8_isLot_11 : decode cX8_isLot 11 = .ok (.lsub, 1) := by decide +kernel
theorem dX8_isLot_12 : decode cX8_isLot 12 = .ok (.invokestatic 42, 3) := by decide +kernel
theorem dX8_isLot_15 : decode cX8_isLot 15 = .ok (.ireturn, 1) := by decide +kernel
theorem dX8_textOf_0 : decode cX8_textOf 0 = .ok (.aload_n 0, 1) := by decide +kernel
theorem dX8_textOf_1 : decode cX8_textOf 1 = .ok (.getfield 7, 3) := by decide +kernel
theorem dX8_textOf_4 : decode cX8_textOf 4 = .ok (.bipush 6, 2) := by decide +kernel
theorem dX8_textOf_6 : decode cX8_textOf 6 = .ok (.iload_n 1, 1) := by decide +kernel
theorem dX8_textOf_7 : decode cX8_textOf 7 = .ok (.iadd, 1) := by decide +kernel
theorem dX8_textOf_8 : decode cX8_textOf 8 = .ok (.iaload, 1) := by decide +kernel
theorem dX8_textOf_9 : decode cX8_textOf 9 = .ok (.ireturn, 1) := by decide +kernel
theorem dX8_hasPlate_0 : decode cX8_hasPlate 0 = .ok (.aload_n 0, 1) := by decide +kernel
theorem dX8_hasPlate_1 : decode cX8_hasPlate 1 = .ok (.getfield 7, 3) := by decide +kernel
theorem dX8_hasPlate_4 : decode cX8_hasPlate 4 = .ok (.bipush 18, 2) := by decide +kernel
theorem dX8_hasPlate_6 : decode cX8_hasPlate 6 = .ok (.iload_n 1, 1) := by decide +kernel
theorem dX8_hasPlate_7 : decode cX8_hasPlate 7 = .ok (.iadd, 1) := by decide +kernel
theorem dX8_hasPlate_8 : decode cX8_hasPlate 8 = .ok (.iaload, 1) := by decide +kernel
theorem dX8_hasPlate_9 : decode cX8_hasPlate 9 = .ok (.ifCond .le 7, 3) := by decide +kernel
theorem dX8_hasPlate_12 : decode cX8_hasPlate 12 = .ok (.iconst 1, 1) := by decide +kernel
theorem dX8_hasPlate_13 : decode cX8_hasPlate 13 = .ok (.goto 4, 3) := by decide +kernel
theorem dX8_hasPlate_16 : decode cX8_hasPlate 16 = .ok (.iconst 0, 1) := by decide +kernel
theorem dX8_hasPlate_17 : decode cX8_hasPlate 17 = .ok (.ireturn, 1) := by decide +kernel
set_option maxRecDepth 20000 in
theorem ggX8_lengthOf_X8_textOf : GoodIn wsX8_lengthOf wsX8_textOf := goodIn_r _ [5, 6, 11, 12, 13, 14, 15, 16, 17, 18, 19, 20, 21, 22, 23, 24, 25, 26] (by decide +kernel) (by decide +kernel)
set_option maxRecDepth 20000 in
theorem gX8_lengthOf_X8_textOf : GoodIn wsX8_lengthOf (wsV RX8 46 RX8 yX8_textOf wsX8_textOf) := goodIn_app (goodIn_of _ (by decide +kernel)) ggX8_lengthOf_X8_textOf
set_option maxRecDepth 20000 in
theorem ggX8_lengthOf_X8_hasPlate : GoodIn wsX8_lengthOf wsX8_hasPlate := goodIn_r _ [10, 6, 11, 12, 13, 14, 15, 16, 17, 18, 19, 20, 21, 22, 23, 24, 25, 26] (by decide +kernel) (by decide +kernel)
set_option maxRecDepth 20000 in
theorem gX8_lengthOf_X8_hasPlate : GoodIn wsX8_lengthOf (wsV RX8 50 RX8 yX8_hasPlate wsX8_hasPlate) := goodIn_app (goodIn_of _ (by decide +kernel)) ggX8_lengthOf_X8_hasPlate
theorem dX8_lengthOf_0 : decode cX8_lengthOf 0 = .ok (.aload_n 0, 1) := by decide +kernel
theorem dX8_lengthOf_1 : decode cX8_lengthOf 1 = .ok (.iload_n 1, 1) := by decide +kernel
theorem dX8_lengthOf_2 : decode cX8_lengthOf 2 = .ok (.invokevirtual 46, 3) := by decide +kernel
theorem dX8_lengthOf_5 : decode cX8_lengthOf 5 = .ok (.aload_n 0, 1) := by decide +kernel
theorem dX8_lengthOf_6 : decode cX8_lengthOf 6 = .ok (.iload_n 1, 1) := by decide +kernel
theorem dX8_lengthOf_7 : decode cX8_lengthOf 7 = .ok (.invokevirtual 50, 3) := by decide +kernel
theorem dX8_lengthOf_10 : decode cX8_lengthOf 10 = .ok (.ifCond .eq 7, 3) := by decide +kernel
theorem dX8_lengthOf_13 : decode cX8_lengthOf 13 = .ok (.iconst 1, 1) := by decide +kernel
theorem dX8_lengthOf_14 : decode cX8_lengthOf 14 = .ok (.goto 4, 3) := by decide +kernel
theorem dX8_lengthOf_17 : decode cX8_lengthOf 17 = .ok (.iconst 0, 1) := by decide +kernel
theorem dX8_lengthOf_18 : decode cX8_lengthOf 18 = .ok (.iadd, 1) := by decide +kernel
theorem dX8_lengthOf_19 : decode cX8_lengthOf 19 = .ok (.ireturn, 1) := by decide +kernel
set_option maxRecDepth 20000 in
theorem ggX8_pagesOfLots_X8_lengthOf : GoodIn wsX8_pagesOfLots wsX8_lengthOf := goodIn_r _ [6, 7, 8, 9, 5, 10, 1, 11, 12, 13, 14, 15, 16, 17, 18, 19, 20, 21, 22, 23, 24, 25, 26, 27, 28, 29, 30] (by decide +kernel) (by decide +kernel)
set_option maxRecDepth 20000 in
theorem gX8_pagesOfLots_X8_lengthOf : GoodIn wsX8_pagesOfLots (wsV RX8 54 RX8 yX8_lengthOf wsX8_lengthOf) := goodIn_app (goodIn_of _ (by decide +kernel)) ggX8_pagesOfLots_X8_lengthOf
theorem dX8_pagesOfLots_0 : decode cX8_pagesOfLots 0 = .ok (.iconst 0, 1) := by decide +kernel
theorem dX8_pagesOfLots_1 : decode cX8_pagesOfLots 1 = .ok (.istore_n 1, 1) := by decide +kernel
theorem dX8_pagesOfLots_2 : decode cX8_pagesOfLots 2 = .ok (.iconst 0, 1) := by decide +kernel
theorem dX8_pagesOfLots_3 : decode cX8_pagesOfLots 3 = .ok (.istore_n 2, 1) := by decide +kernel
theorem dX8_pagesOfLots_4 : decode cX8_pagesOfLots 4 = .ok (.iload_n 2, 1) := by decide +kernel
theorem dX8_pagesOfLots_5 : decode cX8_pagesOfLots 5 = .ok (.aload_n 0, 1) := by decide +kernel
theorem dX8_pagesOfLots_6 : decode cX8_pagesOfLots 6 = .ok (.getfield 7, 3) := by decide +kernel
theorem dX8_pagesOfLots_9 : decode cX8_pagesOfLots 9 = .ok (.iconst 5, 1) := by decide +kernel
theorem dX8_pagesOfLots_10 : decode cX8_pagesOfLots 10 = .ok (.iaload, 1) := by decide +kernel
theorem dX8_pagesOfLots_11 : decode cX8_pagesOfLots 11 = .ok (.if_icmp .ge 27, 3) := by decide +kernel
theorem dX8_pagesOfLots_14 : decode cX8_pagesOfLots 14 = .ok (.iload_n 1, 1) := by decide +kernel
theorem dX8_pagesOfLots_15 : decode cX8_pagesOfLots 15 = .ok (.aload_n 0, 1) := by decide +kernel
theorem dX8_pagesOfLots_16 : decode cX8_pagesOfLots 16 = .ok (.getfield 7, 3) := by decide +kernel
theorem dX8_pagesOfLots_19 : decode cX8_pagesOfLots 19 = .ok (.bipush 30, 2) := by decide +kernel
theorem dX8_pagesOfLots_21 : decode cX8_pagesOfLots 21 = .ok (.iload_n 2, 1) := by decide +kernel
theorem dX8_pagesOfLots_22 : decode cX8_pagesOfLots 22 = .ok (.iadd, 1) := by decide +kernel
theorem dX8_pagesOfLots_23 : decode cX8_pagesOfLots 23 = .ok (.iaload, 1) := by decide +kernel
theorem dX8_pagesOfLots_24 : decode cX8_pagesOfLots 24 = .ok (.aload_n 0, 1) := by decide +kernel
theorem dX8_pagesOfLots_25 : decode cX8_pagesOfLots 25 = .ok (.iload_n 2, 1) := by decide +kernel
theorem dX8_pagesOfLots_26 : decode cX8_pagesOfLots 26 = .ok (.invokevirtual 54, 3) := by decide +kernel
theorem dX8_pagesOfLots_29 : decode cX8_pagesOfLots 29 = .ok (.iadd, 1) := by decide +kernel
theorem dX8_pagesOfLots_30 : decode cX8_pagesOfLots 30 = .ok (.iadd, 1) := by decide +kernel
theorem dX8_pagesOfLots_31 : decode cX8_pagesOfLots 31 = .ok (.istore_n 1, 1) := by decide +kernel
theorem dX8_pagesOfLots_32 : decode cX8_pagesOfLots 32 = .ok (.iinc 2 1, 3) := by decide +kernel
theorem dX8_pagesOfLots_35 : decode cX8_pagesOfLots 35 = .ok (.goto (-31), 3) := by decide +kernel
theorem dX8_pagesOfLots_38 : decode cX8_pagesOfLots 38 = .ok (.iload_n 1, 1) := by decide +kernel
theorem dX8_pagesOfLots_39 : decode cX8_pagesOfLots 39 = .ok (.ireturn, 1) := by decide +kernel
theorem dX8_gatheringsFor_0 : decode cX8_gatheringsFor 0 = .ok (.iload_n 1, 1) := by decide +kernel
theorem dX8_gatheringsFor_1 : decode cX8_gatheringsFor 1 = .ok (.aload_n 0, 1) := by decide +kernel
theorem dX8_gatheringsFor_2 : decode cX8_gatheringsFor 2 = .ok (.getfield 7, 3) := by decide +kernel
theorem dX8_gatheringsFor_5 : decode cX8_gatheringsFor 5 = .ok (.iconst 0, 1) := by decide +kernel
theorem dX8_gatheringsFor_6 : decode cX8_gatheringsFor 6 = .ok (.iaload, 1) := by decide +kernel
theorem dX8_gatheringsFor_7 : decode cX8_gatheringsFor 7 = .ok (.iadd, 1) := by decide +kernel
theorem dX8_gatheringsFor_8 : decode cX8_gatheringsFor 8 = .ok (.iconst 1, 1) := by decide +kernel
theorem dX8_gatheringsFor_9 : decode cX8_gatheringsFor 9 = .ok (.isub, 1) := by decide +kernel
theorem dX8_gatheringsFor_10 : decode cX8_gatheringsFor 10 = .ok (.aload_n 0, 1) := by decide +kernel
theorem dX8_gatheringsFor_11 : decode cX8_gatheringsFor 11 = .ok (.getfield 7, 3) := by decide +kernel
theorem dX8_gatheringsFor_14 : decode cX8_gatheringsFor 14 = .ok (.iconst 0, 1) := by decide +kernel
theorem dX8_gatheringsFor_15 : decode cX8_gatheringsFor 15 = .ok (.iaload, 1) := by decide +kernel
theorem dX8_gatheringsFor_16 : decode cX8_gatheringsFor 16 = .ok (.idiv, 1) := by decide +kernel
theorem dX8_gatheringsFor_17 : decode cX8_gatheringsFor 17 = .ok (.ireturn, 1) := by decide +kernel
set_option maxRecDepth 20000 in
theorem ggX8_gatherings_X8_pagesOfLots : GoodIn wsX8_gatherings wsX8_pagesOfLots := goodIn_r _ [5, 6, 7, 8, 9, 4, 10, 11, 12, 13, 14, 15, 16, 17, 18, 23, 24, 25, 26, 27, 28, 29, 30, 31, 32, 33, 34, 35, 36, 37, 38] (by decide +kernel) (by decide +kernel)
set_option maxRecDepth 20000 in
theorem gX8_gatherings_X8_pagesOfLots : GoodIn wsX8_gatherings (wsV RX8 57 RX8 yX8_pagesOfLots wsX8_pagesOfLots) := goodIn_app (goodIn_of _ (by decide +kernel)) ggX8_gatherings_X8_pagesOfLots
set_option maxRecDepth 20000 in
theorem ggX8_gatherings_X8_gatheringsFor : GoodIn wsX8_gatherings wsX8_gatheringsFor := goodIn_r _ [22, 6, 23, 24, 25, 26, 27, 28, 29, 30, 31, 32, 33, 34, 35, 36, 37, 38] (by decide +kernel) (by decide +kernel)
set_option maxRecDepth 20000 in
theorem gX8_gatherings_X8_gatheringsFor : GoodIn wsX8_gatherings (wsV RX8 61 RX8 yX8_gatheringsFor wsX8_gatheringsFor) := goodIn_app (goodIn_of _ (by decide +kernel)) ggX8_gatherings_X8_gatheringsFor
theorem dX8_gatherings_0 : decode cX8_gatherings 0 = .ok (.aload_n 0, 1) := by decide +kernel
theorem dX8_gatherings_1 : decode cX8_gatherings 1 = .ok (.aload_n 0, 1) := by decide +kernel
theorem dX8_gatherings_2 : decode cX8_gatherings 2 = .ok (.invokevirtual 57, 3) := by decide +kernel
theorem dX8_gatherings_5 : decode cX8_gatherings 5 = .ok (.invokevirtual 61, 3) := by decide +kernel
theorem dX8_gatherings_8 : decode cX8_gatherings 8 = .ok (.ireturn, 1) := by decide +kernel
set_option maxRecDepth 20000 in
theorem ggX8_firstPage_X8_lengthOf : GoodIn wsX8_firstPage wsX8_lengthOf := goodIn_r _ [6, 7, 8, 9, 5, 10, 1, 11, 12, 13, 14, 15, 16, 17, 18, 19, 20, 21, 22, 23, 24, 25, 26, 27, 28, 29, 30] (by decide +kernel) (by decide +kernel)
set_option maxRecDepth 20000 in
theorem gX8_firstPage_X8_lengthOf : GoodIn wsX8_firstPage (wsV RX8 54 RX8 yX8_lengthOf wsX8_lengthOf) := goodIn_app (goodIn_of _ (by decide +kernel)) ggX8_firstPage_X8_lengthOf
theorem dX8_firstPage_0 : decode cX8_firstPage 0 = .ok (.iconst 1, 1) := by decide +kernel
theorem dX8_firstPage_1 : decode cX8_firstPage 1 = .ok (.istore_n 2, 1) := by decide +kernel
theorem dX8_firstPage_2 : decode cX8_firstPage 2 = .ok (.iconst 0, 1) := by decide +kernel
theorem dX8_firstPage_3 : decode cX8_firstPage 3 = .ok (.istore_n 3, 1) := by decide +kernel
theorem dX8_firstPage_4 : decode cX8_firstPage 4 = .ok (.iload_n 3, 1) := by decide +kernel
theorem dX8_firstPage_5 : decode cX8_firstPage 5 = .ok (.iload_n 1, 1) := by decide +kernel
theorem dX8_firstPage_6 : decode cX8_firstPage 6 = .ok (.if_icmp .ge 27, 3) := by decide +kernel
theorem dX8_firstPage_9 : decode cX8_firstPage 9 = .ok (.iload_n 2, 1) := by decide +kernel
theorem dX8_firstPage_10 : decode cX8_firstPage 10 = .ok (.aload_n 0, 1) := by decide +kernel
theorem dX8_firstPage_11 : decode cX8_firstPage 11 = .ok (.getfield 7, 3) := by decide +kernel
theorem dX8_firstPage_14 : decode cX8_firstPage 14 = .ok (.bipush 30, 2) := by decide +kernel
theorem dX8_firstPage_16 : decode cX8_firstPage 16 = .ok (.iload_n 3, 1) := by decide +kernel
theorem dX8_firstPage_17 : decode cX8_firstPage 17 = .ok (.iadd, 1) := by decide +kernel
theorem dX8_firstPage_18 : decode cX8_firstPage 18 = .ok (.iaload, 1) := by decide +kernel
theorem dX8_firstPage_19 : decode cX8_firstPage 19 = .ok (.aload_n 0, 1) := by decide +kernel
theorem dX8_firstPage_20 : decode cX8_firstPage 20 = .ok (.iload_n 3, 1) := by decide +kernel
theorem dX8_firstPage_21 : decode cX8_firstPage 21 = .ok (.invokevirtual 54, 3) := by decide +kernel
theorem dX8_firstPage_24 : decode cX8_firstPage 24 = .ok (.iadd, 1) := by decide +kernel
theorem dX8_firstPage_25 : decode cX8_firstPage 25 = .ok (.iadd, 1) := by decide +kernel
theorem dX8_firstPage_26 : decode cX8_firstPage 26 = .ok (.istore_n 2, 1) := by decide +kernel
theorem dX8_firstPage_27 : decode cX8_firstPage 27 = .ok (.iinc 3 1, 3) := by decide +kernel
theorem dX8_firstPage_30 : decode cX8_firstPage 30 = .ok (.goto (-26), 3) := by decide +kernel
theorem dX8_firstPage_33 : decode cX8_firstPage 33 = .ok (.iload_n 2, 1) := by decide +kernel
theorem dX8_firstPage_34 : decode cX8_firstPage 34 = .ok (.aload_n 0, 1) := by decide +kernel
theorem dX8_firstPage_35 : decode cX8_firstPage 35 = .ok (.getfield 7, 3) := by decide +kernel
theorem dX8_firstPage_38 : decode cX8_firstPage 38 = .ok (.bipush 30, 2) := by decide +kernel
theorem dX8_firstPage_40 : decode cX8_firstPage 40 = .ok (.iload_n 1, 1) := by decide +kernel
theorem dX8_firstPage_41 : decode cX8_firstPage 41 = .ok (.iadd, 1) := by decide +kernel
theorem dX8_firstPage_42 : decode cX8_firstPage 42 = .ok (.iaload, 1) := by decide +kernel
theorem dX8_firstPage_43 : decode cX8_firstPage 43 = .ok (.iadd, 1) := by decide +kernel
theorem dX8_firstPage_44 : decode cX8_firstPage 44 = .ok (.ireturn, 1) := by decide +kernel
set_option maxRecDepth 20000 in
theorem ggX8_platePage_X8_firstPage : GoodIn wsX8_platePage wsX8_firstPage := goodIn_r _ [6, 1, 7, 8, 9, 5, 10, 11, 12, 13, 14, 15, 16, 17, 18, 19, 20, 21, 22, 23, 24, 25, 26, 27, 28, 29, 30, 31, 32, 33, 34] (by decide +kernel) (by decide +kernel)
set_option maxRecDepth 20000 in
theorem gX8_platePage_X8_firstPage : GoodIn wsX8_platePage (wsV RX8 64 RX8 yX8_firstPage wsX8_firstPage) := goodIn_app (goodIn_of _ (by decide +kernel)) ggX8_platePage_X8_firstPage
theorem dX8_platePage_0 : decode cX8_platePage 0 = .ok (.aload_n 0, 1) := by decide +kernel
theorem dX8_platePage_1 : decode cX8_platePage 1 = .ok (.iload_n 1, 1) := by decide +kernel
theorem dX8_platePage_2 : decode cX8_platePage 2 = .ok (.invokevirtual 64, 3) := by decide +kernel
theorem dX8_platePage_5 : decode cX8_platePage 5 = .ok (.aload_n 0, 1) := by decide +kernel
theorem dX8_platePage_6 : decode cX8_platePage 6 = .ok (.getfield 7, 3) := by decide +kernel
theorem dX8_platePage_9 : decode cX8_platePage 9 = .ok (.bipush 42, 2) := by decide +kernel
theorem dX8_platePage_11 : decode cX8_platePage 11 = .ok (.iload_n 1, 1) := by decide +kernel
theorem dX8_platePage_12 : decode cX8_platePage 12 = .ok (.iadd, 1) := by decide +kernel
theorem dX8_platePage_13 : decode cX8_platePage 13 = .ok (.iaload, 1) := by decide +kernel
theorem dX8_platePage_14 : decode cX8_platePage 14 = .ok (.iadd, 1) := by decide +kernel
theorem dX8_platePage_15 : decode cX8_platePage 15 = .ok (.ireturn, 1) := by decide +kernel
theorem dX8_gatheringOf_0 : decode cX8_gatheringOf 0 = .ok (.iload_n 1, 1) := by decide +kernel
theorem dX8_gatheringOf_1 : decode cX8_gatheringOf 1 = .ok (.iconst 1, 1) := by decide +kernel
theorem dX8_gatheringOf_2 : decode cX8_gatheringOf 2 = .ok (.isub, 1) := by decide +kernel
theorem dX8_gatheringOf_3 : decode cX8_gatheringOf 3 = .ok (.aload_n 0, 1) := by decide +kernel
theorem dX8_gatheringOf_4 : decode cX8_gatheringOf 4 = .ok (.getfield 7, 3) := by decide +kernel
theorem dX8_gatheringOf_7 : decode cX8_gatheringOf 7 = .ok (.iconst 0, 1) := by decide +kernel
theorem dX8_gatheringOf_8 : decode cX8_gatheringOf 8 = .ok (.iaload, 1) := by decide +kernel
theorem dX8_gatheringOf_9 : decode cX8_gatheringOf 9 = .ok (.idiv, 1) := by decide +kernel
theorem dX8_gatheringOf_10 : decode cX8_gatheringOf 10 = .ok (.ireturn, 1) := by decide +kernel
theorem dX8_sideOf_0 : decode cX8_sideOf 0 = .ok (.iload_n 1, 1) := by decide +kernel
theorem dX8_sideOf_1 : decode cX8_sideOf 1 = .ok (.iconst 1, 1) := by decide +kernel
theorem dX8_sideOf_2 : decode cX8_sideOf 2 = .ok (.isub, 1) := by decide +kernel
theorem dX8_sideOf_3 : decode cX8_sideOf 3 = .ok (.aload_n 0, 1) := by decide +kernel
theorem dX8_sideOf_4 : decode cX8_sideOf 4 = .ok (.getfield 7, 3) := by decide +kernel
theorem dX8_sideOf_7 : decode cX8_sideOf 7 = .ok (.iconst 0, 1) := by decide +kernel
theorem dX8_sideOf_8 : decode cX8_sideOf 8 = .ok (.iaload, 1) := by decide +kernel
theorem dX8_sideOf_9 : decode cX8_sideOf 9 = .ok (.irem, 1) := by decide +kernel
theorem dX8_sideOf_10 : decode cX8_sideOf 10 = .ok (.iconst 1, 1) := by decide +kernel
theorem dX8_sideOf_11 : decode cX8_sideOf 11 = .ok (.iadd, 1) := by decide +kernel
theorem dX8_sideOf_12 : decode cX8_sideOf 12 = .ok (.istore_n 2, 1) := by decide +kernel
theorem dX8_sideOf_13 : decode cX8_sideOf 13 = .ok (.iload_n 2, 1) := by decide +kernel
theorem dX8_sideOf_14 : decode cX8_sideOf 14 = .ok (.iconst 4, 1) := by decide +kernel
theorem dX8_sideOf_15 : decode cX8_sideOf 15 = .ok (.irem, 1) := by decide +kernel
theorem dX8_sideOf_16 : decode cX8_sideOf 16 = .ok (.iconst 2, 1) := by decide +kernel
theorem dX8_sideOf_17 : decode cX8_sideOf 17 = .ok (.if_icmp .ge 7, 3) := by decide +kernel
theorem dX8_sideOf_20 : decode cX8_sideOf 20 = .ok (.iconst 0, 1) := by decide +kernel
theorem dX8_sideOf_21 : decode cX8_sideOf 21 = .ok (.goto 4, 3) := by decide +kernel
theorem dX8_sideOf_24 : decode cX8_sideOf 24 = .ok (.iconst 1, 1) := by decide +kernel
theorem dX8_sideOf_25 : decode cX8_sideOf 25 = .ok (.ireturn, 1) := by decide +kernel
set_option maxRecDepth 20000 in
theorem ggX8_lotAt_X8_lengthOf : GoodIn wsX8_lotAt wsX8_lengthOf := goodIn_r _ [6, 7, 8, 9, 5, 10, 1, 11, 12, 13, 14, 15, 16, 17, 18, 19, 20, 21, 22, 23, 24, 25, 26, 27, 28, 29, 30] (by decide +kernel) (by decide +kernel)
set_option maxRecDepth 20000 in
theorem gX8_lotAt_X8_lengthOf : GoodIn wsX8_lotAt (wsV RX8 54 RX8 yX8_lengthOf wsX8_lengthOf) := goodIn_app (goodIn_of _ (by decide +kernel)) ggX8_lotAt_X8_lengthOf
theorem dX8_lotAt_0 : decode cX8_lotAt 0 = .ok (.iload_n 1, 1) := by decide +kernel
theorem dX8_lotAt_1 : decode cX8_lotAt 1 = .ok (.istore_n 2, 1) := by decide +kernel
theorem dX8_lotAt_2 : decode cX8_lotAt 2 = .ok (.iconst 0, 1) := by decide +kernel
theorem dX8_lotAt_3 : decode cX8_lotAt 3 = .ok (.istore_n 3, 1) := by decide +kernel
theorem dX8_lotAt_4 : decode cX8_lotAt 4 = .ok (.iload_n 3, 1) := by decide +kernel
theorem dX8_lotAt_5 : decode cX8_lotAt 5 = .ok (.aload_n 0, 1) := by decide +kernel
theorem dX8_lotAt_6 : decode cX8_lotAt 6 = .ok (.getfield 7, 3) := by decide +kernel
theorem dX8_lotAt_9 : decode cX8_lotAt 9 = .ok (.iconst 5, 1) := by decide +kernel
theorem dX8_lotAt_10 : decode cX8_lotAt 10 = .ok (.iaload, 1) := by decide +kernel
theorem dX8_lotAt_11 : decode cX8_lotAt 11 = .ok (.if_icmp .ge 39, 3) := by decide +kernel
theorem dX8_lotAt_14 : decode cX8_lotAt 14 = .ok (.aload_n 0, 1) := by decide +kernel
theorem dX8_lotAt_15 : decode cX8_lotAt 15 = .ok (.getfield 7, 3) := by decide +kernel
theorem dX8_lotAt_18 : decode cX8_lotAt 18 = .ok (.bipush 30, 2) := by decide +kernel
theorem dX8_lotAt_20 : decode cX8_lotAt 20 = .ok (.iload_n 3, 1) := by decide +kernel
theorem dX8_lotAt_21 : decode cX8_lotAt 21 = .ok (.iadd, 1) := by decide +kernel
theorem dX8_lotAt_22 : decode cX8_lotAt 22 = .ok (.iaload, 1) := by decide +kernel
theorem dX8_lotAt_23 : decode cX8_lotAt 23 = .ok (.aload_n 0, 1) := by decide +kernel
theorem dX8_lotAt_24 : decode cX8_lotAt 24 = .ok (.iload_n 3, 1) := by decide +kernel
theorem dX8_lotAt_25 : decode cX8_lotAt 25 = .ok (.invokevirtual 54, 3) := by decide +kernel
theorem dX8_lotAt_28 : decode cX8_lotAt 28 = .ok (.iadd, 1) := by decide +kernel
theorem dX8_lotAt_29 : decode cX8_lotAt 29 = .ok (.istore 4, 2) := by decide +kernel
theorem dX8_lotAt_31 : decode cX8_lotAt 31 = .ok (.iload_n 2, 1) := by decide +kernel
theorem dX8_lotAt_32 : decode cX8_lotAt 32 = .ok (.iload 4, 2) := by decide +kernel
theorem dX8_lotAt_34 : decode cX8_lotAt 34 = .ok (.if_icmp .gt 5, 3) := by decide +kernel
theorem dX8_lotAt_37 : decode cX8_lotAt 37 = .ok (.iload_n 3, 1) := by decide +kernel
theorem dX8_lotAt_38 : decode cX8_lotAt 38 = .ok (.ireturn, 1) := by decide +kernel
theorem dX8_lotAt_39 : decode cX8_lotAt 39 = .ok (.iload_n 2, 1) := by decide +kernel
theorem dX8_lotAt_40 : decode cX8_lotAt 40 = .ok (.iload 4, 2) := by decide +kernel
theorem dX8_lotAt_42 : decode cX8_lotAt 42 = .ok (.isub, 1) := by decide +kernel
theorem dX8_lotAt_43 : decode cX8_lotAt 43 = .ok (.istore_n 2, 1) := by decide +kernel
theorem dX8_lotAt_44 : decode cX8_lotAt 44 = .ok (.iinc 3 1, 3) := by decide +kernel
theorem dX8_lotAt_47 : decode cX8_lotAt 47 = .ok (.goto (-43), 3) := by decide +kernel
theorem dX8_lotAt_50 : decode cX8_lotAt 50 = .ok (.bipush (-5), 2) := by decide +kernel
theorem dX8_lotAt_52 : decode cX8_lotAt 52 = .ok (.ireturn, 1) := by decide +kernel
set_option maxRecDepth 20000 in
theorem ggX8_kindAt_X8_lotAt : GoodIn wsX8_kindAt wsX8_lotAt := goodIn_r _ [6, 1, 7, 8, 9, 5, 10, 11, 12, 13, 14, 15, 16, 17, 18, 27, 28, 29, 30, 31, 32, 33, 34, 35, 36, 37, 38, 39, 40, 41, 42] (by decide +kernel) (by decide +kernel)
set_option maxRecDepth 20000 in
theorem gX8_kindAt_X8_lotAt : GoodIn wsX8_kindAt (wsV RX8 67 RX8 yX8_lotAt wsX8_lotAt) := goodIn_app (goodIn_of _ (by decide +kernel)) ggX8_kindAt_X8_lotAt
set_option maxRecDepth 20000 in
theorem ggX8_kindAt_X8_firstPage : GoodIn wsX8_kindAt wsX8_firstPage := goodIn_r _ [22, 1, 7, 8, 9, 5, 10, 11, 12, 13, 14, 15, 16, 17, 18, 27, 28, 29, 30, 31, 32, 33, 34, 35, 36, 37, 38, 39, 40, 41, 42] (by decide +kernel) (by decide +kernel)
set_option maxRecDepth 20000 in
theorem gX8_kindAt_X8_firstPage : GoodIn wsX8_kindAt (wsV RX8 64 RX8 yX8_firstPage wsX8_firstPage) := goodIn_app (goodIn_of _ (by decide +kernel)) ggX8_kindAt_X8_firstPage
set_option maxRecDepth 20000 in
theorem ggX8_kindAt_X8_hasPlate : GoodIn wsX8_kindAt wsX8_hasPlate := goodIn_r _ [18, 1, 27, 28, 29, 30, 31, 32, 33, 34, 35, 36, 37, 38, 39, 40, 41, 42] (by decide +kernel) (by decide +kernel)
set_option maxRecDepth 20000 in
theorem gX8_kindAt_X8_hasPlate : GoodIn wsX8_kindAt (wsV RX8 50 RX8 yX8_hasPlate wsX8_hasPlate) := goodIn_app (goodIn_of _ (by decide +kernel)) ggX8_kindAt_X8_hasPlate
set_option maxRecDepth 20000 in
theorem ggX8_kindAt_X8_platePage : GoodIn wsX8_kindAt wsX8_platePage := goodIn_r _ [26, 1, 19, 20, 21, 5, 22, 7, 8, 9, 10, 11, 12, 13, 14, 15, 16, 17, 18, 27, 28, 29, 30, 31, 32, 33, 34, 35, 36, 37, 38, 39, 40, 41, 42] (by decide +kernel) (by decide +kernel)
set_option maxRecDepth 20000 in
theorem gX8_kindAt_X8_platePage : GoodIn wsX8_kindAt (wsV RX8 70 RX8 yX8_platePage wsX8_platePage) := goodIn_app (goodIn_of _ (by decide +kernel)) ggX8_kindAt_X8_platePage
theorem dX8_kindAt_0 : decode cX8_kindAt 0 = .ok (.aload_n 0, 1) := by decide +kernel
theorem dX8_kindAt_1 : decode cX8_kindAt 1 = .ok (.iload_n 1, 1) := by decide +kernel
theorem dX8_kindAt_2 : decode cX8_kindAt 2 = .ok (.invokevirtual 67, 3) := by decide +kernel
theorem dX8_kindAt_5 : decode cX8_kindAt 5 = .ok (.istore_n 2, 1) := by decide +kernel
theorem dX8_kindAt_6 : decode cX8_kindAt 6 = .ok (.iload_n 2, 1) := by decide +kernel
theorem dX8_kindAt_7 : decode cX8_kindAt 7 = .ok (.bipush (-5), 2) := by decide +kernel
theorem dX8_kindAt_9 : decode cX8_kindAt 9 = .ok (.if_icmp .ne 5, 3) := by decide +kernel
theorem dX8_kindAt_12 : decode cX8_kindAt 12 = .ok (.iconst 4, 1) := by decide +kernel
theorem dX8_kindAt_13 : decode cX8_kindAt 13 = .ok (.ireturn, 1) := by decide +kernel
theorem dX8_kindAt_14 : decode cX8_kindAt 14 = .ok (.iload_n 1, 1) := by decide +kernel
theorem dX8_kindAt_15 : decode cX8_kindAt 15 = .ok (.aload_n 0, 1) := by decide +kernel
theorem dX8_kindAt_16 : decode cX8_kindAt 16 = .ok (.iload_n 2, 1) := by decide +kernel
theorem dX8_kindAt_17 : decode cX8_kindAt 17 = .ok (.invokevirtual 64, 3) := by decide +kernel
theorem dX8_kindAt_20 : decode cX8_kindAt 20 = .ok (.if_icmp .ge 5, 3) := by decide +kernel
theorem dX8_kindAt_23 : decode cX8_kindAt 23 = .ok (.iconst 0, 1) := by decide +kernel
theorem dX8_kindAt_24 : decode cX8_kindAt 24 = .ok (.ireturn, 1) := by decide +kernel
theorem dX8_kindAt_25 : decode cX8_kindAt 25 = .ok (.aload_n 0, 1) := by decide +kernel
theorem dX8_kindAt_26 : decode cX8_kindAt 26 = .ok (.iload_n 2, 1) := by decide +kernel
theorem dX8_kindAt_27 : decode cX8_kindAt 27 = .ok (.invokevirtual 50, 3) := by decide +kernel
theorem dX8_kindAt_30 : decode cX8_kindAt 30 = .ok (.ifCond .eq 26, 3) := by decide +kernel
theorem dX8_kindAt_33 : decode cX8_kindAt 33 = .ok (.iload_n 1, 1) := by decide +kernel
theorem dX8_kindAt_34 : decode cX8_kindAt 34 = .ok (.aload_n 0, 1) := by decide +kernel
theorem dX8_kindAt_35 : decode cX8_kindAt 35 = .ok (.iload_n 2, 1) := by decide +kernel
theorem dX8_kindAt_36 : decode cX8_kindAt 36 = .ok (.invokevirtual 70, 3) := by decide +kernel
theorem dX8_kindAt_39 : decode cX8_kindAt 39 = .ok (.if_icmp .ne 17, 3) := by decide +kernel
theorem dX8_kindAt_42 : decode cX8_kindAt 42 = .ok (.iconst 1, 1) := by decide +kernel
theorem dX8_kindAt_43 : decode cX8_kindAt 43 = .ok (.aload_n 0, 1) := by decide +kernel
theorem dX8_kindAt_44 : decode cX8_kindAt 44 = .ok (.getfield 7, 3) := by decide +kernel
theorem dX8_kindAt_47 : decode cX8_kindAt 47 = .ok (.bipush 18, 2) := by decide +kernel
theorem dX8_kindAt_49 : decode cX8_kindAt 49 = .ok (.iload_n 2, 1) := by decide +kernel
theorem dX8_kindAt_50 : decode cX8_kindAt 50 = .ok (.iadd, 1) := by decide +kernel
theorem dX8_kindAt_51 : decode cX8_kindAt 51 = .ok (.iaload, 1) := by decide +kernel
theorem dX8_kindAt_52 : decode cX8_kindAt 52 = .ok (.iadd, 1) := by decide +kernel
theorem dX8_kindAt_53 : decode cX8_kindAt 53 = .ok (.goto 4, 3) := by decide +kernel
theorem dX8_kindAt_56 : decode cX8_kindAt 56 = .ok (.iconst 1, 1) := by decide +kernel
theorem dX8_kindAt_57 : decode cX8_kindAt 57 = .ok (.ireturn, 1) := by decide +kernel
theorem dX8_isBlank_0 : decode cX8_isBlank 0 = .ok (.iload_n 0, 1) := by decide +kernel
theorem dX8_isBlank_1 : decode cX8_isBlank 1 = .ok (.ifCond .eq 8, 3) := by decide +kernel
theorem dX8_isBlank_4 : decode cX8_isBlank 4 = .ok (.iload_n 0, 1) := by decide +kernel
theorem dX8_isBlank_5 : decode cX8_isBlank 5 = .ok (.iconst 4, 1) := by decide +kernel
theorem dX8_isBlank_6 : decode cX8_isBlank 6 = .ok (.if_icmp .ne 7, 3) := by decide +kernel
theorem dX8_isBlank_9 : decode cX8_isBlank 9 = .ok (.iconst 1, 1) := by decide +kernel
theorem dX8_isBlank_10 : decode cX8_isBlank 10 = .ok (.goto 4, 3) := by decide +kernel
theorem dX8_isBlank_13 : decode cX8_isBlank 13 = .ok (.iconst 0, 1) := by decide +kernel
theorem dX8_isBlank_14 : decode cX8_isBlank 14 = .ok (.ireturn, 1) := by decide +kernel
set_option maxRecDepth 20000 in
theorem ggX8_beside_X8_gatherings : GoodIn wsX8_beside wsX8_gatherings := goodIn_r _ [6, 7, 8, 9, 5, 10, 1, 11, 12, 13, 14, 15, 16, 17, 18, 19, 20, 21, 22, 23, 24, 25, 26, 30, 31, 32, 33, 34, 35, 36, 37, 38, 39, 40, 41, 42, 43, 44, 45] (by decide +kernel) (by decide +kernel)
set_option maxRecDepth 20000 in
theorem gX8_beside_X8_gatherings : GoodIn wsX8_beside (wsV RX8 73 RX8 yX8_gatherings wsX8_gatherings) := goodIn_app (goodIn_of _ (by decide +kernel)) ggX8_beside_X8_gatherings
set_option maxRecDepth 20000 in
theorem ggX8_beside_X8_in : GoodIn wsX8_beside wsX8_in := goodIn_r _ [29] (by decide +kernel) (by decide +kernel)
set_option maxRecDepth 20000 in
theorem gX8_beside_X8_in : GoodIn wsX8_beside (va_wsS RX8 42 yX8_in wsX8_in) := goodIn_app (goodIn_of _ (by decide +kernel)) ggX8_beside_X8_in
theorem dX8_beside_0 : decode cX8_beside 0 = .ok (.iload_n 1, 1) := by decide +kernel
theorem dX8_beside_1 : decode cX8_beside 1 = .ok (.iconst 2, 1) := by decide +kernel
theorem dX8_beside_2 : decode cX8_beside 2 = .ok (.irem, 1) := by decide +kernel
theorem dX8_beside_3 : decode cX8_beside 3 = .ok (.ifCond .ne 9, 3) := by decide +kernel
theorem dX8_beside_6 : decode cX8_beside 6 = .ok (.iload_n 1, 1) := by decide +kernel
theorem dX8_beside_7 : decode cX8_beside 7 = .ok (.iconst 1, 1) := by decide +kernel
theorem dX8_beside_8 : decode cX8_beside 8 = .ok (.iadd, 1) := by decide +kernel
theorem dX8_beside_9 : decode cX8_beside 9 = .ok (.goto 6, 3) := by decide +kernel
theorem dX8_beside_12 : decode cX8_beside 12 = .ok (.iload_n 1, 1) := by decide +kernel
theorem dX8_beside_13 : decode cX8_beside 13 = .ok (.iconst 1, 1) := by decide +kernel
theorem dX8_beside_14 : decode cX8_beside 14 = .ok (.isub, 1) := by decide +kernel
theorem dX8_beside_15 : decode cX8_beside 15 = .ok (.istore_n 2, 1) := by decide +kernel
theorem dX8_beside_16 : decode cX8_beside 16 = .ok (.iload_n 2, 1) := by decide +kernel
theorem dX8_beside_17 : decode cX8_beside 17 = .ok (.i2l, 1) := by decide +kernel
theorem dX8_beside_18 : decode cX8_beside 18 = .ok (.lconst 1, 1) := by decide +kernel
theorem dX8_beside_19 : decode cX8_beside 19 = .ok (.aload_n 0, 1) := by decide +kernel
theorem dX8_beside_20 : decode cX8_beside 20 = .ok (.invokevirtual 73, 3) := by decide +kernel
theorem dX8_beside_23 : decode cX8_beside 23 = .ok (.aload_n 0, 1) := by decide +kernel
theorem dX8_beside_24 : decode cX8_beside 24 = .ok (.getfield 7, 3) := by decide +kernel
theorem dX8_beside_27 : decode cX8_beside 27 = .ok (.iconst 0, 1) := by decide +kernel
theorem dX8_beside_28 : decode cX8_beside 28 = .ok (.iaload, 1) := by decide +kernel
theorem dX8_beside_29 : decode cX8_beside 29 = .ok (.imul, 1) := by decide +kernel
theorem dX8_beside_30 : decode cX8_beside 30 = .ok (.i2l, 1) := by decide +kernel
theorem dX8_beside_31 : decode cX8_beside 31 = .ok (.invokestatic 42, 3) := by decide +kernel
theorem dX8_beside_34 : decode cX8_beside 34 = .ok (.ifCond .eq 7, 3) := by decide +kernel
theorem dX8_beside_37 : decode cX8_beside 37 = .ok (.iload_n 2, 1) := by decide +kernel
theorem dX8_beside_38 : decode cX8_beside 38 = .ok (.goto 5, 3) := by decide +kernel
theorem dX8_beside_41 : decode cX8_beside 41 = .ok (.bipush (-5), 2) := by decide +kernel
theorem dX8_beside_43 : decode cX8_beside 43 = .ok (.ireturn, 1) := by decide +kernel
set_option maxRecDepth 20000 in
theorem ggX8_whyNot_X8_hasPlate : GoodIn wsX8_whyNot wsX8_hasPlate := goodIn_r _ [5, 6, 53, 54, 55, 56, 57, 58, 59, 60, 61, 62, 63, 64, 65, 66, 67, 68] (by decide +kernel) (by decide +kernel)
set_option maxRecDepth 20000 in
theorem gX8_whyNot_X8_hasPlate : GoodIn wsX8_whyNot (wsV RX8 50 RX8 yX8_hasPlate wsX8_hasPlate) := goodIn_app (goodIn_of _ (by decide +kernel)) ggX8_whyNot_X8_hasPlate
set_option maxRecDepth 20000 in
theorem ggX8_whyNot_X8_platePage : GoodIn wsX8_whyNot wsX8_platePage := goodIn_r _ [10, 6, 11, 12, 13, 4, 14, 15, 16, 17, 18, 19, 20, 21, 22, 1, 2, 3, 5, 53, 54, 55, 56, 57, 58, 59, 60, 61, 62, 63, 64, 65, 66, 67, 68] (by decide +kernel) (by decide +kernel)
set_option maxRecDepth 20000 in
theorem gX8_whyNot_X8_platePage : GoodIn wsX8_whyNot (wsV RX8 70 RX8 yX8_platePage wsX8_platePage) := goodIn_app (goodIn_of _ (by decide +kernel)) ggX8_whyNot_X8_platePage
set_option maxRecDepth 20000 in
theorem ggX8_whyNot_X8_beside : GoodIn wsX8_whyNot wsX8_beside := goodIn_r _ [26, 6, 27, 28, 29, 4, 30, 31, 32, 33, 34, 15, 16, 17, 18, 19, 20, 21, 22, 1, 2, 3, 5, 35, 36, 37, 38, 39, 40, 41, 53, 54, 55, 56, 57, 58, 59, 60, 61, 62, 63, 64, 65, 66, 67, 68] (by decide +kernel) (by decide +kernel)
set_option maxRecDepth 20000 in
theorem gX8_whyNot_X8_beside : GoodIn wsX8_whyNot (wsV RX8 76 RX8 yX8_beside wsX8_beside) := goodIn_app (goodIn_of _ (by decide +kernel)) ggX8_whyNot_X8_beside
set_option maxRecDepth 20000 in
theorem ggX8_whyNot_X8_kindAt : GoodIn wsX8_whyNot wsX8_kindAt := goodIn_r _ [45, 6, 46, 47, 48, 4, 49, 15, 16, 17, 18, 19, 20, 21, 22, 1, 2, 3, 5, 11, 12, 13, 14, 7, 8, 9, 10, 53, 54, 55, 56, 57, 58, 59, 60, 61, 62, 63, 64, 65, 66, 67, 68] (by decide +kernel) (by decide +kernel)
set_option maxRecDepth 20000 in
theorem gX8_whyNot_X8_kindAt : GoodIn wsX8_whyNot (wsV RX8 79 RX8 yX8_kindAt wsX8_kindAt) := goodIn_app (goodIn_of _ (by decide +kernel)) ggX8_whyNot_X8_kindAt
set_option maxRecDepth 20000 in
theorem ggX8_whyNot_X8_isBlank : GoodIn wsX8_whyNot wsX8_isBlank := goodIn_r _ [52] (by decide +kernel) (by decide +kernel)
set_option maxRecDepth 20000 in
theorem gX8_whyNot_X8_isBlank : GoodIn wsX8_whyNot (va_wsS RX8 82 yX8_isBlank wsX8_isBlank) := goodIn_app (goodIn_of _ (by decide +kernel)) ggX8_whyNot_X8_isBlank
set_option maxRecDepth 20000 in
theorem ggX8_whyNot_X8_lotAt : GoodIn wsX8_whyNot wsX8_lotAt := goodIn_r _ [49, 6, 15, 16, 17, 4, 18, 19, 20, 21, 22, 1, 2, 3, 5, 53, 54, 55, 56, 57, 58, 59, 60, 61, 62, 63, 64, 65, 66, 67, 68] (by decide +kernel) (by decide +kernel)
set_option maxRecDepth 20000 in
theorem gX8_whyNot_X8_lotAt : GoodIn wsX8_whyNot (wsV RX8 67 RX8 yX8_lotAt wsX8_lotAt) := goodIn_app (goodIn_of _ (by decide +kernel)) ggX8_whyNot_X8_lotAt
theorem dX8_whyNot_0 : decode cX8_whyNot 0 = .ok (.aload_n 0, 1) := by decide +kernel
theorem dX8_whyNot_1 : decode cX8_whyNot 1 = .ok (.iload_n 1, 1) := by decide +kernel
theorem dX8_whyNot_2 : decode cX8_whyNot 2 = .ok (.invokevirtual 50, 3) := by decide +kernel
theorem dX8_whyNot_5 : decode cX8_whyNot 5 = .ok (.ifCond .ne 5, 3) := by decide +kernel
theorem dX8_whyNot_8 : decode cX8_whyNot 8 = .ok (.iconst 0, 1) := by decide +kernel
theorem dX8_whyNot_9 : decode cX8_whyNot 9 = .ok (.ireturn, 1) := by decide +kernel
theorem dX8_whyNot_10 : decode cX8_whyNot 10 = .ok (.aload_n 0, 1) := by decide +kernel
theorem dX8_whyNot_11 : decode cX8_whyNot 11 = .ok (.aload_n 0, 1) := by decide +kernel
theorem dX8_whyNot_12 : decode cX8_whyNot 12 = .ok (.iload_n 1, 1) := by decide +kernel
theorem dX8_whyNot_13 : decode cX8_whyNot 13 = .ok (.invokevirtual 70, 3) := by decide +kernel
theorem dX8_whyNot_16 : decode cX8_whyNot 16 = .ok (.invokevirtual 76, 3) := by decide +kernel
theorem dX8_whyNot_19 : decode cX8_whyNot 19 = .ok (.istore_n 2, 1) := by decide +kernel
theorem dX8_whyNot_20 : decode cX8_whyNot 20 = .ok (.iload_n 2, 1) := by decide +kernel
theorem dX8_whyNot_21 : decode cX8_whyNot 21 = .ok (.bipush (-5), 2) := by decide +kernel
theorem dX8_whyNot_23 : decode cX8_whyNot 23 = .ok (.if_icmp .ne 5, 3) := by decide +kernel
theorem dX8_whyNot_26 : decode cX8_whyNot 26 = .ok (.iconst 1, 1) := by decide +kernel
theorem dX8_whyNot_27 : decode cX8_whyNot 27 = .ok (.ireturn, 1) := by decide +kernel
theorem dX8_whyNot_28 : decode cX8_whyNot 28 = .ok (.aload_n 0, 1) := by decide +kernel
theorem dX8_whyNot_29 : decode cX8_whyNot 29 = .ok (.iload_n 2, 1) := by decide +kernel
theorem dX8_whyNot_30 : decode cX8_whyNot 30 = .ok (.invokevirtual 79, 3) := by decide +kernel
theorem dX8_whyNot_33 : decode cX8_whyNot 33 = .ok (.invokestatic 82, 3) := by decide +kernel
theorem dX8_whyNot_36 : decode cX8_whyNot 36 = .ok (.ifCond .eq 7, 3) := by decide +kernel
theorem dX8_whyNot_39 : decode cX8_whyNot 39 = .ok (.iconst 3, 1) := by decide +kernel
theorem dX8_whyNot_40 : decode cX8_whyNot 40 = .ok (.goto 17, 3) := by decide +kernel
theorem dX8_whyNot_43 : decode cX8_whyNot 43 = .ok (.aload_n 0, 1) := by decide +kernel
theorem dX8_whyNot_44 : decode cX8_whyNot 44 = .ok (.iload_n 2, 1) := by decide +kernel
theorem dX8_whyNot_45 : decode cX8_whyNot 45 = .ok (.invokevirtual 67, 3) := by decide +kernel
theorem dX8_whyNot_48 : decode cX8_whyNot 48 = .ok (.iload_n 1, 1) := by decide +kernel
theorem dX8_whyNot_49 : decode cX8_whyNot 49 = .ok (.if_icmp .ne 7, 3) := by decide +kernel
theorem dX8_whyNot_52 : decode cX8_whyNot 52 = .ok (.iconst 0, 1) := by decide +kernel
theorem dX8_whyNot_53 : decode cX8_whyNot 53 = .ok (.goto 4, 3) := by decide +kernel
theorem dX8_whyNot_56 : decode cX8_whyNot 56 = .ok (.iconst 2, 1) := by decide +kernel
theorem dX8_whyNot_57 : decode cX8_whyNot 57 = .ok (.ireturn, 1) := by decide +kernel
theorem dX8_plates_0 : decode cX8_plates 0 = .ok (.iconst 0, 1) := by decide +kernel
theorem dX8_plates_1 : decode cX8_plates 1 = .ok (.istore_n 2, 1) := by decide +kernel
theorem dX8_plates_2 : decode cX8_plates 2 = .ok (.iconst 0, 1) := by decide +kernel
theorem dX8_plates_3 : decode cX8_plates 3 = .ok (.istore_n 3, 1) := by decide +kernel
theorem dX8_plates_4 : decode cX8_plates 4 = .ok (.iload_n 3, 1) := by decide +kernel
theorem dX8_plates_5 : decode cX8_plates 5 = .ok (.aload_n 0, 1) := by decide +kernel
theorem dX8_plates_6 : decode cX8_plates 6 = .ok (.getfield 7, 3) := by decide +kernel
theorem dX8_plates_9 : decode cX8_plates 9 = .ok (.iconst 5, 1) := by decide +kernel
theorem dX8_plates_10 : decode cX8_plates 10 = .ok (.iaload, 1) := by decide +kernel
theorem dX8_plates_11 : decode cX8_plates 11 = .ok (.if_icmp .ge 30, 3) := by decide +kernel
theorem dX8_plates_14 : decode cX8_plates 14 = .ok (.iload_n 2, 1) := by decide +kernel
theorem dX8_plates_15 : decode cX8_plates 15 = .ok (.aload_n 0, 1) := by decide +kernel
theorem dX8_plates_16 : decode cX8_plates 16 = .ok (.getfield 7, 3) := by decide +kernel
theorem dX8_plates_19 : decode cX8_plates 19 = .ok (.bipush 18, 2) := by decide +kernel
theorem dX8_plates_21 : decode cX8_plates 21 = .ok (.iload_n 3, 1) := by decide +kernel
theorem dX8_plates_22 : decode cX8_plates 22 = .ok (.iadd, 1) := by decide +kernel
theorem dX8_plates_23 : decode cX8_plates 23 = .ok (.iaload, 1) := by decide +kernel
theorem dX8_plates_24 : decode cX8_plates 24 = .ok (.iload_n 1, 1) := by decide +kernel
theorem dX8_plates_25 : decode cX8_plates 25 = .ok (.if_icmp .lt 7, 3) := by decide +kernel
theorem dX8_plates_28 : decode cX8_plates 28 = .ok (.iconst 1, 1) := by decide +kernel
theorem dX8_plates_29 : decode cX8_plates 29 = .ok (.goto 4, 3) := by decide +kernel
theorem dX8_plates_32 : decode cX8_plates 32 = .ok (.iconst 0, 1) := by decide +kernel
theorem dX8_plates_33 : decode cX8_plates 33 = .ok (.iadd, 1) := by decide +kernel
theorem dX8_plates_34 : decode cX8_plates 34 = .ok (.istore_n 2, 1) := by decide +kernel
theorem dX8_plates_35 : decode cX8_plates 35 = .ok (.iinc 3 1, 3) := by decide +kernel
theorem dX8_plates_38 : decode cX8_plates 38 = .ok (.goto (-34), 3) := by decide +kernel
theorem dX8_plates_41 : decode cX8_plates 41 = .ok (.iload_n 2, 1) := by decide +kernel
theorem dX8_plates_42 : decode cX8_plates 42 = .ok (.ireturn, 1) := by decide +kernel
set_option maxRecDepth 20000 in
theorem ggX8_platesThatFace_X8_hasPlate : GoodIn wsX8_platesThatFace wsX8_hasPlate := goodIn_r _ [6, 1, 57, 58, 59, 60, 61, 62, 63, 64, 65, 66, 67, 68, 69, 70, 71, 72] (by decide +kernel) (by decide +kernel)
set_option maxRecDepth 20000 in
theorem gX8_platesThatFace_X8_hasPlate : GoodIn wsX8_platesThatFace (wsV RX8 50 RX8 yX8_hasPlate wsX8_hasPlate) := goodIn_app (goodIn_of _ (by decide +kernel)) ggX8_platesThatFace_X8_hasPlate
set_option maxRecDepth 20000 in
theorem ggX8_platesThatFace_X8_whyNot : GoodIn wsX8_platesThatFace wsX8_whyNot := goodIn_r _ [10, 2, 3, 4, 5, 6, 1, 11, 12, 13, 14, 15, 16, 17, 18, 19, 20, 21, 22, 23, 24, 25, 26, 27, 28, 29, 30, 31, 32, 33, 34, 35, 36, 37, 38, 39, 40, 41, 42, 43, 44, 45, 46, 47, 48, 49, 50, 51, 52, 53, 54, 55, 56, 57, 58, 59, 60, 61, 62, 63, 64, 65, 66, 67, 68, 69, 70, 71, 72] (by decide +kernel) (by decide +kernel)
set_option maxRecDepth 20000 in
theorem gX8_platesThatFace_X8_whyNot : GoodIn wsX8_platesThatFace (wsV RX8 85 RX8 yX8_whyNot wsX8_whyNot) := goodIn_app (goodIn_of _ (by decide +kernel)) ggX8_platesThatFace_X8_whyNot
theorem dX8_platesThatFace_0 : decode cX8_platesThatFace 0 = .ok (.iconst 0, 1) := by decide +kernel
theorem dX8_platesThatFace_1 : decode cX8_platesThatFace 1 = .ok (.istore_n 1, 1) := by decide +kernel
theorem dX8_platesThatFace_2 : decode cX8_platesThatFace 2 = .ok (.iconst 0, 1) := by decide +kernel
theorem dX8_platesThatFace_3 : decode cX8_platesThatFace 3 = .ok (.istore_n 2, 1) := by decide +kernel
theorem dX8_platesThatFace_4 : decode cX8_platesThatFace 4 = .ok (.iload_n 2, 1) := by decide +kernel
theorem dX8_platesThatFace_5 : decode cX8_platesThatFace 5 = .ok (.aload_n 0, 1) := by decide +kernel
theorem dX8_platesThatFace_6 : decode cX8_platesThatFace 6 = .ok (.getfield 7, 3) := by decide +kernel
theorem dX8_platesThatFace_9 : decode cX8_platesThatFace 9 = .ok (.iconst 5, 1) := by decide +kernel
theorem dX8_platesThatFace_10 : decode cX8_platesThatFace 10 = .ok (.iaload, 1) := by decide +kernel
theorem dX8_platesThatFace_11 : decode cX8_platesThatFace 11 = .ok (.if_icmp .ge 33, 3) := by decide +kernel
theorem dX8_platesThatFace_14 : decode cX8_platesThatFace 14 = .ok (.iload_n 1, 1) := by decide +kernel
theorem dX8_platesThatFace_15 : decode cX8_platesThatFace 15 = .ok (.aload_n 0, 1) := by decide +kernel
theorem dX8_platesThatFace_16 : decode cX8_platesThatFace 16 = .ok (.iload_n 2, 1) := by decide +kernel
theorem dX8_platesThatFace_17 : decode cX8_platesThatFace 17 = .ok (.invokevirtual 50, 3) := by decide +kernel
theorem dX8_platesThatFace_20 : decode cX8_platesThatFace 20 = .ok (.ifCond .eq 15, 3) := by decide +kernel
theorem dX8_platesThatFace_23 : decode cX8_platesThatFace 23 = .ok (.aload_n 0, 1) := by decide +kernel
theorem dX8_platesThatFace_24 : decode cX8_platesThatFace 24 = .ok (.iload_n 2, 1) := by decide +kernel
theorem dX8_platesThatFace_25 : decode cX8_platesThatFace 25 = .ok (.invokevirtual 85, 3) := by decide +kernel
theorem dX8_platesThatFace_28 : decode cX8_platesThatFace 28 = .ok (.ifCond .ne 7, 3) := by decide +kernel
theorem dX8_platesThatFace_31 : decode cX8_platesThatFace 31 = .ok (.iconst 1, 1) := by decide +kernel
theorem dX8_platesThatFace_32 : decode cX8_platesThatFace 32 = .ok (.goto 4, 3) := by decide +kernel
theorem dX8_platesThatFace_35 : decode cX8_platesThatFace 35 = .ok (.iconst 0, 1) := by decide +kernel
theorem dX8_platesThatFace_36 : decode cX8_platesThatFace 36 = .ok (.iadd, 1) := by decide +kernel
theorem dX8_platesThatFace_37 : decode cX8_platesThatFace 37 = .ok (.istore_n 1, 1) := by decide +kernel
theorem dX8_platesThatFace_38 : decode cX8_platesThatFace 38 = .ok (.iinc 2 1, 3) := by decide +kernel
theorem dX8_platesThatFace_41 : decode cX8_platesThatFace 41 = .ok (.goto (-37), 3) := by decide +kernel
theorem dX8_platesThatFace_44 : decode cX8_platesThatFace 44 = .ok (.iload_n 1, 1) := by decide +kernel
theorem dX8_platesThatFace_45 : decode cX8_platesThatFace 45 = .ok (.ireturn, 1) := by decide +kernel
set_option maxRecDepth 20000 in
theorem ggX8_isColoured_X8_platePage : GoodIn wsX8_isColoured wsX8_platePage := goodIn_r _ [6, 1, 7, 8, 9, 5, 10, 11, 12, 13, 14, 15, 16, 17, 18, 19, 20, 21, 22, 31, 32, 33, 34, 35, 36, 37, 38, 39, 40, 41, 42, 43, 44, 45, 46] (by decide +kernel) (by decide +kernel)
set_option maxRecDepth 20000 in
theorem gX8_isColoured_X8_platePage : GoodIn wsX8_isColoured (wsV RX8 70 RX8 yX8_platePage wsX8_platePage) := goodIn_app (goodIn_of _ (by decide +kernel)) ggX8_isColoured_X8_platePage
set_option maxRecDepth 20000 in
theorem ggX8_isColoured_X8_gatheringOf : GoodIn wsX8_isColoured wsX8_gatheringOf := goodIn_r _ [26, 1, 31, 32, 33, 34, 35, 36, 37, 38, 39, 40, 41, 42, 43, 44, 45, 46] (by decide +kernel) (by decide +kernel)
set_option maxRecDepth 20000 in
theorem gX8_isColoured_X8_gatheringOf : GoodIn wsX8_isColoured (wsV RX8 88 RX8 yX8_gatheringOf wsX8_gatheringOf) := goodIn_app (goodIn_of _ (by decide +kernel)) ggX8_isColoured_X8_gatheringOf
set_option maxRecDepth 20000 in
theorem ggX8_isColoured_X8_sideOf : GoodIn wsX8_isColoured wsX8_sideOf := goodIn_r _ [30, 1, 31, 32, 33, 34, 35, 36, 37, 38, 39, 40, 41, 42, 43, 44, 45, 46] (by decide +kernel) (by decide +kernel)
set_option maxRecDepth 20000 in
theorem gX8_isColoured_X8_sideOf : GoodIn wsX8_isColoured (wsV RX8 91 RX8 yX8_sideOf wsX8_sideOf) := goodIn_app (goodIn_of _ (by decide +kernel)) ggX8_isColoured_X8_sideOf
theorem dX8_isColoured_0 : decode cX8_isColoured 0 = .ok (.iconst 0, 1) := by decide +kernel
theorem dX8_isColoured_1 : decode cX8_isColoured 1 = .ok (.istore_n 3, 1) := by decide +kernel
theorem dX8_isColoured_2 : decode cX8_isColoured 2 = .ok (.iconst 0, 1) := by decide +kernel
theorem dX8_isColoured_3 : decode cX8_isColoured 3 = .ok (.istore 4, 2) := by decide +kernel
theorem dX8_isColoured_5 : decode cX8_isColoured 5 = .ok (.iload 4, 2) := by decide +kernel
theorem dX8_isColoured_7 : decode cX8_isColoured 7 = .ok (.aload_n 0, 1) := by decide +kernel
theorem dX8_isColoured_8 : decode cX8_isColoured 8 = .ok (.getfield 7, 3) := by decide +kernel
theorem dX8_isColoured_11 : decode cX8_isColoured 11 = .ok (.iconst 5, 1) := by decide +kernel
theorem dX8_isColoured_12 : decode cX8_isColoured 12 = .ok (.iaload, 1) := by decide +kernel
theorem dX8_isColoured_13 : decode cX8_isColoured 13 = .ok (.if_icmp .ge 61, 3) := by decide +kernel
theorem dX8_isColoured_16 : decode cX8_isColoured 16 = .ok (.aload_n 0, 1) := by decide +kernel
theorem dX8_isColoured_17 : decode cX8_isColoured 17 = .ok (.iload 4, 2) := by decide +kernel
theorem dX8_isColoured_19 : decode cX8_isColoured 19 = .ok (.invokevirtual 70, 3) := by decide +kernel
theorem dX8_isColoured_22 : decode cX8_isColoured 22 = .ok (.istore 5, 2) := by decide +kernel
theorem dX8_isColoured_24 : decode cX8_isColoured 24 = .ok (.iload_n 3, 1) := by decide +kernel
theorem dX8_isColoured_25 : decode cX8_isColoured 25 = .ok (.ifCond .ne 37, 3) := by decide +kernel
theorem dX8_isColoured_28 : decode cX8_isColoured 28 = .ok (.aload_n 0, 1) := by decide +kernel
theorem dX8_isColoured_29 : decode cX8_isColoured 29 = .ok (.getfield 7, 3) := by decide +kernel
theorem dX8_isColoured_32 : decode cX8_isColoured 32 = .ok (.bipush 18, 2) := by decide +kernel
theorem dX8_isColoured_34 : decode cX8_isColoured 34 = .ok (.iload 4, 2) := by decide +kernel
theorem dX8_isColoured_36 : decode cX8_isColoured 36 = .ok (.iadd, 1) := by decide +kernel
theorem dX8_isColoured_37 : decode cX8_isColoured 37 = .ok (.iaload, 1) := by decide +kernel
theorem dX8_isColoured_38 : decode cX8_isColoured 38 = .ok (.iconst 2, 1) := by decide +kernel
theorem dX8_isColoured_39 : decode cX8_isColoured 39 = .ok (.if_icmp .ne 27, 3) := by decide +kernel
theorem dX8_isColoured_42 : decode cX8_isColoured 42 = .ok (.aload_n 0, 1) := by decide +kernel
theorem dX8_isColoured_43 : decode cX8_isColoured 43 = .ok (.iload 5, 2) := by decide +kernel
theorem dX8_isColoured_45 : decode cX8_isColoured 45 = .ok (.invokevirtual 88, 3) := by decide +kernel
theorem dX8_isColoured_48 : decode cX8_isColoured 48 = .ok (.iload_n 1, 1) := by decide +kernel
theorem dX8_isColoured_49 : decode cX8_isColoured 49 = .ok (.if_icmp .ne 17, 3) := by decide +kernel
theorem dX8_isColoured_52 : decode cX8_isColoured 52 = .ok (.aload_n 0, 1) := by decide +kernel
theorem dX8_isColoured_53 : decode cX8_isColoured 53 = .ok (.iload 5, 2) := by decide +kernel
theorem dX8_isColoured_55 : decode cX8_isColoured 55 = .ok (.invokevirtual 91, 3) := by decide +kernel
theorem dX8_isColoured_58 : decode cX8_isColoured 58 = .ok (.iload_n 2, 1) := by decide +kernel
theorem dX8_isColoured_59 : decode cX8_isColoured 59 = .ok (.if_icmp .ne 7, 3) := by decide +kernel
theorem dX8_isColoured_62 : decode cX8_isColoured 62 = .ok (.iconst 1, 1) := by decide +kernel
theorem dX8_isColoured_63 : decode cX8_isColoured 63 = .ok (.goto 4, 3) := by decide +kernel
theorem dX8_isColoured_66 : decode cX8_isColoured 66 = .ok (.iconst 0, 1) := by decide +kernel
theorem dX8_isColoured_67 : decode cX8_isColoured 67 = .ok (.istore_n 3, 1) := by decide +kernel
theorem dX8_isColoured_68 : decode cX8_isColoured 68 = .ok (.iinc 4 1, 3) := by decide +kernel
theorem dX8_isColoured_71 : decode cX8_isColoured 71 = .ok (.goto (-66), 3) := by decide +kernel
theorem dX8_isColoured_74 : decode cX8_isColoured 74 = .ok (.iload_n 3, 1) := by decide +kernel
theorem dX8_isColoured_75 : decode cX8_isColoured 75 = .ok (.ireturn, 1) := by decide +kernel
set_option maxRecDepth 20000 in
theorem ggX8_colouredIn_X8_isColoured : GoodIn wsX8_colouredIn wsX8_isColoured := goodIn_r _ [5, 6, 7, 8, 9, 4, 10, 11, 12, 13, 14, 15, 16, 17, 18, 19, 20, 21, 22, 23, 24, 25, 26, 27, 28, 29, 30, 31, 32, 33, 34, 35, 36, 37, 38, 39, 40, 41, 42, 43, 44, 45, 46, 47, 48, 49, 50] (by decide +kernel) (by decide +kernel)
set_option maxRecDepth 20000 in
theorem gX8_colouredIn_X8_isColoured : GoodIn wsX8_colouredIn (wsV RX8 94 RX8 yX8_isColoured wsX8_isColoured) := goodIn_app (goodIn_of _ (by decide +kernel)) ggX8_colouredIn_X8_isColoured
theorem dX8_colouredIn_0 : decode cX8_colouredIn 0 = .ok (.aload_n 0, 1) := by decide +kernel
theorem dX8_colouredIn_1 : decode cX8_colouredIn 1 = .ok (.iload_n 1, 1) := by decide +kernel
theorem dX8_colouredIn_2 : decode cX8_colouredIn 2 = .ok (.iconst 0, 1) := by decide +kernel
theorem dX8_colouredIn_3 : decode cX8_colouredIn 3 = .ok (.invokevirtual 94, 3) := by decide +kernel
theorem dX8_colouredIn_6 : decode cX8_colouredIn 6 = .ok (.ifCond .eq 7, 3) := by decide +kernel
theorem dX8_colouredIn_9 : decode cX8_colouredIn 9 = .ok (.iconst 1, 1) := by decide +kernel
theorem dX8_colouredIn_10 : decode cX8_colouredIn 10 = .ok (.goto 4, 3) := by decide +kernel
theorem dX8_colouredIn_13 : decode cX8_colouredIn 13 = .ok (.iconst 0, 1) := by decide +kernel
theorem dX8_colouredIn_14 : decode cX8_colouredIn 14 = .ok (.aload_n 0, 1) := by decide +kernel
theorem dX8_colouredIn_15 : decode cX8_colouredIn 15 = .ok (.iload_n 1, 1) := by decide +kernel
theorem dX8_colouredIn_16 : decode cX8_colouredIn 16 = .ok (.iconst 1, 1) := by decide +kernel
theorem dX8_colouredIn_17 : decode cX8_colouredIn 17 = .ok (.invokevirtual 94, 3) := by decide +kernel
theorem dX8_colouredIn_20 : decode cX8_colouredIn 20 = .ok (.ifCond .eq 7, 3) := by decide +kernel
theorem dX8_colouredIn_23 : decode cX8_colouredIn 23 = .ok (.iconst 1, 1) := by decide +kernel
theorem dX8_colouredIn_24 : decode cX8_colouredIn 24 = .ok (.goto 4, 3) := by decide +kernel
theorem dX8_colouredIn_27 : decode cX8_colouredIn 27 = .ok (.iconst 0, 1) := by decide +kernel
theorem dX8_colouredIn_28 : decode cX8_colouredIn 28 = .ok (.iadd, 1) := by decide +kernel
theorem dX8_colouredIn_29 : decode cX8_colouredIn 29 = .ok (.ireturn, 1) := by decide +kernel
set_option maxRecDepth 20000 in
theorem ggX8_colouredSides_X8_gatherings : GoodIn wsX8_colouredSides wsX8_gatherings := goodIn_r _ [5, 6, 7, 8, 4, 9, 10, 11, 12, 13, 14, 15, 16, 17, 18, 19, 20, 21, 22, 23, 24, 25, 26, 51, 52, 53, 54, 55, 56, 57, 58, 59, 60, 61, 62, 63, 64, 65, 66] (by decide +kernel) (by decide +kernel)
set_option maxRecDepth 20000 in
theorem gX8_colouredSides_X8_gatherings : GoodIn wsX8_colouredSides (wsV RX8 73 RX8 yX8_gatherings wsX8_gatherings) := goodIn_app (goodIn_of _ (by decide +kernel)) ggX8_colouredSides_X8_gatherings
set_option maxRecDepth 20000 in
theorem ggX8_colouredSides_X8_colouredIn : GoodIn wsX8_colouredSides wsX8_colouredIn := goodIn_r _ [30, 31, 32, 33, 4, 34, 10, 35, 36, 37, 38, 39, 40, 41, 42, 11, 12, 13, 14, 15, 16, 17, 18, 19, 20, 21, 22, 43, 44, 45, 46, 47, 48, 49, 50, 51, 52, 53, 54, 55, 56, 57, 58, 59, 60, 61, 62, 63, 64, 65, 66] (by decide +kernel) (by decide +kernel)
set_option maxRecDepth 20000 in
theorem gX8_colouredSides_X8_colouredIn : GoodIn wsX8_colouredSides (wsV RX8 98 RX8 yX8_colouredIn wsX8_colouredIn) := goodIn_app (goodIn_of _ (by decide +kernel)) ggX8_colouredSides_X8_colouredIn
theorem dX8_colouredSides_0 : decode cX8_colouredSides 0 = .ok (.iconst 0, 1) := by decide +kernel
theorem dX8_colouredSides_1 : decode cX8_colouredSides 1 = .ok (.istore_n 1, 1) := by decide +kernel
theorem dX8_colouredSides_2 : decode cX8_colouredSides 2 = .ok (.iconst 0, 1) := by decide +kernel
theorem dX8_colouredSides_3 : decode cX8_colouredSides 3 = .ok (.istore_n 2, 1) := by decide +kernel
theorem dX8_colouredSides_4 : decode cX8_colouredSides 4 = .ok (.iload_n 2, 1) := by decide +kernel
theorem dX8_colouredSides_5 : decode cX8_colouredSides 5 = .ok (.aload_n 0, 1) := by decide +kernel
theorem dX8_colouredSides_6 : decode cX8_colouredSides 6 = .ok (.invokevirtual 73, 3) := by decide +kernel
theorem dX8_colouredSides_9 : decode cX8_colouredSides 9 = .ok (.if_icmp .ge 17, 3) := by decide +kernel
theorem dX8_colouredSides_12 : decode cX8_colouredSides 12 = .ok (.iload_n 1, 1) := by decide +kernel
theorem dX8_colouredSides_13 : decode cX8_colouredSides 13 = .ok (.aload_n 0, 1) := by decide +kernel
theorem dX8_colouredSides_14 : decode cX8_colouredSides 14 = .ok (.iload_n 2, 1) := by decide +kernel
theorem dX8_colouredSides_15 : decode cX8_colouredSides 15 = .ok (.invokevirtual 98, 3) := by decide +kernel
theorem dX8_colouredSides_18 : decode cX8_colouredSides 18 = .ok (.iadd, 1) := by decide +kernel
theorem dX8_colouredSides_19 : decode cX8_colouredSides 19 = .ok (.istore_n 1, 1) := by decide +kernel
theorem dX8_colouredSides_20 : decode cX8_colouredSides 20 = .ok (.iinc 2 1, 3) := by decide +kernel
theorem dX8_colouredSides_23 : decode cX8_colouredSides 23 = .ok (.goto (-19), 3) := by decide +kernel
theorem dX8_colouredSides_26 : decode cX8_colouredSides 26 = .ok (.iload_n 1, 1) := by decide +kernel
theorem dX8_colouredSides_27 : decode cX8_colouredSides 27 = .ok (.ireturn, 1) := by decide +kernel
theorem dX8_blanksPut_0 : decode cX8_blanksPut 0 = .ok (.iconst 0, 1) := by decide +kernel
theorem dX8_blanksPut_1 : decode cX8_blanksPut 1 = .ok (.istore_n 1, 1) := by decide +kernel
theorem dX8_blanksPut_2 : decode cX8_blanksPut 2 = .ok (.iconst 0, 1) := by decide +kernel
theorem dX8_blanksPut_3 : decode cX8_blanksPut 3 = .ok (.istore_n 2, 1) := by decide +kernel
theorem dX8_blanksPut_4 : decode cX8_blanksPut 4 = .ok (.iload_n 2, 1) := by decide +kernel
theorem dX8_blanksPut_5 : decode cX8_blanksPut 5 = .ok (.aload_n 0, 1) := by decide +kernel
theorem dX8_blanksPut_6 : decode cX8_blanksPut 6 = .ok (.getfield 7, 3) := by decide +kernel
theorem dX8_blanksPut_9 : decode cX8_blanksPut 9 = .ok (.iconst 5, 1) := by decide +kernel
theorem dX8_blanksPut_10 : decode cX8_blanksPut 10 = .ok (.iaload, 1) := by decide +kernel
theorem dX8_blanksPut_11 : decode cX8_blanksPut 11 = .ok (.if_icmp .ge 21, 3) := by decide +kernel
theorem dX8_blanksPut_14 : decode cX8_blanksPut 14 = .ok (.iload_n 1, 1) := by decide +kernel
theorem dX8_blanksPut_15 : decode cX8_blanksPut 15 = .ok (.aload_n 0, 1) := by decide +kernel
theorem dX8_blanksPut_16 : decode cX8_blanksPut 16 = .ok (.getfield 7, 3) := by decide +kernel
theorem dX8_blanksPut_19 : decode cX8_blanksPut 19 = .ok (.bipush 30, 2) := by decide +kernel
theorem dX8_blanksPut_21 : decode cX8_blanksPut 21 = .ok (.iload_n 2, 1) := by decide +kernel
theorem dX8_blanksPut_22 : decode cX8_blanksPut 22 = .ok (.iadd, 1) := by decide +kernel
theorem dX8_blanksPut_23 : decode cX8_blanksPut 23 = .ok (.iaload, 1) := by decide +kernel
theorem dX8_blanksPut_24 : decode cX8_blanksPut 24 = .ok (.iadd, 1) := by decide +kernel
theorem dX8_blanksPut_25 : decode cX8_blanksPut 25 = .ok (.istore_n 1, 1) := by decide +kernel
theorem dX8_blanksPut_26 : decode cX8_blanksPut 26 = .ok (.iinc 2 1, 3) := by decide +kernel
theorem dX8_blanksPut_29 : decode cX8_blanksPut 29 = .ok (.goto (-25), 3) := by decide +kernel
theorem dX8_blanksPut_32 : decode cX8_blanksPut 32 = .ok (.iload_n 1, 1) := by decide +kernel
theorem dX8_blanksPut_33 : decode cX8_blanksPut 33 = .ok (.ireturn, 1) := by decide +kernel
theorem dX8_costOf_0 : decode cX8_costOf 0 = .ok (.iload_n 1, 1) := by decide +kernel
theorem dX8_costOf_1 : decode cX8_costOf 1 = .ok (.aload_n 0, 1) := by decide +kernel
theorem dX8_costOf_2 : decode cX8_costOf 2 = .ok (.getfield 7, 3) := by decide +kernel
theorem dX8_costOf_5 : decode cX8_costOf 5 = .ok (.iconst 1, 1) := by decide +kernel
theorem dX8_costOf_6 : decode cX8_costOf 6 = .ok (.iaload, 1) := by decide +kernel
theorem dX8_costOf_7 : decode cX8_costOf 7 = .ok (.aload_n 0, 1) := by decide +kernel
theorem dX8_costOf_8 : decode cX8_costOf 8 = .ok (.getfield 7, 3) := by decide +kernel
theorem dX8_costOf_11 : decode cX8_costOf 11 = .ok (.iconst 4, 1) := by decide +kernel
theorem dX8_costOf_12 : decode cX8_costOf 12 = .ok (.iaload, 1) := by decide +kernel
theorem dX8_costOf_13 : decode cX8_costOf 13 = .ok (.bipush 10, 2) := by decide +kernel
theorem dX8_costOf_15 : decode cX8_costOf 15 = .ok (.idiv, 1) := by decide +kernel
theorem dX8_costOf_16 : decode cX8_costOf 16 = .ok (.iadd, 1) := by decide +kernel
theorem dX8_costOf_17 : decode cX8_costOf 17 = .ok (.imul, 1) := by decide +kernel
theorem dX8_costOf_18 : decode cX8_costOf 18 = .ok (.iload_n 2, 1) := by decide +kernel
theorem dX8_costOf_19 : decode cX8_costOf 19 = .ok (.aload_n 0, 1) := by decide +kernel
theorem dX8_costOf_20 : decode cX8_costOf 20 = .ok (.getfield 7, 3) := by decide +kernel
theorem dX8_costOf_23 : decode cX8_costOf 23 = .ok (.iconst 2, 1) := by decide +kernel
theorem dX8_costOf_24 : decode cX8_costOf 24 = .ok (.iaload, 1) := by decide +kernel
theorem dX8_costOf_25 : decode cX8_costOf 25 = .ok (.imul, 1) := by decide +kernel
theorem dX8_costOf_26 : decode cX8_costOf 26 = .ok (.iadd, 1) := by decide +kernel
theorem dX8_costOf_27 : decode cX8_costOf 27 = .ok (.iload_n 3, 1) := by decide +kernel
theorem dX8_costOf_28 : decode cX8_costOf 28 = .ok (.aload_n 0, 1) := by decide +kernel
theorem dX8_costOf_29 : decode cX8_costOf 29 = .ok (.getfield 7, 3) := by decide +kernel
theorem dX8_costOf_32 : decode cX8_costOf 32 = .ok (.iconst 3, 1) := by decide +kernel
theorem dX8_costOf_33 : decode cX8_costOf 33 = .ok (.iaload, 1) := by decide +kernel
theorem dX8_costOf_34 : decode cX8_costOf 34 = .ok (.imul, 1) := by decide +kernel
theorem dX8_costOf_35 : decode cX8_costOf 35 = .ok (.iadd, 1) := by decide +kernel
theorem dX8_costOf_36 : decode cX8_costOf 36 = .ok (.ireturn, 1) := by decide +kernel
set_option maxRecDepth 20000 in
theorem ggX8_cost_X8_gatherings : GoodIn wsX8_cost wsX8_gatherings := goodIn_r _ [5, 6, 7, 8, 4, 9, 10, 11, 12, 13, 14, 15, 16, 17, 18, 19, 20, 21, 22, 23, 24, 25, 26, 63, 64, 65, 66, 67, 68, 69, 70, 71, 72, 73, 74, 75, 76, 77, 78] (by decide +kernel) (by decide +kernel)
set_option maxRecDepth 20000 in
theorem gX8_cost_X8_gatherings : GoodIn wsX8_cost (wsV RX8 73 RX8 yX8_gatherings wsX8_gatherings) := goodIn_app (goodIn_of _ (by decide +kernel)) ggX8_cost_X8_gatherings
set_option maxRecDepth 20000 in
theorem ggX8_cost_X8_colouredSides : GoodIn wsX8_cost wsX8_colouredSides := goodIn_r _ [30, 1, 2, 3, 4, 5, 6, 7, 8, 9, 10, 11, 12, 13, 14, 15, 16, 17, 18, 19, 20, 21, 22, 23, 24, 25, 26, 31, 32, 33, 34, 35, 36, 37, 38, 39, 40, 41, 42, 43, 44, 45, 46, 47, 48, 49, 50, 51, 52, 53, 54, 63, 64, 65, 66, 67, 68, 69, 70, 71, 72, 73, 74, 75, 76, 77, 78] (by decide +kernel) (by decide +kernel)
set_option maxRecDepth 20000 in
theorem gX8_cost_X8_colouredSides : GoodIn wsX8_cost (wsV RX8 101 RX8 yX8_colouredSides wsX8_colouredSides) := goodIn_app (goodIn_of _ (by decide +kernel)) ggX8_cost_X8_colouredSides
set_option maxRecDepth 20000 in
theorem ggX8_cost_X8_blanksPut : GoodIn wsX8_cost wsX8_blanksPut := goodIn_r _ [58, 10, 63, 64, 65, 66, 67, 68, 69, 70, 71, 72, 73, 74, 75, 76, 77, 78] (by decide +kernel) (by decide +kernel)
set_option maxRecDepth 20000 in
theorem gX8_cost_X8_blanksPut : GoodIn wsX8_cost (wsV RX8 104 RX8 yX8_blanksPut wsX8_blanksPut) := goodIn_app (goodIn_of _ (by decide +kernel)) ggX8_cost_X8_blanksPut
set_option maxRecDepth 20000 in
theorem ggX8_cost_X8_costOf : GoodIn wsX8_cost wsX8_costOf := goodIn_r _ [62, 10, 63, 64, 65, 66, 67, 68, 69, 70, 71, 72, 73, 74, 75, 76, 77, 78] (by decide +kernel) (by decide +kernel)
set_option maxRecDepth 20000 in
theorem gX8_cost_X8_costOf : GoodIn wsX8_cost (wsV RX8 107 RX8 yX8_costOf wsX8_costOf) := goodIn_app (goodIn_of _ (by decide +kernel)) ggX8_cost_X8_costOf
theorem dX8_cost_0 : decode cX8_cost 0 = .ok (.aload_n 0, 1) := by decide +kernel
theorem dX8_cost_1 : decode cX8_cost 1 = .ok (.aload_n 0, 1) := by decide +kernel
theorem dX8_cost_2 : decode cX8_cost 2 = .ok (.invokevirtual 73, 3) := by decide +kernel
theorem dX8_cost_5 : decode cX8_cost 5 = .ok (.aload_n 0, 1) := by decide +kernel
theorem dX8_cost_6 : decode cX8_cost 6 = .ok (.invokevirtual 101, 3) := by decide +kernel
theorem dX8_cost_9 : decode cX8_cost 9 = .ok (.aload_n 0, 1) := by decide +kernel
theorem dX8_cost_10 : decode cX8_cost 10 = .ok (.invokevirtual 104, 3) := by decide +kernel
theorem dX8_cost_13 : decode cX8_cost 13 = .ok (.invokevirtual 107, 3) := by decide +kernel
theorem dX8_cost_16 : decode cX8_cost 16 = .ok (.ireturn, 1) := by decide +kernel
theorem dX8_stateOf_0 : decode cX8_stateOf 0 = .ok (.sipush 256, 3) := by decide +kernel
theorem dX8_stateOf_3 : decode cX8_stateOf 3 = .ok (.iload_n 0, 1) := by decide +kernel
theorem dX8_stateOf_4 : decode cX8_stateOf 4 = .ok (.imul, 1) := by decide +kernel
theorem dX8_stateOf_5 : decode cX8_stateOf 5 = .ok (.iconst 4, 1) := by decide +kernel
theorem dX8_stateOf_6 : decode cX8_stateOf 6 = .ok (.iload_n 1, 1) := by decide +kernel
theorem dX8_stateOf_7 : decode cX8_stateOf 7 = .ok (.imul, 1) := by decide +kernel
theorem dX8_stateOf_8 : decode cX8_stateOf 8 = .ok (.iadd, 1) := by decide +kernel
theorem dX8_stateOf_9 : decode cX8_stateOf 9 = .ok (.iload_n 2, 1) := by decide +kernel
theorem dX8_stateOf_10 : decode cX8_stateOf 10 = .ok (.iadd, 1) := by decide +kernel
theorem dX8_stateOf_11 : decode cX8_stateOf 11 = .ok (.ireturn, 1) := by decide +kernel
set_option maxRecDepth 20000 in
theorem ggX8_tries_X8_lengthOf : GoodIn wsX8_tries wsX8_lengthOf := goodIn_r _ [9, 10, 11, 12, 8, 13, 2, 14, 15, 16, 17, 29, 30, 31, 32, 33, 34, 35, 36, 37, 38, 39, 40, 41, 42, 43, 44] (by decide +kernel) (by decide +kernel)
set_option maxRecDepth 20000 in
theorem gX8_tries_X8_lengthOf : GoodIn wsX8_tries (wsV RX8 54 RX8 yX8_lengthOf wsX8_lengthOf) := goodIn_app (goodIn_of _ (by decide +kernel)) ggX8_tries_X8_lengthOf
set_option maxRecDepth 20000 in
theorem ggX8_tries_X8_hasPlate : GoodIn wsX8_tries wsX8_hasPlate := goodIn_r _ [17, 2, 29, 30, 31, 32, 33, 34, 35, 36, 37, 38, 39, 40, 41, 42, 43, 44] (by decide +kernel) (by decide +kernel)
set_option maxRecDepth 20000 in
theorem gX8_tries_X8_hasPlate : GoodIn wsX8_tries (wsV RX8 50 RX8 yX8_hasPlate wsX8_hasPlate) := goodIn_app (goodIn_of _ (by decide +kernel)) ggX8_tries_X8_hasPlate
set_option maxRecDepth 20000 in
theorem ggX8_tries_X8_in : GoodIn wsX8_tries wsX8_in := goodIn_r _ [20] (by decide +kernel) (by decide +kernel)
set_option maxRecDepth 20000 in
theorem gX8_tries_X8_in : GoodIn wsX8_tries (va_wsS RX8 42 yX8_in wsX8_in) := goodIn_app (goodIn_of _ (by decide +kernel)) ggX8_tries_X8_in
set_option maxRecDepth 20000 in
theorem ggX8_tries_X8_gatheringOf : GoodIn wsX8_tries wsX8_gatheringOf := goodIn_r _ [24, 2, 29, 30, 31, 32, 33, 34, 35, 36, 37, 38, 39, 40, 41, 42, 43, 44] (by decide +kernel) (by decide +kernel)
set_option maxRecDepth 20000 in
theorem gX8_tries_X8_gatheringOf : GoodIn wsX8_tries (wsV RX8 88 RX8 yX8_gatheringOf wsX8_gatheringOf) := goodIn_app (goodIn_of _ (by decide +kernel)) ggX8_tries_X8_gatheringOf
set_option maxRecDepth 20000 in
theorem ggX8_tries_X8_sideOf : GoodIn wsX8_tries wsX8_sideOf := goodIn_r _ [28, 2, 29, 30, 31, 32, 33, 34, 35, 36, 37, 38, 39, 40, 41, 42, 43, 44] (by decide +kernel) (by decide +kernel)
set_option maxRecDepth 20000 in
theorem gX8_tries_X8_sideOf : GoodIn wsX8_tries (wsV RX8 91 RX8 yX8_sideOf wsX8_sideOf) := goodIn_app (goodIn_of _ (by decide +kernel)) ggX8_tries_X8_sideOf
theorem dX8_tries_0 : decode cX8_tries 0 = .ok (.iload_n 2, 1) := by decide +kernel
theorem dX8_tries_1 : decode cX8_tries 1 = .ok (.iload 4, 2) := by decide +kernel
theorem dX8_tries_3 : decode cX8_tries 3 = .ok (.iadd, 1) := by decide +kernel
theorem dX8_tries_4 : decode cX8_tries 4 = .ok (.iconst 1, 1) := by decide +kernel
theorem dX8_tries_5 : decode cX8_tries 5 = .ok (.iadd, 1) := by decide +kernel
theorem dX8_tries_6 : decode cX8_tries 6 = .ok (.istore 6, 2) := by decide +kernel
theorem dX8_tries_8 : decode cX8_tries 8 = .ok (.aload_n 0, 1) := by decide +kernel
theorem dX8_tries_9 : decode cX8_tries 9 = .ok (.iload_n 2, 1) := by decide +kernel
theorem dX8_tries_10 : decode cX8_tries 10 = .ok (.iload 4, 2) := by decide +kernel
theorem dX8_tries_12 : decode cX8_tries 12 = .ok (.iadd, 1) := by decide +kernel
theorem dX8_tries_13 : decode cX8_tries 13 = .ok (.aload_n 0, 1) := by decide +kernel
theorem dX8_tries_14 : decode cX8_tries 14 = .ok (.iload_n 1, 1) := by decide +kernel
theorem dX8_tries_15 : decode cX8_tries 15 = .ok (.invokevirtual 54, 3) := by decide +kernel
theorem dX8_tries_18 : decode cX8_tries 18 = .ok (.iadd, 1) := by decide +kernel
theorem dX8_tries_19 : decode cX8_tries 19 = .ok (.putfield 111, 3) := by decide +kernel
theorem dX8_tries_22 : decode cX8_tries 22 = .ok (.aload_n 0, 1) := by decide +kernel
theorem dX8_tries_23 : decode cX8_tries 23 = .ok (.iload 4, 2) := by decide +kernel
theorem dX8_tries_25 : decode cX8_tries 25 = .ok (.aload_n 0, 1) := by decide +kernel
theorem dX8_tries_26 : decode cX8_tries 26 = .ok (.getfield 7, 3) := by decide +kernel
theorem dX8_tries_29 : decode cX8_tries 29 = .ok (.iconst 3, 1) := by decide +kernel
theorem dX8_tries_30 : decode cX8_tries 30 = .ok (.iaload, 1) := by decide +kernel
theorem dX8_tries_31 : decode cX8_tries 31 = .ok (.imul, 1) := by decide +kernel
theorem dX8_tries_32 : decode cX8_tries 32 = .ok (.putfield 114, 3) := by decide +kernel
theorem dX8_tries_35 : decode cX8_tries 35 = .ok (.aload_n 0, 1) := by decide +kernel
theorem dX8_tries_36 : decode cX8_tries 36 = .ok (.iload_n 1, 1) := by decide +kernel
theorem dX8_tries_37 : decode cX8_tries 37 = .ok (.invokevirtual 50, 3) := by decide +kernel
theorem dX8_tries_40 : decode cX8_tries 40 = .ok (.ifCond .eq 11, 3) := by decide +kernel
theorem dX8_tries_43 : decode cX8_tries 43 = .ok (.iload 6, 2) := by decide +kernel
theorem dX8_tries_45 : decode cX8_tries 45 = .ok (.iload 5, 2) := by decide +kernel
theorem dX8_tries_47 : decode cX8_tries 47 = .ok (.iadd, 1) := by decide +kernel
theorem dX8_tries_48 : decode cX8_tries 48 = .ok (.goto 7, 3) := by decide +kernel
theorem dX8_tries_51 : decode cX8_tries 51 = .ok (.aload_n 0, 1) := by decide +kernel
theorem dX8_tries_52 : decode cX8_tries 52 = .ok (.getfield 111, 3) := by decide +kernel
