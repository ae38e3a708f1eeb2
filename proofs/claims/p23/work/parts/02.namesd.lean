set_option maxRecDepth 20000 in
theorem ggX7_page_X2_otherPage : GoodIn wsX7_page wsX2_otherPage := goodIn_r _ [88, 9, 98, 99, 100, 101, 102, 103, 104] (by decide +kernel) (by decide +kernel)
set_option maxRecDepth 20000 in
theorem gX7_page_X2_otherPage : GoodIn wsX7_page (wsV RX7 208 RX2 yX2_otherPage wsX2_otherPage) := goodIn_app (goodIn_of _ (by decide +kernel)) ggX7_page_X2_otherPage
theorem dX7_page_0 : decode cX7_page 0 = .ok (.aload_n 0, 1) := by decide +kernel
theorem dX7_page_1 : decode cX7_page 1 = .ok (.getfield 50, 3) := by decide +kernel
theorem dX7_page_4 : decode cX7_page 4 = .ok (.aload_n 0, 1) := by decide +kernel
theorem dX7_page_5 : decode cX7_page 5 = .ok (.getfield 10, 3) := by decide +kernel
theorem dX7_page_8 : decode cX7_page 8 = .ok (.invokevirtual 181, 3) := by decide +kernel
theorem dX7_page_11 : decode cX7_page 11 = .ok (.aload_n 0, 1) := by decide +kernel
theorem dX7_page_12 : decode cX7_page 12 = .ok (.getfield 50, 3) := by decide +kernel
theorem dX7_page_15 : decode cX7_page 15 = .ok (.iload_n 1, 1) := by decide +kernel
theorem dX7_page_16 : decode cX7_page 16 = .ok (.invokevirtual 193, 3) := by decide +kernel
theorem dX7_page_19 : decode cX7_page 19 = .ok (.ifCond .ne 5, 3) := by decide +kernel
theorem dX7_page_22 : decode cX7_page 22 = .ok (.iconst (-1), 1) := by decide +kernel
theorem dX7_page_23 : decode cX7_page 23 = .ok (.ireturn, 1) := by decide +kernel
theorem dX7_page_24 : decode cX7_page 24 = .ok (.iload_n 2, 1) := by decide +kernel
theorem dX7_page_25 : decode cX7_page 25 = .ok (.tableswitch 76 0 4 #[35, 44, 53, 62, 67], 35) := by decide +kernel
theorem dX7_page_60 : decode cX7_page 60 = .ok (.aload_n 0, 1) := by decide +kernel
theorem dX7_page_61 : decode cX7_page 61 = .ok (.getfield 50, 3) := by decide +kernel
theorem dX7_page_64 : decode cX7_page 64 = .ok (.iload_n 1, 1) := by decide +kernel
theorem dX7_page_65 : decode cX7_page 65 = .ok (.invokevirtual 196, 3) := by decide +kernel
theorem dX7_page_68 : decode cX7_page 68 = .ok (.ireturn, 1) := by decide +kernel
theorem dX7_page_69 : decode cX7_page 69 = .ok (.aload_n 0, 1) := by decide +kernel
theorem dX7_page_70 : decode cX7_page 70 = .ok (.getfield 50, 3) := by decide +kernel
theorem dX7_page_73 : decode cX7_page 73 = .ok (.iload_n 1, 1) := by decide +kernel
theorem dX7_page_74 : decode cX7_page 74 = .ok (.invokevirtual 199, 3) := by decide +kernel
theorem dX7_page_77 : decode cX7_page 77 = .ok (.ireturn, 1) := by decide +kernel
theorem dX7_page_78 : decode cX7_page 78 = .ok (.aload_n 0, 1) := by decide +kernel
theorem dX7_page_79 : decode cX7_page 79 = .ok (.getfield 50, 3) := by decide +kernel
theorem dX7_page_82 : decode cX7_page 82 = .ok (.iload_n 1, 1) := by decide +kernel
theorem dX7_page_83 : decode cX7_page 83 = .ok (.invokevirtual 202, 3) := by decide +kernel
theorem dX7_page_86 : decode cX7_page 86 = .ok (.ireturn, 1) := by decide +kernel
theorem dX7_page_87 : decode cX7_page 87 = .ok (.iload_n 1, 1) := by decide +kernel
theorem dX7_page_88 : decode cX7_page 88 = .ok (.invokestatic 205, 3) := by decide +kernel
theorem dX7_page_91 : decode cX7_page 91 = .ok (.ireturn, 1) := by decide +kernel
theorem dX7_page_92 : decode cX7_page 92 = .ok (.aload_n 0, 1) := by decide +kernel
theorem dX7_page_93 : decode cX7_page 93 = .ok (.getfield 50, 3) := by decide +kernel
theorem dX7_page_96 : decode cX7_page 96 = .ok (.iload_n 1, 1) := by decide +kernel
theorem dX7_page_97 : decode cX7_page 97 = .ok (.invokevirtual 208, 3) := by decide +kernel
theorem dX7_page_100 : decode cX7_page 100 = .ok (.ireturn, 1) := by decide +kernel
theorem dX7_page_101 : decode cX7_page 101 = .ok (.bipush (-2), 2) := by decide +kernel
theorem dX7_page_103 : decode cX7_page 103 = .ok (.ireturn, 1) := by decide +kernel
set_option maxRecDepth 20000 in
theorem ggX7_gathering_X2_lay : GoodIn wsX7_gathering wsX2_lay := goodIn_r _ [7, 8, 9, 10, 11, 12, 13, 14, 15, 16, 17, 18, 19, 20, 21, 22, 23, 24, 25, 26, 27, 28, 29, 6, 30, 31, 32, 33, 34, 35, 36, 37, 38, 39, 40, 41, 42, 43, 44, 45, 46, 47, 48, 49, 50, 51, 52, 53, 54, 55, 56, 57, 58, 59, 60, 61, 62, 63, 64, 113, 114, 115, 116, 117, 118, 119, 120, 121] (by decide +kernel) (by decide +kernel)
set_option maxRecDepth 20000 in
theorem gX7_gathering_X2_lay : GoodIn wsX7_gathering (wsV RX7 181 RX2 yX2_lay wsX2_lay) := goodIn_app (goodIn_of _ (by decide +kernel)) ggX7_gathering_X2_lay
set_option maxRecDepth 20000 in
theorem ggX7_gathering_X2_gatherings : GoodIn wsX7_gathering wsX2_gatherings := goodIn_r _ [68, 10, 113, 114, 115, 116, 117, 118, 119] (by decide +kernel) (by decide +kernel)
set_option maxRecDepth 20000 in
theorem gX7_gathering_X2_gatherings : GoodIn wsX7_gathering (wsV RX7 211 RX2 yX2_gatherings wsX2_gatherings) := goodIn_app (goodIn_of _ (by decide +kernel)) ggX7_gathering_X2_gatherings
set_option maxRecDepth 20000 in
theorem ggX7_gathering_X2_lotsIn : GoodIn wsX7_gathering wsX2_lotsIn := goodIn_r _ [72, 8, 73, 74, 75, 6, 76, 41, 77, 18, 19, 20, 21, 22, 113, 114, 115, 116, 117, 118, 119, 121] (by decide +kernel) (by decide +kernel)
set_option maxRecDepth 20000 in
theorem gX7_gathering_X2_lotsIn : GoodIn wsX7_gathering (wsV RX7 214 RX2 yX2_lotsIn wsX2_lotsIn) := goodIn_app (goodIn_of _ (by decide +kernel)) ggX7_gathering_X2_lotsIn
set_option maxRecDepth 20000 in
theorem ggX7_gathering_X2_platesIn : GoodIn wsX7_gathering wsX2_platesIn := goodIn_r _ [81, 8, 82, 83, 84, 6, 85, 86, 87, 88, 89, 90, 91, 92, 93, 42, 77, 18, 19, 20, 21, 22, 113, 114, 115, 116, 117, 118, 119, 121] (by decide +kernel) (by decide +kernel)
set_option maxRecDepth 20000 in
theorem gX7_gathering_X2_platesIn : GoodIn wsX7_gathering (wsV RX7 217 RX2 yX2_platesIn wsX2_platesIn) := goodIn_app (goodIn_of _ (by decide +kernel)) ggX7_gathering_X2_platesIn
set_option maxRecDepth 20000 in
theorem ggX7_gathering_X2_blanksIn : GoodIn wsX7_gathering wsX2_blanksIn := goodIn_r _ [97, 8, 86, 87, 88, 6, 89, 90, 91, 92, 93, 42, 77, 18, 19, 20, 21, 22, 113, 114, 115, 116, 117, 118, 119, 121] (by decide +kernel) (by decide +kernel)
set_option maxRecDepth 20000 in
theorem gX7_gathering_X2_blanksIn : GoodIn wsX7_gathering (wsV RX7 220 RX2 yX2_blanksIn wsX2_blanksIn) := goodIn_app (goodIn_of _ (by decide +kernel)) ggX7_gathering_X2_blanksIn
set_option maxRecDepth 20000 in
theorem ggX7_gathering_X2_coloured : GoodIn wsX7_gathering wsX2_coloured := goodIn_r _ [101, 8, 102, 60, 103, 90, 91, 92, 6, 93, 42, 77, 18, 19, 20, 21, 22, 113, 114, 115, 116, 117, 118, 119, 121] (by decide +kernel) (by decide +kernel)
set_option maxRecDepth 20000 in
theorem gX7_gathering_X2_coloured : GoodIn wsX7_gathering (wsV RX7 223 RX2 yX2_coloured wsX2_coloured) := goodIn_app (goodIn_of _ (by decide +kernel)) ggX7_gathering_X2_coloured
theorem dX7_gathering_0 : decode cX7_gathering 0 = .ok (.aload_n 0, 1) := by decide +kernel
theorem dX7_gathering_1 : decode cX7_gathering 1 = .ok (.getfield 50, 3) := by decide +kernel
theorem dX7_gathering_4 : decode cX7_gathering 4 = .ok (.aload_n 0, 1) := by decide +kernel
theorem dX7_gathering_5 : decode cX7_gathering 5 = .ok (.getfield 10, 3) := by decide +kernel
theorem dX7_gathering_8 : decode cX7_gathering 8 = .ok (.invokevirtual 181, 3) := by decide +kernel
theorem dX7_gathering_11 : decode cX7_gathering 11 = .ok (.iload_n 1, 1) := by decide +kernel
theorem dX7_gathering_12 : decode cX7_gathering 12 = .ok (.ifCond .lt 14, 3) := by decide +kernel
theorem dX7_gathering_15 : decode cX7_gathering 15 = .ok (.iload_n 1, 1) := by decide +kernel
theorem dX7_gathering_16 : decode cX7_gathering 16 = .ok (.aload_n 0, 1) := by decide +kernel
theorem dX7_gathering_17 : decode cX7_gathering 17 = .ok (.getfield 50, 3) := by decide +kernel
theorem dX7_gathering_20 : decode cX7_gathering 20 = .ok (.invokevirtual 211, 3) := by decide +kernel
theorem dX7_gathering_23 : decode cX7_gathering 23 = .ok (.if_icmp .lt 5, 3) := by decide +kernel
theorem dX7_gathering_26 : decode cX7_gathering 26 = .ok (.iconst (-1), 1) := by decide +kernel
theorem dX7_gathering_27 : decode cX7_gathering 27 = .ok (.ireturn, 1) := by decide +kernel
theorem dX7_gathering_28 : decode cX7_gathering 28 = .ok (.iload_n 2, 1) := by decide +kernel
theorem dX7_gathering_29 : decode cX7_gathering 29 = .ok (.tableswitch 106 0 5 #[39, 48, 57, 66, 86, 96], 39) := by decide +kernel
theorem dX7_gathering_68 : decode cX7_gathering 68 = .ok (.aload_n 0, 1) := by decide +kernel
theorem dX7_gathering_69 : decode cX7_gathering 69 = .ok (.getfield 50, 3) := by decide +kernel
theorem dX7_gathering_72 : decode cX7_gathering 72 = .ok (.iload_n 1, 1) := by decide +kernel
theorem dX7_gathering_73 : decode cX7_gathering 73 = .ok (.invokevirtual 214, 3) := by decide +kernel
theorem dX7_gathering_76 : decode cX7_gathering 76 = .ok (.ireturn, 1) := by decide +kernel
theorem dX7_gathering_77 : decode cX7_gathering 77 = .ok (.aload_n 0, 1) := by decide +kernel
theorem dX7_gathering_78 : decode cX7_gathering 78 = .ok (.getfield 50, 3) := by decide +kernel
theorem dX7_gathering_81 : decode cX7_gathering 81 = .ok (.iload_n 1, 1) := by decide +kernel
theorem dX7_gathering_82 : decode cX7_gathering 82 = .ok (.invokevirtual 217, 3) := by decide +kernel
theorem dX7_gathering_85 : decode cX7_gathering 85 = .ok (.ireturn, 1) := by decide +kernel
theorem dX7_gathering_86 : decode cX7_gathering 86 = .ok (.aload_n 0, 1) := by decide +kernel
theorem dX7_gathering_87 : decode cX7_gathering 87 = .ok (.getfield 50, 3) := by decide +kernel
theorem dX7_gathering_90 : decode cX7_gathering 90 = .ok (.iload_n 1, 1) := by decide +kernel
theorem dX7_gathering_91 : decode cX7_gathering 91 = .ok (.invokevirtual 220, 3) := by decide +kernel
theorem dX7_gathering_94 : decode cX7_gathering 94 = .ok (.ireturn, 1) := by decide +kernel
theorem dX7_gathering_95 : decode cX7_gathering 95 = .ok (.aload_n 0, 1) := by decide +kernel
theorem dX7_gathering_96 : decode cX7_gathering 96 = .ok (.getfield 50, 3) := by decide +kernel
theorem dX7_gathering_99 : decode cX7_gathering 99 = .ok (.iload_n 1, 1) := by decide +kernel
theorem dX7_gathering_100 : decode cX7_gathering 100 = .ok (.iconst 0, 1) := by decide +kernel
theorem dX7_gathering_101 : decode cX7_gathering 101 = .ok (.invokevirtual 223, 3) := by decide +kernel
theorem dX7_gathering_104 : decode cX7_gathering 104 = .ok (.aload_n 0, 1) := by decide +kernel
theorem dX7_gathering_105 : decode cX7_gathering 105 = .ok (.getfield 50, 3) := by decide +kernel
theorem dX7_gathering_108 : decode cX7_gathering 108 = .ok (.iload_n 1, 1) := by decide +kernel
theorem dX7_gathering_109 : decode cX7_gathering 109 = .ok (.iconst 1, 1) := by decide +kernel
theorem dX7_gathering_110 : decode cX7_gathering 110 = .ok (.invokevirtual 223, 3) := by decide +kernel
theorem dX7_gathering_113 : decode cX7_gathering 113 = .ok (.iadd, 1) := by decide +kernel
theorem dX7_gathering_114 : decode cX7_gathering 114 = .ok (.ireturn, 1) := by decide +kernel
theorem dX7_gathering_115 : decode cX7_gathering 115 = .ok (.aload_n 0, 1) := by decide +kernel
theorem dX7_gathering_116 : decode cX7_gathering 116 = .ok (.getfield 50, 3) := by decide +kernel
theorem dX7_gathering_119 : decode cX7_gathering 119 = .ok (.iload_n 1, 1) := by decide +kernel
theorem dX7_gathering_120 : decode cX7_gathering 120 = .ok (.iconst 0, 1) := by decide +kernel
theorem dX7_gathering_121 : decode cX7_gathering 121 = .ok (.invokevirtual 223, 3) := by decide +kernel
theorem dX7_gathering_124 : decode cX7_gathering 124 = .ok (.ireturn, 1) := by decide +kernel
theorem dX7_gathering_125 : decode cX7_gathering 125 = .ok (.aload_n 0, 1) := by decide +kernel
theorem dX7_gathering_126 : decode cX7_gathering 126 = .ok (.getfield 50, 3) := by decide +kernel
theorem dX7_gathering_129 : decode cX7_gathering 129 = .ok (.iload_n 1, 1) := by decide +kernel
theorem dX7_gathering_130 : decode cX7_gathering 130 = .ok (.iconst 1, 1) := by decide +kernel
theorem dX7_gathering_131 : decode cX7_gathering 131 = .ok (.invokevirtual 223, 3) := by decide +kernel
theorem dX7_gathering_134 : decode cX7_gathering 134 = .ok (.ireturn, 1) := by decide +kernel
theorem dX7_gathering_135 : decode cX7_gathering 135 = .ok (.bipush (-2), 2) := by decide +kernel
theorem dX7_gathering_137 : decode cX7_gathering 137 = .ok (.ireturn, 1) := by decide +kernel
set_option maxRecDepth 20000 in
theorem ggX7_ifChosen_X0_has : GoodIn wsX7_ifChosen wsX0_has := goodIn_r _ [7, 8, 9, 10, 6, 11, 12, 13, 14, 15, 16, 17, 18, 139, 140] (by decide +kernel) (by decide +kernel)
set_option maxRecDepth 20000 in
theorem gX7_ifChosen_X0_has : GoodIn wsX7_ifChosen (wsV RX7 94 RX0 yX0_has wsX0_has) := goodIn_app (goodIn_of _ (by decide +kernel)) ggX7_ifChosen_X0_has
set_option maxRecDepth 20000 in
theorem ggX7_ifChosen_X0_allows : GoodIn wsX7_ifChosen wsX0_allows := goodIn_r _ [22, 23, 24, 25, 6, 26, 27, 28, 29, 30, 12, 13, 14, 15, 16, 17, 18, 31, 32, 33, 34, 139, 140] (by decide +kernel) (by decide +kernel)
set_option maxRecDepth 20000 in
theorem gX7_ifChosen_X0_allows : GoodIn wsX7_ifChosen (wsV RX7 135 RX0 yX0_allows wsX0_allows) := goodIn_app (goodIn_of _ (by decide +kernel)) ggX7_ifChosen_X0_allows
set_option maxRecDepth 20000 in
theorem ggX7_ifChosen_X0_copy : GoodIn wsX7_ifChosen wsX0_copy := goodIn_r _ [38, 12, 39, 40, 41, 16, 42, 43, 14, 15, 17, 18, 44, 45, 46, 47, 139, 140] (by decide +kernel) (by decide +kernel)
set_option maxRecDepth 20000 in
theorem gX7_ifChosen_X0_copy : GoodIn wsX7_ifChosen (wsV RX7 178 RX0 yX0_copy wsX0_copy) := goodIn_app (goodIn_of _ (by decide +kernel)) ggX7_ifChosen_X0_copy
set_option maxRecDepth 20000 in
theorem ggX7_ifChosen_X0_putChoice : GoodIn wsX7_ifChosen wsX0_putChoice := goodIn_r _ [51, 12, 52, 45, 46, 16, 47, 18, 139, 140] (by decide +kernel) (by decide +kernel)
set_option maxRecDepth 20000 in
theorem gX7_ifChosen_X0_putChoice : GoodIn wsX7_ifChosen (wsV RX7 139 RX0 yX0_putChoice wsX0_putChoice) := goodIn_app (goodIn_of _ (by decide +kernel)) ggX7_ifChosen_X0_putChoice
set_option maxRecDepth 20000 in
theorem ggX7_ifChosen_X7_costOf : GoodIn wsX7_ifChosen wsX7_costOf := goodIn_r _ [57, 58, 59, 60, 61, 62, 63, 64, 65, 66, 67, 68, 69, 6, 70, 12, 13, 14, 15, 16, 17, 18, 71, 9, 10, 11, 72, 73, 74, 75, 76, 77, 78, 79, 80, 81, 82, 83, 84, 85, 86, 87, 88, 45, 46, 47, 89, 32, 33, 34, 90, 28, 29, 30, 91, 92, 93, 94, 95, 56, 96, 97, 98, 99, 100, 101, 102, 103, 104, 105, 106, 107, 108, 109, 110, 111, 112, 113, 114, 115, 116, 117, 118, 119, 120, 121, 122, 123, 124, 125, 126, 127, 128, 8, 129, 130, 131, 132, 133, 134, 135, 136, 137, 138, 141, 142, 143, 144, 145, 146, 147, 139, 140] (by decide +kernel) (by decide +kernel)
set_option maxRecDepth 20000 in
theorem gX7_ifChosen_X7_costOf : GoodIn wsX7_ifChosen (wsV RX7 131 RX7 yX7_costOf wsX7_costOf) := goodIn_app (goodIn_of _ (by decide +kernel)) ggX7_ifChosen_X7_costOf
theorem dX7_ifChosen_0 : decode cX7_ifChosen 0 = .ok (.aload_n 0, 1) := by decide +kernel
theorem dX7_ifChosen_1 : decode cX7_ifChosen 1 = .ok (.getfield 10, 3) := by decide +kernel
theorem dX7_ifChosen_4 : decode cX7_ifChosen 4 = .ok (.iload_n 1, 1) := by decide +kernel
theorem dX7_ifChosen_5 : decode cX7_ifChosen 5 = .ok (.invokevirtual 94, 3) := by decide +kernel
theorem dX7_ifChosen_8 : decode cX7_ifChosen 8 = .ok (.ifCond .ne 5, 3) := by decide +kernel
theorem dX7_ifChosen_11 : decode cX7_ifChosen 11 = .ok (.iconst (-1), 1) := by decide +kernel
theorem dX7_ifChosen_12 : decode cX7_ifChosen 12 = .ok (.ireturn, 1) := by decide +kernel
theorem dX7_ifChosen_13 : decode cX7_ifChosen 13 = .ok (.aload_n 0, 1) := by decide +kernel
theorem dX7_ifChosen_14 : decode cX7_ifChosen 14 = .ok (.getfield 10, 3) := by decide +kernel
theorem dX7_ifChosen_17 : decode cX7_ifChosen 17 = .ok (.iload_n 1, 1) := by decide +kernel
theorem dX7_ifChosen_18 : decode cX7_ifChosen 18 = .ok (.iload_n 3, 1) := by decide +kernel
theorem dX7_ifChosen_19 : decode cX7_ifChosen 19 = .ok (.invokevirtual 135, 3) := by decide +kernel
theorem dX7_ifChosen_22 : decode cX7_ifChosen 22 = .ok (.ifCond .ne 6, 3) := by decide +kernel
theorem dX7_ifChosen_25 : decode cX7_ifChosen 25 = .ok (.bipush (-2), 2) := by decide +kernel
theorem dX7_ifChosen_27 : decode cX7_ifChosen 27 = .ok (.ireturn, 1) := by decide +kernel
theorem dX7_ifChosen_28 : decode cX7_ifChosen 28 = .ok (.aload_n 0, 1) := by decide +kernel
theorem dX7_ifChosen_29 : decode cX7_ifChosen 29 = .ok (.getfield 16, 3) := by decide +kernel
theorem dX7_ifChosen_32 : decode cX7_ifChosen 32 = .ok (.aload_n 0, 1) := by decide +kernel
theorem dX7_ifChosen_33 : decode cX7_ifChosen 33 = .ok (.getfield 10, 3) := by decide +kernel
theorem dX7_ifChosen_36 : decode cX7_ifChosen 36 = .ok (.invokevirtual 178, 3) := by decide +kernel
theorem dX7_ifChosen_39 : decode cX7_ifChosen 39 = .ok (.aload_n 0, 1) := by decide +kernel
theorem dX7_ifChosen_40 : decode cX7_ifChosen 40 = .ok (.getfield 16, 3) := by decide +kernel
theorem dX7_ifChosen_43 : decode cX7_ifChosen 43 = .ok (.iload_n 1, 1) := by decide +kernel
theorem dX7_ifChosen_44 : decode cX7_ifChosen 44 = .ok (.iload_n 2, 1) := by decide +kernel
theorem dX7_ifChosen_45 : decode cX7_ifChosen 45 = .ok (.ifCond .eq 7, 3) := by decide +kernel
theorem dX7_ifChosen_48 : decode cX7_ifChosen 48 = .ok (.iconst 1, 1) := by decide +kernel
theorem dX7_ifChosen_49 : decode cX7_ifChosen 49 = .ok (.goto 4, 3) := by decide +kernel
theorem dX7_ifChosen_52 : decode cX7_ifChosen 52 = .ok (.iconst 0, 1) := by decide +kernel
theorem dX7_ifChosen_53 : decode cX7_ifChosen 53 = .ok (.iload_n 3, 1) := by decide +kernel
theorem dX7_ifChosen_54 : decode cX7_ifChosen 54 = .ok (.invokevirtual 139, 3) := by decide +kernel
theorem dX7_ifChosen_57 : decode cX7_ifChosen 57 = .ok (.aload_n 0, 1) := by decide +kernel
theorem dX7_ifChosen_58 : decode cX7_ifChosen 58 = .ok (.aload_n 0, 1) := by decide +kernel
theorem dX7_ifChosen_59 : decode cX7_ifChosen 59 = .ok (.getfield 16, 3) := by decide +kernel
theorem dX7_ifChosen_62 : decode cX7_ifChosen 62 = .ok (.invokevirtual 131, 3) := by decide +kernel
theorem dX7_ifChosen_65 : decode cX7_ifChosen 65 = .ok (.ireturn, 1) := by decide +kernel
set_option maxRecDepth 20000 in
theorem ggX7_cheapest_X0_has : GoodIn wsX7_cheapest wsX0_has := goodIn_r _ [7, 8, 9, 10, 6, 11, 12, 13, 14, 15, 16, 17, 18, 167, 168] (by decide +kernel) (by decide +kernel)
set_option maxRecDepth 20000 in
theorem gX7_cheapest_X0_has : GoodIn wsX7_cheapest (wsV RX7 94 RX0 yX0_has wsX0_has) := goodIn_app (goodIn_of _ (by decide +kernel)) ggX7_cheapest_X0_has
set_option maxRecDepth 20000 in
theorem ggX7_cheapest_X0_setting : GoodIn wsX7_cheapest wsX0_setting := goodIn_r _ [22, 12, 13, 14, 15, 16, 17, 18, 167, 168] (by decide +kernel) (by decide +kernel)
set_option maxRecDepth 20000 in
theorem gX7_cheapest_X0_setting : GoodIn wsX7_cheapest (wsV RX7 143 RX0 yX0_setting wsX0_setting) := goodIn_app (goodIn_of _ (by decide +kernel)) ggX7_cheapest_X0_setting
set_option maxRecDepth 20000 in
theorem ggX7_cheapest_X3_solve : GoodIn wsX7_cheapest wsX3_solve := goodIn_r _ [27, 28, 29, 30, 31, 32, 33, 6, 34, 12, 35, 36, 37, 16, 38, 39, 14, 15, 17, 18, 40, 41, 42, 43, 44, 45, 46, 47, 48, 49, 50, 51, 26, 52, 53, 54, 55, 9, 10, 11, 13, 56, 57, 58, 59, 60, 61, 62, 63, 64, 65, 66, 67, 68, 69, 70, 71, 72, 73, 74, 75, 76, 77, 78, 79, 80, 81, 82, 83, 84, 85, 86, 87, 88, 89, 90, 20, 21, 22, 91, 92, 93, 94, 95, 96, 97, 98, 99, 100, 101, 102, 103, 104, 105, 106, 107, 108, 109, 110, 111, 112, 113, 114, 115, 116, 117, 118, 119, 120, 121, 122, 123, 124, 125, 126, 127, 128, 129, 130, 131, 132, 133, 134, 135, 136, 137, 138, 139, 140, 141, 142, 143, 144, 145, 146, 147, 148, 149, 150, 169, 170, 171, 172, 167, 168] (by decide +kernel) (by decide +kernel)
set_option maxRecDepth 20000 in
theorem gX7_cheapest_X3_solve : GoodIn wsX7_cheapest (wsV RX7 146 RX3 yX3_solve wsX3_solve) := goodIn_app (goodIn_of _ (by decide +kernel)) ggX7_cheapest_X3_solve
set_option maxRecDepth 20000 in
theorem ggX7_cheapest_X3_chosen : GoodIn wsX7_cheapest wsX3_chosen := goodIn_r _ [154, 29, 169, 170, 171, 172] (by decide +kernel) (by decide +kernel)
set_option maxRecDepth 20000 in
theorem gX7_cheapest_X3_chosen : GoodIn wsX7_cheapest (wsV RX7 150 RX3 yX3_chosen wsX3_chosen) := goodIn_app (goodIn_of _ (by decide +kernel)) ggX7_cheapest_X3_chosen
set_option maxRecDepth 20000 in
theorem ggX7_cheapest_X0_blank : GoodIn wsX7_cheapest wsX0_blank := goodIn_r _ [146, 12, 13, 14, 15, 16, 17, 18, 167, 168] (by decide +kernel) (by decide +kernel)
set_option maxRecDepth 20000 in
theorem gX7_cheapest_X0_blank : GoodIn wsX7_cheapest (wsV RX7 117 RX0 yX0_blank wsX0_blank) := goodIn_app (goodIn_of _ (by decide +kernel)) ggX7_cheapest_X0_blank
set_option maxRecDepth 20000 in
theorem ggX7_cheapest_X0_plate : GoodIn wsX7_cheapest wsX0_plate := goodIn_r _ [68, 12, 13, 14, 15, 16, 17, 18, 167, 168] (by decide +kernel) (by decide +kernel)
set_option maxRecDepth 20000 in
theorem gX7_cheapest_X0_plate : GoodIn wsX7_cheapest (wsV RX7 105 RX0 yX0_plate wsX0_plate) := goodIn_app (goodIn_of _ (by decide +kernel)) ggX7_cheapest_X0_plate
set_option maxRecDepth 20000 in
theorem ggX7_cheapest_X0_place : GoodIn wsX7_cheapest wsX0_place := goodIn_r _ [150, 12, 13, 14, 15, 16, 17, 18, 167, 168] (by decide +kernel) (by decide +kernel)
set_option maxRecDepth 20000 in
theorem gX7_cheapest_X0_place : GoodIn wsX7_cheapest (wsV RX7 108 RX0 yX0_place wsX0_place) := goodIn_app (goodIn_of _ (by decide +kernel)) ggX7_cheapest_X0_place
theorem dX7_cheapest_0 : decode cX7_cheapest 0 = .ok (.aload_n 0, 1) := by decide +kernel
theorem dX7_cheapest_1 : decode cX7_cheapest 1 = .ok (.getfield 10, 3) := by decide +kernel
theorem dX7_cheapest_4 : decode cX7_cheapest 4 = .ok (.iload_n 1, 1) := by decide +kernel
theorem dX7_cheapest_5 : decode cX7_cheapest 5 = .ok (.invokevirtual 94, 3) := by decide +kernel
theorem dX7_cheapest_8 : decode cX7_cheapest 8 = .ok (.ifCond .ne 5, 3) := by decide +kernel
theorem dX7_cheapest_11 : decode cX7_cheapest 11 = .ok (.iconst (-1), 1) := by decide +kernel
theorem dX7_cheapest_12 : decode cX7_cheapest 12 = .ok (.ireturn, 1) := by decide +kernel
theorem dX7_cheapest_13 : decode cX7_cheapest 13 = .ok (.iload_n 2, 1) := by decide +kernel
theorem dX7_cheapest_14 : decode cX7_cheapest 14 = .ok (.ifCond .lt 8, 3) := by decide +kernel
theorem dX7_cheapest_17 : decode cX7_cheapest 17 = .ok (.iload_n 2, 1) := by decide +kernel
theorem dX7_cheapest_18 : decode cX7_cheapest 18 = .ok (.iconst 1, 1) := by decide +kernel
theorem dX7_cheapest_19 : decode cX7_cheapest 19 = .ok (.if_icmp .le 6, 3) := by decide +kernel
theorem dX7_cheapest_22 : decode cX7_cheapest 22 = .ok (.bipush (-2), 2) := by decide +kernel
theorem dX7_cheapest_24 : decode cX7_cheapest 24 = .ok (.ireturn, 1) := by decide +kernel
theorem dX7_cheapest_25 : decode cX7_cheapest 25 = .ok (.aload_n 0, 1) := by decide +kernel
theorem dX7_cheapest_26 : decode cX7_cheapest 26 = .ok (.getfield 57, 3) := by decide +kernel
theorem dX7_cheapest_29 : decode cX7_cheapest 29 = .ok (.aload_n 0, 1) := by decide +kernel
theorem dX7_cheapest_30 : decode cX7_cheapest 30 = .ok (.getfield 10, 3) := by decide +kernel
theorem dX7_cheapest_33 : decode cX7_cheapest 33 = .ok (.aload_n 0, 1) := by decide +kernel
theorem dX7_cheapest_34 : decode cX7_cheapest 34 = .ok (.getfield 10, 3) := by decide +kernel
theorem dX7_cheapest_37 : decode cX7_cheapest 37 = .ok (.iconst 0, 1) := by decide +kernel
theorem dX7_cheapest_38 : decode cX7_cheapest 38 = .ok (.invokevirtual 143, 3) := by decide +kernel
theorem dX7_cheapest_41 : decode cX7_cheapest 41 = .ok (.invokevirtual 146, 3) := by decide +kernel
theorem dX7_cheapest_44 : decode cX7_cheapest 44 = .ok (.ifCond .ne 6, 3) := by decide +kernel
theorem dX7_cheapest_47 : decode cX7_cheapest 47 = .ok (.bipush (-4), 2) := by decide +kernel
theorem dX7_cheapest_49 : decode cX7_cheapest 49 = .ok (.ireturn, 1) := by decide +kernel
theorem dX7_cheapest_50 : decode cX7_cheapest 50 = .ok (.iload_n 2, 1) := by decide +kernel
theorem dX7_cheapest_51 : decode cX7_cheapest 51 = .ok (.ifCond .ne 15, 3) := by decide +kernel
theorem dX7_cheapest_54 : decode cX7_cheapest 54 = .ok (.aload_n 0, 1) := by decide +kernel
theorem dX7_cheapest_55 : decode cX7_cheapest 55 = .ok (.getfield 57, 3) := by decide +kernel
theorem dX7_cheapest_58 : decode cX7_cheapest 58 = .ok (.invokevirtual 150, 3) := by decide +kernel
theorem dX7_cheapest_61 : decode cX7_cheapest 61 = .ok (.iload_n 1, 1) := by decide +kernel
theorem dX7_cheapest_62 : decode cX7_cheapest 62 = .ok (.invokevirtual 117, 3) := by decide +kernel
theorem dX7_cheapest_65 : decode cX7_cheapest 65 = .ok (.ireturn, 1) := by decide +kernel
theorem dX7_cheapest_66 : decode cX7_cheapest 66 = .ok (.aload_n 0, 1) := by decide +kernel
theorem dX7_cheapest_67 : decode cX7_cheapest 67 = .ok (.getfield 10, 3) := by decide +kernel
theorem dX7_cheapest_70 : decode cX7_cheapest 70 = .ok (.iload_n 1, 1) := by decide +kernel
theorem dX7_cheapest_71 : decode cX7_cheapest 71 = .ok (.invokevirtual 105, 3) := by decide +kernel
theorem dX7_cheapest_74 : decode cX7_cheapest 74 = .ok (.ifCond .ne 8, 3) := by decide +kernel
theorem dX7_cheapest_77 : decode cX7_cheapest 77 = .ok (.bipush (-5), 2) := by decide +kernel
theorem dX7_cheapest_79 : decode cX7_cheapest 79 = .ok (.goto 14, 3) := by decide +kernel
theorem dX7_cheapest_82 : decode cX7_cheapest 82 = .ok (.aload_n 0, 1) := by decide +kernel
theorem dX7_cheapest_83 : decode cX7_cheapest 83 = .ok (.getfield 57, 3) := by decide +kernel
theorem dX7_cheapest_86 : decode cX7_cheapest 86 = .ok (.invokevirtual 150, 3) := by decide +kernel
theorem dX7_cheapest_89 : decode cX7_cheapest 89 = .ok (.iload_n 1, 1) := by decide +kernel
theorem dX7_cheapest_90 : decode cX7_cheapest 90 = .ok (.invokevirtual 108, 3) := by decide +kernel
theorem dX7_cheapest_93 : decode cX7_cheapest 93 = .ok (.ireturn, 1) := by decide +kernel
set_option maxRecDepth 20000 in
theorem ggX7_leastCost_X7_isSetting : GoodIn wsX7_leastCost wsX7_isSetting := goodIn_r _ [6] (by decide +kernel) (by decide +kernel)
set_option maxRecDepth 20000 in
theorem gX7_leastCost_X7_isSetting : GoodIn wsX7_leastCost (va_wsS RX7 157 yX7_isSetting wsX7_isSetting) := goodIn_app (goodIn_of _ (by decide +kernel)) ggX7_leastCost_X7_isSetting
set_option maxRecDepth 20000 in
theorem ggX7_leastCost_X3_solve : GoodIn wsX7_leastCost wsX3_solve := goodIn_r _ [11, 12, 13, 14, 15, 16, 17, 18, 19, 20, 21, 22, 23, 24, 25, 26, 27, 28, 29, 30, 31, 32, 33, 34, 35, 36, 37, 38, 39, 40, 41, 42, 10, 43, 44, 45, 46, 47, 48, 49, 50, 51, 52, 53, 54, 55, 56, 57, 58, 59, 60, 61, 62, 63, 64, 65, 66, 67, 68, 69, 70, 71, 72, 73, 74, 75, 5, 76, 77, 78, 79, 80, 81, 82, 83, 84, 85, 86, 87, 88, 89, 90, 91, 92, 93, 94, 95, 96, 97, 98, 99, 100, 101, 102, 103, 104, 105, 106, 107, 108, 109, 110, 111, 112, 113, 114, 115, 116, 117, 118, 119, 120, 121, 122, 123, 124, 125, 126, 127, 128, 129, 130, 131, 132, 133, 134, 135, 136, 137, 138, 139, 140, 141, 142, 143, 144, 145, 146, 147, 218, 219, 220, 221, 222, 223] (by decide +kernel) (by decide +kernel)
set_option maxRecDepth 20000 in
theorem gX7_leastCost_X3_solve : GoodIn wsX7_leastCost (wsV RX7 146 RX3 yX3_solve wsX3_solve) := goodIn_app (goodIn_of _ (by decide +kernel)) ggX7_leastCost_X3_solve
set_option maxRecDepth 20000 in
theorem ggX7_leastCost_X3_chosen : GoodIn wsX7_leastCost wsX3_chosen := goodIn_r _ [151, 13, 218, 219, 220, 221] (by decide +kernel) (by decide +kernel)
set_option maxRecDepth 20000 in
theorem gX7_leastCost_X3_chosen : GoodIn wsX7_leastCost (wsV RX7 150 RX3 yX3_chosen wsX3_chosen) := goodIn_app (goodIn_of _ (by decide +kernel)) ggX7_leastCost_X3_chosen
set_option maxRecDepth 20000 in
theorem ggX7_leastCost_X7_costOf : GoodIn wsX7_leastCost wsX7_costOf := goodIn_r _ [155, 156, 157, 158, 159, 160, 161, 162, 163, 164, 165, 85, 86, 18, 87, 20, 50, 27, 28, 24, 29, 30, 166, 47, 48, 49, 167, 168, 169, 170, 171, 172, 173, 141, 142, 143, 174, 175, 176, 177, 178, 179, 180, 32, 33, 34, 181, 57, 58, 59, 182, 61, 62, 63, 183, 145, 146, 147, 75, 5, 76, 77, 78, 79, 184, 185, 186, 187, 188, 81, 82, 83, 84, 189, 190, 191, 192, 193, 194, 195, 196, 125, 126, 197, 198, 199, 200, 201, 202, 203, 204, 205, 206, 207, 208, 209, 210, 211, 212, 213, 214, 215, 216, 217, 224, 225, 226, 227, 228, 229, 230, 222, 223] (by decide +kernel) (by decide +kernel)
set_option maxRecDepth 20000 in
theorem gX7_leastCost_X7_costOf : GoodIn wsX7_leastCost (wsV RX7 131 RX7 yX7_costOf wsX7_costOf) := goodIn_app (goodIn_of _ (by decide +kernel)) ggX7_leastCost_X7_costOf
theorem dX7_leastCost_0 : decode cX7_leastCost 0 = .ok (.iconst 0, 1) := by decide +kernel
theorem dX7_leastCost_1 : decode cX7_leastCost 1 = .ok (.iload_n 1, 1) := by decide +kernel
theorem dX7_leastCost_2 : decode cX7_leastCost 2 = .ok (.invokestatic 157, 3) := by decide +kernel
theorem dX7_leastCost_5 : decode cX7_leastCost 5 = .ok (.ifCond .ne 6, 3) := by decide +kernel
theorem dX7_leastCost_8 : decode cX7_leastCost 8 = .ok (.bipush (-2), 2) := by decide +kernel
theorem dX7_leastCost_10 : decode cX7_leastCost 10 = .ok (.ireturn, 1) := by decide +kernel
theorem dX7_leastCost_11 : decode cX7_leastCost 11 = .ok (.aload_n 0, 1) := by decide +kernel
theorem dX7_leastCost_12 : decode cX7_leastCost 12 = .ok (.getfield 57, 3) := by decide +kernel
theorem dX7_leastCost_15 : decode cX7_leastCost 15 = .ok (.aload_n 0, 1) := by decide +kernel
theorem dX7_leastCost_16 : decode cX7_leastCost 16 = .ok (.getfield 10, 3) := by decide +kernel
theorem dX7_leastCost_19 : decode cX7_leastCost 19 = .ok (.iload_n 1, 1) := by decide +kernel
theorem dX7_leastCost_20 : decode cX7_leastCost 20 = .ok (.invokevirtual 146, 3) := by decide +kernel
theorem dX7_leastCost_23 : decode cX7_leastCost 23 = .ok (.ifCond .eq 17, 3) := by decide +kernel
theorem dX7_leastCost_26 : decode cX7_leastCost 26 = .ok (.aload_n 0, 1) := by decide +kernel
theorem dX7_leastCost_27 : decode cX7_leastCost 27 = .ok (.aload_n 0, 1) := by decide +kernel
theorem dX7_leastCost_28 : decode cX7_leastCost 28 = .ok (.getfield 57, 3) := by decide +kernel
theorem dX7_leastCost_31 : decode cX7_leastCost 31 = .ok (.invokevirtual 150, 3) := by decide +kernel
theorem dX7_leastCost_34 : decode cX7_leastCost 34 = .ok (.invokevirtual 131, 3) := by decide +kernel
theorem dX7_leastCost_37 : decode cX7_leastCost 37 = .ok (.goto 5, 3) := by decide +kernel
theorem dX7_leastCost_40 : decode cX7_leastCost 40 = .ok (.bipush (-4), 2) := by decide +kernel
theorem dX7_leastCost_42 : decode cX7_leastCost 42 = .ok (.ireturn, 1) := by decide +kernel
set_option maxRecDepth 20000 in
theorem ggX7_count_X2_lay : GoodIn wsX7_count wsX2_lay := goodIn_r _ [9, 10, 11, 12, 13, 14, 15, 16, 17, 18, 19, 20, 21, 22, 23, 24, 25, 26, 27, 28, 29, 30, 31, 8, 32, 33, 34, 35, 36, 37, 38, 39, 40, 41, 42, 43, 44, 45, 46, 47, 48, 49, 50, 51, 52, 53, 54, 55, 56, 57, 58, 59, 60, 61, 62, 63, 64, 65, 66, 167, 168, 169, 170, 171, 172, 173, 174, 175] (by decide +kernel) (by decide +kernel)
set_option maxRecDepth 20000 in
theorem gX7_count_X2_lay : GoodIn wsX7_count (wsV RX7 181 RX2 yX2_lay wsX2_lay) := goodIn_app (goodIn_of _ (by decide +kernel)) ggX7_count_X2_lay
set_option maxRecDepth 20000 in
theorem ggX7_count_X0_lots : GoodIn wsX7_count wsX0_lots := goodIn_r _ [28, 18, 19, 20, 21, 22, 23, 24, 174, 175] (by decide +kernel) (by decide +kernel)
set_option maxRecDepth 20000 in
theorem gX7_count_X0_lots : GoodIn wsX7_count (wsV RX7 68 RX0 yX0_lots wsX0_lots) := goodIn_app (goodIn_of _ (by decide +kernel)) ggX7_count_X0_lots
set_option maxRecDepth 20000 in
theorem ggX7_count_X0_plates : GoodIn wsX7_count wsX0_plates := goodIn_r _ [71, 72, 26, 27, 16, 28, 18, 19, 20, 21, 22, 23, 24, 73, 54, 55, 56, 174, 175] (by decide +kernel) (by decide +kernel)
set_option maxRecDepth 20000 in
theorem gX7_count_X0_plates : GoodIn wsX7_count (wsV RX7 226 RX0 yX0_plates wsX0_plates) := goodIn_app (goodIn_of _ (by decide +kernel)) ggX7_count_X0_plates
set_option maxRecDepth 20000 in
theorem ggX7_count_X7_facingPlates : GoodIn wsX7_count wsX7_facingPlates := goodIn_r _ [77, 2, 1, 67, 26, 27, 16, 28, 18, 19, 20, 21, 22, 23, 24, 78, 54, 55, 56, 79, 80, 81, 8, 82, 83, 84, 85, 86, 34, 87, 88, 89, 90, 91, 11, 92, 93, 94, 95, 96, 97, 98, 99, 44, 100, 101, 102, 103, 43, 158, 159, 160, 161, 162, 163, 164, 165, 166, 174, 175, 167, 168, 169, 170, 171, 172, 173] (by decide +kernel) (by decide +kernel)
set_option maxRecDepth 20000 in
theorem gX7_count_X7_facingPlates : GoodIn wsX7_count (wsV RX7 229 RX7 yX7_facingPlates wsX7_facingPlates) := goodIn_app (goodIn_of _ (by decide +kernel)) ggX7_count_X7_facingPlates
set_option maxRecDepth 20000 in
theorem ggX7_count_X0_pages : GoodIn wsX7_count wsX0_pages := goodIn_r _ [107, 72, 26, 27, 16, 28, 18, 19, 20, 21, 22, 23, 24, 108, 36, 37, 38, 109, 110, 111, 112, 113, 50, 51, 52, 73, 54, 55, 56, 174, 175] (by decide +kernel) (by decide +kernel)
set_option maxRecDepth 20000 in
theorem gX7_count_X0_pages : GoodIn wsX7_count (wsV RX7 124 RX0 yX0_pages wsX0_pages) := goodIn_app (goodIn_of _ (by decide +kernel)) ggX7_count_X0_pages
set_option maxRecDepth 20000 in
theorem ggX7_count_X2_gatherings : GoodIn wsX7_count wsX2_gatherings := goodIn_r _ [117, 12, 167, 168, 169, 170, 171, 172, 173] (by decide +kernel) (by decide +kernel)
set_option maxRecDepth 20000 in
theorem gX7_count_X2_gatherings : GoodIn wsX7_count (wsV RX7 211 RX2 yX2_gatherings wsX2_gatherings) := goodIn_app (goodIn_of _ (by decide +kernel)) ggX7_count_X2_gatherings
set_option maxRecDepth 20000 in
theorem ggX7_count_X2_allPages : GoodIn wsX7_count wsX2_allPages := goodIn_r _ [121, 11, 167, 168, 169, 170, 171, 172, 173] (by decide +kernel) (by decide +kernel)
set_option maxRecDepth 20000 in
theorem gX7_count_X2_allPages : GoodIn wsX7_count (wsV RX7 232 RX2 yX2_allPages wsX2_allPages) := goodIn_app (goodIn_of _ (by decide +kernel)) ggX7_count_X2_allPages
set_option maxRecDepth 20000 in
theorem ggX7_count_X2_colouredSides : GoodIn wsX7_count wsX2_colouredSides := goodIn_r _ [125, 12, 126, 127, 128, 8, 129, 10, 130, 62, 131, 96, 97, 98, 99, 44, 87, 20, 21, 22, 23, 24, 167, 168, 169, 170, 171, 172, 173, 175] (by decide +kernel) (by decide +kernel)
set_option maxRecDepth 20000 in
theorem gX7_count_X2_colouredSides : GoodIn wsX7_count (wsV RX7 235 RX2 yX2_colouredSides wsX2_colouredSides) := goodIn_app (goodIn_of _ (by decide +kernel)) ggX7_count_X2_colouredSides
set_option maxRecDepth 20000 in
theorem ggX7_count_X0_blanks : GoodIn wsX7_count wsX0_blanks := goodIn_r _ [135, 72, 26, 27, 16, 28, 18, 19, 20, 21, 22, 23, 24, 108, 36, 37, 38, 174, 175] (by decide +kernel) (by decide +kernel)
set_option maxRecDepth 20000 in
theorem gX7_count_X0_blanks : GoodIn wsX7_count (wsV RX7 238 RX0 yX0_blanks wsX0_blanks) := goodIn_app (goodIn_of _ (by decide +kernel)) ggX7_count_X0_blanks
set_option maxRecDepth 20000 in
theorem ggX7_count_X7_costOf : GoodIn wsX7_count wsX7_costOf := goodIn_r _ [139, 1, 5, 6, 7, 8, 9, 10, 11, 12, 13, 14, 15, 16, 17, 18, 19, 20, 21, 22, 23, 24, 25, 26, 27, 28, 29, 30, 31, 32, 33, 34, 35, 36, 37, 38, 39, 40, 41, 42, 43, 44, 45, 46, 47, 48, 49, 50, 51, 52, 53, 54, 55, 56, 57, 58, 59, 60, 61, 62, 63, 64, 65, 66, 114, 115, 116, 117, 140, 141, 142, 143, 144, 122, 123, 124, 125, 126, 127, 128, 129, 130, 131, 96, 97, 98, 99, 87, 145, 132, 133, 134, 135, 72, 108, 158, 159, 160, 161, 162, 163, 164, 165, 166, 167, 168, 169, 170, 171, 172, 173, 174, 175] (by decide +kernel) (by decide +kernel)
set_option maxRecDepth 20000 in
theorem gX7_count_X7_costOf : GoodIn wsX7_count (wsV RX7 131 RX7 yX7_costOf wsX7_costOf) := goodIn_app (goodIn_of _ (by decide +kernel)) ggX7_count_X7_costOf
set_option maxRecDepth 20000 in
theorem ggX7_count_X0_setting : GoodIn wsX7_count wsX0_setting := goodIn_r _ [17, 18, 19, 20, 21, 22, 23, 24, 174, 175] (by decide +kernel) (by decide +kernel)
set_option maxRecDepth 20000 in
theorem gX7_count_X0_setting : GoodIn wsX7_count (wsV RX7 143 RX0 yX0_setting wsX0_setting) := goodIn_app (goodIn_of _ (by decide +kernel)) ggX7_count_X0_setting
set_option maxRecDepth 20000 in
theorem ggX7_count_X1_states : GoodIn wsX7_count wsX1_states := goodIn_r _ [150, 151, 176, 177] (by decide +kernel) (by decide +kernel)
set_option maxRecDepth 20000 in
theorem gX7_count_X1_states : GoodIn wsX7_count (wsV RX7 172 RX1 yX1_states wsX1_states) := goodIn_app (goodIn_of _ (by decide +kernel)) ggX7_count_X1_states
set_option maxRecDepth 20000 in
theorem ggX7_count_X6_length : GoodIn wsX7_count wsX6_length := goodIn_r _ [156, 157, 178, 179] (by decide +kernel) (by decide +kernel)
set_option maxRecDepth 20000 in
theorem gX7_count_X6_length : GoodIn wsX7_count (wsV RX7 163 RX6 yX6_length wsX6_length) := goodIn_app (goodIn_of _ (by decide +kernel)) ggX7_count_X6_length
theorem dX7_count_0 : decode cX7_count 0 = .ok (.aload_n 0, 1) := by decide +kernel
theorem dX7_count_1 : decode cX7_count 1 = .ok (.getfield 50, 3) := by decide +kernel
theorem dX7_count_4 : decode cX7_count 4 = .ok (.aload_n 0, 1) := by decide +kernel
theorem dX7_count_5 : decode cX7_count 5 = .ok (.getfield 10, 3) := by decide +kernel
theorem dX7_count_8 : decode cX7_count 8 = .ok (.invokevirtual 181, 3) := by decide +kernel
theorem dX7_count_11 : decode cX7_count 11 = .ok (.iload_n 1, 1) := by decide +kernel
theorem dX7_count_12 : decode cX7_count 12 = .ok (.tableswitch 234 0 16 #[84, 92, 110, 119, 124, 132, 140, 148, 156, 164, 173, 182, 191, 200, 209, 218, 226], 84) := by decide +kernel
theorem dX7_count_96 : decode cX7_count 96 = .ok (.aload_n 0, 1) := by decide +kernel
theorem dX7_count_97 : decode cX7_count 97 = .ok (.getfield 10, 3) := by decide +kernel
theorem dX7_count_100 : decode cX7_count 100 = .ok (.invokevirtual 68, 3) := by decide +kernel
theorem dX7_count_103 : decode cX7_count 103 = .ok (.ireturn, 1) := by decide +kernel
theorem dX7_count_104 : decode cX7_count 104 = .ok (.aload_n 0, 1) := by decide +kernel
theorem dX7_count_105 : decode cX7_count 105 = .ok (.getfield 10, 3) := by decide +kernel
theorem dX7_count_108 : decode cX7_count 108 = .ok (.iconst 1, 1) := by decide +kernel
theorem dX7_count_109 : decode cX7_count 109 = .ok (.invokevirtual 226, 3) := by decide +kernel
theorem dX7_count_112 : decode cX7_count 112 = .ok (.aload_n 0, 1) := by decide +kernel
theorem dX7_count_113 : decode cX7_count 113 = .ok (.getfield 10, 3) := by decide +kernel
theorem dX7_count_116 : decode cX7_count 116 = .ok (.iconst 2, 1) := by decide +kernel
theorem dX7_count_117 : decode cX7_count 117 = .ok (.invokevirtual 226, 3) := by decide +kernel
theorem dX7_count_120 : decode cX7_count 120 = .ok (.iadd, 1) := by decide +kernel
theorem dX7_count_121 : decode cX7_count 121 = .ok (.ireturn, 1) := by decide +kernel
theorem dX7_count_122 : decode cX7_count 122 = .ok (.aload_n 0, 1) := by decide +kernel
theorem dX7_count_123 : decode cX7_count 123 = .ok (.getfield 10, 3) := by decide +kernel
theorem dX7_count_126 : decode cX7_count 126 = .ok (.iconst 2, 1) := by decide +kernel
theorem dX7_count_127 : decode cX7_count 127 = .ok (.invokevirtual 226, 3) := by decide +kernel
theorem dX7_count_130 : decode cX7_count 130 = .ok (.ireturn, 1) := by decide +kernel
theorem dX7_count_131 : decode cX7_count 131 = .ok (.aload_n 0, 1) := by decide +kernel
theorem dX7_count_132 : decode cX7_count 132 = .ok (.invokevirtual 229, 3) := by decide +kernel
theorem dX7_count_135 : decode cX7_count 135 = .ok (.ireturn, 1) := by decide +kernel
theorem dX7_count_136 : decode cX7_count 136 = .ok (.aload_n 0, 1) := by decide +kernel
theorem dX7_count_137 : decode cX7_count 137 = .ok (.getfield 10, 3) := by decide +kernel
theorem dX7_count_140 : decode cX7_count 140 = .ok (.invokevirtual 124, 3) := by decide +kernel
theorem dX7_count_143 : decode cX7_count 143 = .ok (.ireturn, 1) := by decide +kernel
theorem dX7_count_144 : decode cX7_count 144 = .ok (.aload_n 0, 1) := by decide +kernel
theorem dX7_count_145 : decode cX7_count 145 = .ok (.getfield 50, 3) := by decide +kernel
theorem dX7_count_148 : decode cX7_count 148 = .ok (.invokevirtual 211, 3) := by decide +kernel
theorem dX7_count_151 : decode cX7_count 151 = .ok (.ireturn, 1) := by decide +kernel
theorem dX7_count_152 : decode cX7_count 152 = .ok (.aload_n 0, 1) := by decide +kernel
theorem dX7_count_153 : decode cX7_count 153 = .ok (.getfield 50, 3) := by decide +kernel
theorem dX7_count_156 : decode cX7_count 156 = .ok (.invokevirtual 232, 3) := by decide +kernel
theorem dX7_count_159 : decode cX7_count 159 = .ok (.ireturn, 1) := by decide +kernel
theorem dX7_count_160 : decode cX7_count 160 = .ok (.aload_n 0, 1) := by decide +kernel
theorem dX7_count_161 : decode cX7_count 161 = .ok (.getfield 50, 3) := by decide +kernel
theorem dX7_count_164 : decode cX7_count 164 = .ok (.invokevirtual 235, 3) := by decide +kernel
theorem dX7_count_167 : decode cX7_count 167 = .ok (.ireturn, 1) := by decide +kernel
theorem dX7_count_168 : decode cX7_count 168 = .ok (.aload_n 0, 1) := by decide +kernel
theorem dX7_count_169 : decode cX7_count 169 = .ok (.getfield 10, 3) := by decide +kernel
theorem dX7_count_172 : decode cX7_count 172 = .ok (.invokevirtual 238, 3) := by decide +kernel
theorem dX7_count_175 : decode cX7_count 175 = .ok (.ireturn, 1) := by decide +kernel
theorem dX7_count_176 : decode cX7_count 176 = .ok (.aload_n 0, 1) := by decide +kernel
theorem dX7_count_177 : decode cX7_count 177 = .ok (.aload_n 0, 1) := by decide +kernel
theorem dX7_count_178 : decode cX7_count 178 = .ok (.getfield 10, 3) := by decide +kernel
theorem dX7_count_181 : decode cX7_count 181 = .ok (.invokevirtual 131, 3) := by decide +kernel
theorem dX7_count_184 : decode cX7_count 184 = .ok (.ireturn, 1) := by decide +kernel
theorem dX7_count_185 : decode cX7_count 185 = .ok (.aload_n 0, 1) := by decide +kernel
theorem dX7_count_186 : decode cX7_count 186 = .ok (.getfield 10, 3) := by decide +kernel
theorem dX7_count_189 : decode cX7_count 189 = .ok (.iconst 0, 1) := by decide +kernel
theorem dX7_count_190 : decode cX7_count 190 = .ok (.invokevirtual 143, 3) := by decide +kernel
theorem dX7_count_193 : decode cX7_count 193 = .ok (.ireturn, 1) := by decide +kernel
theorem dX7_count_194 : decode cX7_count 194 = .ok (.aload_n 0, 1) := by decide +kernel
theorem dX7_count_195 : decode cX7_count 195 = .ok (.getfield 10, 3) := by decide +kernel
theorem dX7_count_198 : decode cX7_count 198 = .ok (.iconst 1, 1) := by decide +kernel
theorem dX7_count_199 : decode cX7_count 199 = .ok (.invokevirtual 143, 3) := by decide +kernel
theorem dX7_count_202 : decode cX7_count 202 = .ok (.ireturn, 1) := by decide +kernel
theorem dX7_count_203 : decode cX7_count 203 = .ok (.aload_n 0, 1) := by decide +kernel
theorem dX7_count_204 : decode cX7_count 204 = .ok (.getfield 10, 3) := by decide +kernel
theorem dX7_count_207 : decode cX7_count 207 = .ok (.iconst 2, 1) := by decide +kernel
theorem dX7_count_208 : decode cX7_count 208 = .ok (.invokevirtual 143, 3) := by decide +kernel
theorem dX7_count_211 : decode cX7_count 211 = .ok (.ireturn, 1) := by decide +kernel
theorem dX7_count_212 : decode cX7_count 212 = .ok (.aload_n 0, 1) := by decide +kernel
theorem dX7_count_213 : decode cX7_count 213 = .ok (.getfield 10, 3) := by decide +kernel
theorem dX7_count_216 : decode cX7_count 216 = .ok (.iconst 3, 1) := by decide +kernel
theorem dX7_count_217 : decode cX7_count 217 = .ok (.invokevirtual 143, 3) := by decide +kernel
theorem dX7_count_220 : decode cX7_count 220 = .ok (.ireturn, 1) := by decide +kernel
theorem dX7_count_221 : decode cX7_count 221 = .ok (.aload_n 0, 1) := by decide +kernel
theorem dX7_count_222 : decode cX7_count 222 = .ok (.getfield 10, 3) := by decide +kernel
theorem dX7_count_225 : decode cX7_count 225 = .ok (.iconst 4, 1) := by decide +kernel
theorem dX7_count_226 : decode cX7_count 226 = .ok (.invokevirtual 143, 3) := by decide +kernel
theorem dX7_count_229 : decode cX7_count 229 = .ok (.ireturn, 1) := by decide +kernel
theorem dX7_count_230 : decode cX7_count 230 = .ok (.aload_n 0, 1) := by decide +kernel
theorem dX7_count_231 : decode cX7_count 231 = .ok (.getfield 29, 3) := by decide +kernel
theorem dX7_count_234 : decode cX7_count 234 = .ok (.invokevirtual 172, 3) := by decide +kernel
theorem dX7_count_237 : decode cX7_count 237 = .ok (.ireturn, 1) := by decide +kernel
theorem dX7_count_238 : decode cX7_count 238 = .ok (.aload_n 0, 1) := by decide +kernel
theorem dX7_count_239 : decode cX7_count 239 = .ok (.getfield 36, 3) := by decide +kernel
theorem dX7_count_242 : decode cX7_count 242 = .ok (.invokevirtual 163, 3) := by decide +kernel
theorem dX7_count_245 : decode cX7_count 245 = .ok (.ireturn, 1) := by decide +kernel
theorem dX7_count_246 : decode cX7_count 246 = .ok (.bipush (-2), 2) := by decide +kernel
theorem dX7_count_248 : decode cX7_count 248 = .ok (.ireturn, 1) := by decide +kernel
theorem dX7_isText_0 : decode cX7_isText 0 = .ok (.iload_n 0, 1) := by decide +kernel
theorem dX7_isText_1 : decode cX7_isText 1 = .ok (.iconst 1, 1) := by decide +kernel
theorem dX7_isText_2 : decode cX7_isText 2 = .ok (.if_icmp .lt 12, 3) := by decide +kernel
theorem dX7_isText_5 : decode cX7_isText 5 = .ok (.iload_n 0, 1) := by decide +kernel
theorem dX7_isText_6 : decode cX7_isText 6 = .ok (.iconst 3, 1) := by decide +kernel
theorem dX7_isText_7 : decode cX7_isText 7 = .ok (.if_icmp .gt 7, 3) := by decide +kernel
theorem dX7_isText_10 : decode cX7_isText 10 = .ok (.iconst 1, 1) := by decide +kernel
theorem dX7_isText_11 : decode cX7_isText 11 = .ok (.goto 4, 3) := by decide +kernel
theorem dX7_isText_14 : decode cX7_isText 14 = .ok (.iconst 0, 1) := by decide +kernel
theorem dX7_isText_15 : decode cX7_isText 15 = .ok (.ireturn, 1) := by decide +kernel
theorem dX7_isPlate_0 : decode cX7_isPlate 0 = .ok (.iload_n 0, 1) := by decide +kernel
theorem dX7_isPlate_1 : decode cX7_isPlate 1 = .ok (.ifCond .lt 12, 3) := by decide +kernel
theorem dX7_isPlate_4 : decode cX7_isPlate 4 = .ok (.iload_n 0, 1) := by decide +kernel
theorem dX7_isPlate_5 : decode cX7_isPlate 5 = .ok (.iconst 2, 1) := by decide +kernel
theorem dX7_isPlate_6 : decode cX7_isPlate 6 = .ok (.if_icmp .gt 7, 3) := by decide +kernel
theorem dX7_isPlate_9 : decode cX7_isPlate 9 = .ok (.iconst 1, 1) := by decide +kernel
theorem dX7_isPlate_10 : decode cX7_isPlate 10 = .ok (.goto 4, 3) := by decide +kernel
theorem dX7_isPlate_13 : decode cX7_isPlate 13 = .ok (.iconst 0, 1) := by decide +kernel
theorem dX7_isPlate_14 : decode cX7_isPlate 14 = .ok (.ireturn, 1) := by decide +kernel
theorem dX7_isSetting_0 : decode cX7_isSetting 0 = .ok (.iload_n 0, 1) := by decide +kernel
theorem dX7_isSetting_1 : decode cX7_isSetting 1 = .ok (.ifCond .ne 26, 3) := by decide +kernel
theorem dX7_isSetting_4 : decode cX7_isSetting 4 = .ok (.iload_n 1, 1) := by decide +kernel
theorem dX7_isSetting_5 : decode cX7_isSetting 5 = .ok (.iconst 4, 1) := by decide +kernel
theorem dX7_isSetting_6 : decode cX7_isSetting 6 = .ok (.if_icmp .eq 15, 3) := by decide +kernel
theorem dX7_isSetting_9 : decode cX7_isSetting 9 = .ok (.iload_n 1, 1) := by decide +kernel
theorem dX7_isSetting_10 : decode cX7_isSetting 10 = .ok (.bipush 8, 2) := by decide +kernel
theorem dX7_isSetting_12 : decode cX7_isSetting 12 = .ok (.if_icmp .eq 9, 3) := by decide +kernel
theorem dX7_isSetting_15 : decode cX7_isSetting 15 = .ok (.iload_n 1, 1) := by decide +kernel
theorem dX7_isSetting_16 : decode cX7_isSetting 16 = .ok (.bipush 16, 2) := by decide +kernel
theorem dX7_isSetting_18 : decode cX7_isSetting 18 = .ok (.if_icmp .ne 7, 3) := by decide +kernel
theorem dX7_isSetting_21 : decode cX7_isSetting 21 = .ok (.iconst 1, 1) := by decide +kernel
theorem dX7_isSetting_22 : decode cX7_isSetting 22 = .ok (.goto 4, 3) := by decide +kernel
theorem dX7_isSetting_25 : decode cX7_isSetting 25 = .ok (.iconst 0, 1) := by decide +kernel
theorem dX7_isSetting_26 : decode cX7_isSetting 26 = .ok (.ireturn, 1) := by decide +kernel
theorem dX7_isSetting_27 : decode cX7_isSetting 27 = .ok (.iload_n 1, 1) := by decide +kernel
theorem dX7_isSetting_28 : decode cX7_isSetting 28 = .ok (.ifCond .lt 24, 3) := by decide +kernel
theorem dX7_isSetting_31 : decode cX7_isSetting 31 = .ok (.iload_n 1, 1) := by decide +kernel
theorem dX7_isSetting_32 : decode cX7_isSetting 32 = .ok (.iload_n 0, 1) := by decide +kernel
theorem dX7_isSetting_33 : decode cX7_isSetting 33 = .ok (.iconst 4, 1) := by decide +kernel
theorem dX7_isSetting_34 : decode cX7_isSetting 34 = .ok (.if_icmp .ne 9, 3) := by decide +kernel
theorem dX7_isSetting_37 : decode cX7_isSetting 37 = .ok (.sipush 999, 3) := by decide +kernel
theorem dX7_isSetting_40 : decode cX7_isSetting 40 = .ok (.goto 5, 3) := by decide +kernel
theorem dX7_isSetting_43 : decode cX7_isSetting 43 = .ok (.bipush 99, 2) := by decide +kernel
theorem dX7_isSetting_45 : decode cX7_isSetting 45 = .ok (.if_icmp .gt 7, 3) := by decide +kernel
theorem dX7_isSetting_48 : decode cX7_isSetting 48 = .ok (.iconst 1, 1) := by decide +kernel
theorem dX7_isSetting_49 : decode cX7_isSetting 49 = .ok (.goto 4, 3) := by decide +kernel
theorem dX7_isSetting_52 : decode cX7_isSetting 52 = .ok (.iconst 0, 1) := by decide +kernel
theorem dX7_isSetting_53 : decode cX7_isSetting 53 = .ok (.ireturn, 1) := by decide +kernel
set_option maxRecDepth 20000 in
theorem ggX7_costOf_X2_lay : GoodIn wsX7_costOf wsX2_lay := goodIn_r _ [6, 7, 8, 9, 10, 11, 12, 13, 14, 15, 16, 17, 18, 19, 20, 21, 22, 23, 24, 25, 26, 27, 28, 5, 29, 30, 31, 32, 33, 34, 35, 36, 37, 38, 39, 40, 41, 42, 43, 44, 45, 46, 47, 48, 49, 50, 51, 52, 53, 54, 55, 56, 57, 58, 59, 60, 61, 62, 63, 104, 105, 106, 107, 108, 109, 110, 111, 112] (by decide +kernel) (by decide +kernel)
set_option maxRecDepth 20000 in
theorem gX7_costOf_X2_lay : GoodIn wsX7_costOf (wsV RX7 181 RX2 yX2_lay wsX2_lay) := goodIn_app (goodIn_of _ (by decide +kernel)) ggX7_costOf_X2_lay
set_option maxRecDepth 20000 in
theorem ggX7_costOf_X2_gatherings : GoodIn wsX7_costOf wsX2_gatherings := goodIn_r _ [67, 9, 104, 105, 106, 107, 108, 109, 110] (by decide +kernel) (by decide +kernel)
set_option maxRecDepth 20000 in
theorem gX7_costOf_X2_gatherings : GoodIn wsX7_costOf (wsV RX7 211 RX2 yX2_gatherings wsX2_gatherings) := goodIn_app (goodIn_of _ (by decide +kernel)) ggX7_costOf_X2_gatherings
set_option maxRecDepth 20000 in
theorem ggX7_costOf_X0_costOfGathering : GoodIn wsX7_costOf wsX0_costOfGathering := goodIn_r _ [71, 72, 11, 12, 13, 14, 15, 16, 17, 18, 19, 20, 21, 111, 112] (by decide +kernel) (by decide +kernel)
set_option maxRecDepth 20000 in
theorem gX7_costOf_X0_costOfGathering : GoodIn wsX7_costOf (wsV RX7 241 RX0 yX0_costOfGathering wsX0_costOfGathering) := goodIn_app (goodIn_of _ (by decide +kernel)) ggX7_costOf_X0_costOfGathering
set_option maxRecDepth 20000 in
theorem ggX7_costOf_X2_colouredSides : GoodIn wsX7_costOf wsX2_colouredSides := goodIn_r _ [76, 9, 77, 78, 79, 5, 80, 7, 81, 59, 82, 83, 84, 85, 86, 41, 87, 17, 18, 19, 20, 21, 104, 105, 106, 107, 108, 109, 110, 112] (by decide +kernel) (by decide +kernel)
set_option maxRecDepth 20000 in
theorem gX7_costOf_X2_colouredSides : GoodIn wsX7_costOf (wsV RX7 235 RX2 yX2_colouredSides wsX2_colouredSides) := goodIn_app (goodIn_of _ (by decide +kernel)) ggX7_costOf_X2_colouredSides
set_option maxRecDepth 20000 in
theorem ggX7_costOf_X0_setting : GoodIn wsX7_costOf wsX0_setting := goodIn_r _ [14, 15, 16, 17, 18, 19, 20, 21, 111, 112] (by decide +kernel) (by decide +kernel)
set_option maxRecDepth 20000 in
theorem gX7_costOf_X0_setting : GoodIn wsX7_costOf (wsV RX7 143 RX0 yX0_setting wsX0_setting) := goodIn_app (goodIn_of _ (by decide +kernel)) ggX7_costOf_X0_setting
set_option maxRecDepth 20000 in
theorem ggX7_costOf_X0_blanks : GoodIn wsX7_costOf wsX0_blanks := goodIn_r _ [92, 93, 23, 24, 13, 25, 15, 16, 17, 18, 19, 20, 21, 94, 33, 34, 35, 111, 112] (by decide +kernel) (by decide +kernel)
set_option maxRecDepth 20000 in
theorem gX7_costOf_X0_blanks : GoodIn wsX7_costOf (wsV RX7 238 RX0 yX0_blanks wsX0_blanks) := goodIn_app (goodIn_of _ (by decide +kernel)) ggX7_costOf_X0_blanks
theorem dX7_costOf_0 : decode cX7_costOf 0 = .ok (.aload_n 0, 1) := by decide +kernel
theorem dX7_costOf_1 : decode cX7_costOf 1 = .ok (.getfield 50, 3) := by decide +kernel
theorem dX7_costOf_4 : decode cX7_costOf 4 = .ok (.aload_n 1, 1) := by decide +kernel
theorem dX7_costOf_5 : decode cX7_costOf 5 = .ok (.invokevirtual 181, 3) := by decide +kernel
theorem dX7_costOf_8 : decode cX7_costOf 8 = .ok (.aload_n 0, 1) := by decide +kernel
theorem dX7_costOf_9 : decode cX7_costOf 9 = .ok (.getfield 50, 3) := by decide +kernel
theorem dX7_costOf_12 : decode cX7_costOf 12 = .ok (.invokevirtual 211, 3) := by decide +kernel
theorem dX7_costOf_15 : decode cX7_costOf 15 = .ok (.aload_n 1, 1) := by decide +kernel
theorem dX7_costOf_16 : decode cX7_costOf 16 = .ok (.invokevirtual 241, 3) := by decide +kernel
theorem dX7_costOf_19 : decode cX7_costOf 19 = .ok (.imul, 1) := by decide +kernel
theorem dX7_costOf_20 : decode cX7_costOf 20 = .ok (.aload_n 0, 1) := by decide +kernel
theorem dX7_costOf_21 : decode cX7_costOf 21 = .ok (.getfield 50, 3) := by decide +kernel
theorem dX7_costOf_24 : decode cX7_costOf 24 = .ok (.invokevirtual 235, 3) := by decide +kernel
theorem dX7_costOf_27 : decode cX7_costOf 27 = .ok (.aload_n 1, 1) := by decide +kernel
theorem dX7_costOf_28 : decode cX7_costOf 28 = .ok (.iconst 2, 1) := by decide +kernel
theorem dX7_costOf_29 : decode cX7_costOf 29 = .ok (.invokevirtual 143, 3) := by decide +kernel
theorem dX7_costOf_32 : decode cX7_costOf 32 = .ok (.imul, 1) := by decide +kernel
theorem dX7_costOf_33 : decode cX7_costOf 33 = .ok (.iadd, 1) := by decide +kernel
theorem dX7_costOf_34 : decode cX7_costOf 34 = .ok (.aload_n 1, 1) := by decide +kernel
theorem dX7_costOf_35 : decode cX7_costOf 35 = .ok (.invokevirtual 238, 3) := by decide +kernel
theorem dX7_costOf_38 : decode cX7_costOf 38 = .ok (.aload_n 1, 1) := by decide +kernel
theorem dX7_costOf_39 : decode cX7_costOf 39 = .ok (.iconst 3, 1) := by decide +kernel
theorem dX7_costOf_40 : decode cX7_costOf 40 = .ok (.invokevirtual 143, 3) := by decide +kernel
theorem dX7_costOf_43 : decode cX7_costOf 43 = .ok (.imul, 1) := by decide +kernel
theorem dX7_costOf_44 : decode cX7_costOf 44 = .ok (.iadd, 1) := by decide +kernel
theorem dX7_costOf_45 : decode cX7_costOf 45 = .ok (.ireturn, 1) := by decide +kernel
set_option maxRecDepth 20000 in
theorem ggX7_facingPlates_X0_lots : GoodIn wsX7_facingPlates wsX0_lots := goodIn_r _ [7, 8, 9, 10, 11, 12, 13, 14, 58, 59] (by decide +kernel) (by decide +kernel)
set_option maxRecDepth 20000 in
theorem gX7_facingPlates_X0_lots : GoodIn wsX7_facingPlates (wsV RX7 68 RX0 yX0_lots wsX0_lots) := goodIn_app (goodIn_of _ (by decide +kernel)) ggX7_facingPlates_X0_lots
set_option maxRecDepth 20000 in
theorem ggX7_facingPlates_X0_plate : GoodIn wsX7_facingPlates wsX0_plate := goodIn_r _ [18, 8, 9, 10, 11, 12, 13, 14, 58, 59] (by decide +kernel) (by decide +kernel)
set_option maxRecDepth 20000 in
theorem gX7_facingPlates_X0_plate : GoodIn wsX7_facingPlates (wsV RX7 105 RX0 yX0_plate wsX0_plate) := goodIn_app (goodIn_of _ (by decide +kernel)) ggX7_facingPlates_X0_plate
set_option maxRecDepth 20000 in
theorem ggX7_facingPlates_X2_whyNotFacing : GoodIn wsX7_facingPlates wsX2_whyNotFacing := goodIn_r _ [23, 24, 25, 26, 22, 27, 28, 29, 10, 11, 12, 13, 14, 30, 31, 32, 33, 34, 35, 36, 37, 38, 39, 40, 41, 42, 43, 44, 45, 46, 47, 48, 60, 61, 62, 63, 64, 65, 66, 59] (by decide +kernel) (by decide +kernel)
set_option maxRecDepth 20000 in
theorem gX7_facingPlates_X2_whyNotFacing : GoodIn wsX7_facingPlates (wsV RX7 190 RX2 yX2_whyNotFacing wsX2_whyNotFacing) := goodIn_app (goodIn_of _ (by decide +kernel)) ggX7_facingPlates_X2_whyNotFacing
theorem dX7_facingPlates_0 : decode cX7_facingPlates 0 = .ok (.iconst 0, 1) := by decide +kernel
theorem dX7_facingPlates_1 : decode cX7_facingPlates 1 = .ok (.istore_n 1, 1) := by decide +kernel
theorem dX7_facingPlates_2 : decode cX7_facingPlates 2 = .ok (.iconst 0, 1) := by decide +kernel
theorem dX7_facingPlates_3 : decode cX7_facingPlates 3 = .ok (.istore_n 2, 1) := by decide +kernel
theorem dX7_facingPlates_4 : decode cX7_facingPlates 4 = .ok (.iload_n 2, 1) := by decide +kernel
theorem dX7_facingPlates_5 : decode cX7_facingPlates 5 = .ok (.aload_n 0, 1) := by decide +kernel
theorem dX7_facingPlates_6 : decode cX7_facingPlates 6 = .ok (.getfield 10, 3) := by decide +kernel
theorem dX7_facingPlates_9 : decode cX7_facingPlates 9 = .ok (.invokevirtual 68, 3) := by decide +kernel
theorem dX7_facingPlates_12 : decode cX7_facingPlates 12 = .ok (.if_icmp .ge 34, 3) := by decide +kernel
theorem dX7_facingPlates_15 : decode cX7_facingPlates 15 = .ok (.aload_n 0, 1) := by decide +kernel
theorem dX7_facingPlates_16 : decode cX7_facingPlates 16 = .ok (.getfield 10, 3) := by decide +kernel
theorem dX7_facingPlates_19 : decode cX7_facingPlates 19 = .ok (.iload_n 2, 1) := by decide +kernel
theorem dX7_facingPlates_20 : decode cX7_facingPlates 20 = .ok (.invokevirtual 105, 3) := by decide +kernel
theorem dX7_facingPlates_23 : decode cX7_facingPlates 23 = .ok (.ifCond .eq 17, 3) := by decide +kernel
theorem dX7_facingPlates_26 : decode cX7_facingPlates 26 = .ok (.aload_n 0, 1) := by decide +kernel
theorem dX7_facingPlates_27 : decode cX7_facingPlates 27 = .ok (.getfield 50, 3) := by decide +kernel
theorem dX7_facingPlates_30 : decode cX7_facingPlates 30 = .ok (.iload_n 2, 1) := by decide +kernel
theorem dX7_facingPlates_31 : decode cX7_facingPlates 31 = .ok (.invokevirtual 190, 3) := by decide +kernel
theorem dX7_facingPlates_34 : decode cX7_facingPlates 34 = .ok (.ifCond .ne 6, 3) := by decide +kernel
theorem dX7_facingPlates_37 : decode cX7_facingPlates 37 = .ok (.iinc 1 1, 3) := by decide +kernel
theorem dX7_facingPlates_40 : decode cX7_facingPlates 40 = .ok (.iinc 2 1, 3) := by decide +kernel
theorem dX7_facingPlates_43 : decode cX7_facingPlates 43 = .ok (.goto (-39), 3) := by decide +kernel
theorem dX7_facingPlates_46 : decode cX7_facingPlates 46 = .ok (.iload_n 1, 1) := by decide +kernel
theorem dX7_facingPlates_47 : decode cX7_facingPlates 47 = .ok (.ireturn, 1) := by decide +kernel
theorem dX7_gatheringOfPage_0 : decode cX7_gatheringOfPage 0 = .ok (.iload_n 0, 1) := by decide +kernel
theorem dX7_gatheringOfPage_1 : decode cX7_gatheringOfPage 1 = .ok (.iconst 1, 1) := by decide +kernel
theorem dX7_gatheringOfPage_2 : decode cX7_gatheringOfPage 2 = .ok (.if_icmp .lt 8, 3) := by decide +kernel
theorem dX7_gatheringOfPage_5 : decode cX7_gatheringOfPage 5 = .ok (.iload_n 1, 1) := by decide +kernel
theorem dX7_gatheringOfPage_6 : decode cX7_gatheringOfPage 6 = .ok (.iconst 1, 1) := by decide +kernel
theorem dX7_gatheringOfPage_7 : decode cX7_gatheringOfPage 7 = .ok (.if_icmp .ge 7, 3) := by decide +kernel
theorem dX7_gatheringOfPage_10 : decode cX7_gatheringOfPage 10 = .ok (.iconst 0, 1) := by decide +kernel
theorem dX7_gatheringOfPage_11 : decode cX7_gatheringOfPage 11 = .ok (.goto 8, 3) := by decide +kernel
theorem dX7_gatheringOfPage_14 : decode cX7_gatheringOfPage 14 = .ok (.iload_n 0, 1) := by decide +kernel
theorem dX7_gatheringOfPage_15 : decode cX7_gatheringOfPage 15 = .ok (.iconst 1, 1) := by decide +kernel
theorem dX7_gatheringOfPage_16 : decode cX7_gatheringOfPage 16 = .ok (.isub, 1) := by decide +kernel
theorem dX7_gatheringOfPage_17 : decode cX7_gatheringOfPage 17 = .ok (.iload_n 1, 1) := by decide +kernel
theorem dX7_gatheringOfPage_18 : decode cX7_gatheringOfPage 18 = .ok (.idiv, 1) := by decide +kernel
theorem dX7_gatheringOfPage_19 : decode cX7_gatheringOfPage 19 = .ok (.ireturn, 1) := by decide +kernel
set_option maxRecDepth 20000 in
theorem ggX7_gatheringsFor_X7_gatheringOfPage : GoodIn wsX7_gatheringsFor wsX7_gatheringOfPage := goodIn_r _ [4] (by decide +kernel) (by decide +kernel)
set_option maxRecDepth 20000 in
theorem gX7_gatheringsFor_X7_gatheringOfPage : GoodIn wsX7_gatheringsFor (va_wsS RX7 244 yX7_gatheringOfPage wsX7_gatheringOfPage) := goodIn_app (goodIn_of _ (by decide +kernel)) ggX7_gatheringsFor_X7_gatheringOfPage
theorem dX7_gatheringsFor_0 : decode cX7_gatheringsFor 0 = .ok (.iload_n 0, 1) := by decide +kernel
theorem dX7_gatheringsFor_1 : decode cX7_gatheringsFor 1 = .ok (.iconst 1, 1) := by decide +kernel
theorem dX7_gatheringsFor_2 : decode cX7_gatheringsFor 2 = .ok (.if_icmp .ge 7, 3) := by decide +kernel
theorem dX7_gatheringsFor_5 : decode cX7_gatheringsFor 5 = .ok (.iconst 0, 1) := by decide +kernel
theorem dX7_gatheringsFor_6 : decode cX7_gatheringsFor 6 = .ok (.goto 10, 3) := by decide +kernel
theorem dX7_gatheringsFor_9 : decode cX7_gatheringsFor 9 = .ok (.iload_n 0, 1) := by decide +kernel
theorem dX7_gatheringsFor_10 : decode cX7_gatheringsFor 10 = .ok (.iload_n 1, 1) := by decide +kernel
theorem dX7_gatheringsFor_11 : decode cX7_gatheringsFor 11 = .ok (.invokestatic 244, 3) := by decide +kernel
theorem dX7_gatheringsFor_14 : decode cX7_gatheringsFor 14 = .ok (.iconst 1, 1) := by decide +kernel
theorem dX7_gatheringsFor_15 : decode cX7_gatheringsFor 15 = .ok (.iadd, 1) := by decide +kernel
theorem dX7_gatheringsFor_16 : decode cX7_gatheringsFor 16 = .ok (.ireturn, 1) := by decide +kernel
theorem dX7_sideOfPage_0 : decode cX7_sideOfPage 0 = .ok (.iload_n 0, 1) := by decide +kernel
theorem dX7_sideOfPage_1 : decode cX7_sideOfPage 1 = .ok (.iconst 3, 1) := by decide +kernel
theorem dX7_sideOfPage_2 : decode cX7_sideOfPage 2 = .ok (.iand, 1) := by decide +kernel
theorem dX7_sideOfPage_3 : decode cX7_sideOfPage 3 = .ok (.istore_n 1, 1) := by decide +kernel
theorem dX7_sideOfPage_4 : decode cX7_sideOfPage 4 = .ok (.iload_n 1, 1) := by decide +kernel
theorem dX7_sideOfPage_5 : decode cX7_sideOfPage 5 = .ok (.ifCond .eq 8, 3) := by decide +kernel
theorem dX7_sideOfPage_8 : decode cX7_sideOfPage 8 = .ok (.iload_n 1, 1) := by decide +kernel
theorem dX7_sideOfPage_9 : decode cX7_sideOfPage 9 = .ok (.iconst 1, 1) := by decide +kernel
theorem dX7_sideOfPage_10 : decode cX7_sideOfPage 10 = .ok (.if_icmp .ne 7, 3) := by decide +kernel
theorem dX7_sideOfPage_13 : decode cX7_sideOfPage 13 = .ok (.iconst 0, 1) := by decide +kernel
theorem dX7_sideOfPage_14 : decode cX7_sideOfPage 14 = .ok (.goto 4, 3) := by decide +kernel
theorem dX7_sideOfPage_17 : decode cX7_sideOfPage 17 = .ok (.iconst 1, 1) := by decide +kernel
theorem dX7_sideOfPage_18 : decode cX7_sideOfPage 18 = .ok (.ireturn, 1) := by decide +kernel
theorem dJ9_min_7cf53_0 : decode cJ9_min_7cf53 0 = .ok (.iload_n 0, 1) := by decide +kernel
theorem dJ9_min_7cf53_1 : decode cJ9_min_7cf53 1 = .ok (.iload_n 1, 1) := by decide +kernel
theorem dJ9_min_7cf53_2 : decode cJ9_min_7cf53 2 = .ok (.if_icmp .gt 7, 3) := by decide +kernel
theorem dJ9_min_7cf53_5 : decode cJ9_min_7cf53 5 = .ok (.iload_n 0, 1) := by decide +kernel
theorem dJ9_min_7cf53_6 : decode cJ9_min_7cf53 6 = .ok (.goto 4, 3) := by decide +kernel
theorem dJ9_min_7cf53_9 : decode cJ9_min_7cf53 9 = .ok (.iload_n 1, 1) := by decide +kernel
theorem dJ9_min_7cf53_10 : decode cJ9_min_7cf53 10 = .ok (.ireturn, 1) := by decide +kernel
theorem dL_cell_0 : decode cL_cell 0 = .ok (.iload_n 1, 1) := by decide +kernel
theorem dL_cell_1 : decode cL_cell 1 = .ok (.aload_n 0, 1) := by decide +kernel
theorem dL_cell_2 : decode cL_cell 2 = .ok (.arraylength, 1) := by decide +kernel
theorem dL_cell_3 : decode cL_cell 3 = .ok (.if_icmp .ge 9, 3) := by decide +kernel
theorem dL_cell_6 : decode cL_cell 6 = .ok (.aload_n 0, 1) := by decide +kernel
theorem dL_cell_7 : decode cL_cell 7 = .ok (.iload_n 1, 1) := by decide +kernel
theorem dL_cell_8 : decode cL_cell 8 = .ok (.iaload, 1) := by decide +kernel
theorem dL_cell_9 : decode cL_cell 9 = .ok (.goto 11, 3) := by decide +kernel
theorem dL_cell_12 : decode cL_cell 12 = .ok (.ldc 7, 2) := by decide +kernel
theorem dL_cell_14 : decode cL_cell 14 = .ok (.iload_n 1, 1) := by decide +kernel
theorem dL_cell_15 : decode cL_cell 15 = .ok (.sipush 1237, 3) := by decide +kernel
theorem dL_cell_18 : decode cL_cell 18 = .ok (.iadd, 1) := by decide +kernel
theorem dL_cell_19 : decode cL_cell 19 = .ok (.imul, 1) := by decide +kernel
theorem dL_cell_20 : decode cL_cell 20 = .ok (.ireturn, 1) := by decide +kernel
theorem dL_up_0 : decode cL_up 0 = .ok (.iload_n 0, 1) := by decide +kernel
theorem dL_up_1 : decode cL_up 1 = .ok (.ldc 8, 2) := by decide +kernel
theorem dL_up_3 : decode cL_up 3 = .ok (.iand, 1) := by decide +kernel
theorem dL_up_4 : decode cL_up 4 = .ok (.iload_n 1, 1) := by decide +kernel
theorem dL_up_5 : decode cL_up 5 = .ok (.irem, 1) := by decide +kernel
theorem dL_up_6 : decode cL_up 6 = .ok (.ireturn, 1) := by decide +kernel
set_option maxRecDepth 20000 in
theorem ggL_isRetold_X7_count : GoodIn wsL_isRetold wsX7_count := goodIn_r _ [5, 6, 7, 8, 9, 10, 11, 12, 13, 14, 15, 16, 17, 18, 19, 20, 21, 22, 23, 24, 25, 26, 27, 28, 29, 30, 31, 32, 33, 34, 35, 36, 37, 38, 39, 40, 41, 42, 43, 44, 45, 46, 47, 48, 49, 50, 51, 52, 53, 54, 55, 56, 57, 58, 59, 60, 61, 62, 63, 64, 65, 66, 4, 67, 68, 69, 70, 71, 72, 73, 74, 75, 76, 77, 78, 79, 80, 81, 82, 83, 84, 85, 86, 87, 88, 89, 90, 91, 92, 93, 94, 95, 96, 97, 98, 99, 100, 101, 102, 103, 104, 105, 106, 107, 108, 109, 110, 111, 112, 113, 114, 115, 116, 117, 118, 119, 120, 121, 122, 123, 124, 125, 126, 127, 128, 129, 130, 131, 132, 133, 134, 135, 136, 137, 138, 139, 140, 141, 142, 143, 144, 145, 146, 147, 148, 149, 150, 151, 152, 153, 154, 155, 156, 157, 158, 159, 160, 161, 287, 288, 289, 290, 291, 292, 293, 294, 295, 296, 297, 298, 299, 300, 301, 302, 303, 304, 305, 306, 307, 308] (by decide +kernel) (by decide +kernel)
set_option maxRecDepth 20000 in
theorem gL_isRetold_X7_count : GoodIn wsL_isRetold (wsV RL 9 RX7 yX7_count wsX7_count) := goodIn_app (goodIn_of _ (by decide +kernel)) ggL_isRetold_X7_count
set_option maxRecDepth 20000 in
theorem ggL_isRetold_X7_clearText : GoodIn wsL_isRetold wsX7_clearText := goodIn_r _ [165, 9, 156, 157, 158, 159, 160, 161, 166, 167, 168, 169, 287, 288, 289, 290, 291, 292, 293, 294, 295, 307, 308] (by decide +kernel) (by decide +kernel)
set_option maxRecDepth 20000 in
theorem gL_isRetold_X7_clearText : GoodIn wsL_isRetold (wsV RL 15 RX7 yX7_clearText wsX7_clearText) := goodIn_app (goodIn_of _ (by decide +kernel)) ggL_isRetold_X7_clearText
set_option maxRecDepth 20000 in
theorem ggL_isRetold_X7_remove : GoodIn wsL_isRetold wsX7_remove := goodIn_r _ [173, 7, 8, 174, 175, 176, 21, 177, 76, 31, 32, 33, 23, 24, 25, 26, 27, 28, 29, 178, 179, 180, 153, 181, 155, 182, 183, 184, 185, 186, 187, 188, 51, 52, 53, 189, 190, 191, 192, 193, 194, 195, 196, 197, 198, 199, 200, 201, 117, 55, 56, 57, 77, 59, 60, 61, 112, 41, 42, 43, 202, 63, 64, 65, 203, 204, 205, 206, 207, 208, 209, 210, 211, 212, 213, 214, 215, 71, 287, 288, 289, 290, 291, 292, 293, 294, 295, 303, 304, 305, 306] (by decide +kernel) (by decide +kernel)
set_option maxRecDepth 20000 in
theorem gL_isRetold_X7_remove : GoodIn wsL_isRetold (wsV RL 19 RX7 yX7_remove wsX7_remove) := goodIn_app (goodIn_of _ (by decide +kernel)) ggL_isRetold_X7_remove
set_option maxRecDepth 20000 in
theorem ggL_isRetold_X7_lot : GoodIn wsL_isRetold wsX7_lot := goodIn_r _ [219, 7, 6, 174, 175, 176, 21, 177, 76, 31, 32, 33, 23, 24, 25, 26, 27, 28, 29, 10, 11, 12, 13, 14, 15, 16, 17, 18, 19, 20, 22, 30, 34, 35, 36, 37, 38, 39, 40, 41, 42, 43, 44, 45, 46, 47, 48, 49, 50, 51, 52, 53, 54, 55, 56, 57, 58, 59, 60, 61, 62, 63, 64, 65, 66, 4, 67, 68, 69, 70, 82, 220, 221, 222, 223, 224, 225, 226, 91, 227, 88, 89, 90, 83, 84, 85, 86, 87, 92, 93, 94, 95, 96, 97, 98, 99, 100, 101, 102, 103, 104, 105, 106, 107, 287, 288, 289, 290, 291, 292, 293, 294, 295, 303, 304, 296, 297, 298, 299, 300, 301, 302] (by decide +kernel) (by decide +kernel)
set_option maxRecDepth 20000 in
theorem gL_isRetold_X7_lot : GoodIn wsL_isRetold (wsV RL 22 RX7 yX7_lot wsX7_lot) := goodIn_app (goodIn_of _ (by decide +kernel)) ggL_isRetold_X7_lot
set_option maxRecDepth 20000 in
theorem ggL_isRetold_X7_type : GoodIn wsL_isRetold wsX7_type := goodIn_r _ [231, 9, 156, 157, 158, 159, 160, 161, 232, 233, 234, 235, 236, 237, 51, 52, 27, 53, 29, 287, 288, 289, 290, 291, 292, 293, 294, 295, 307, 308, 304] (by decide +kernel) (by decide +kernel)
set_option maxRecDepth 20000 in
theorem gL_isRetold_X7_type : GoodIn wsL_isRetold (wsV RL 26 RX7 yX7_type wsX7_type) := goodIn_app (goodIn_of _ (by decide +kernel)) ggL_isRetold_X7_type
set_option maxRecDepth 20000 in
theorem ggL_isRetold_X7_load : GoodIn wsL_isRetold wsX7_load := goodIn_r _ [241, 242, 9, 8, 7, 243, 244, 245, 246, 247, 248, 249, 250, 251, 252, 253, 21, 254, 23, 211, 51, 52, 27, 53, 29, 255, 256, 257, 258, 259, 260, 261, 159, 262, 161, 236, 263, 25, 26, 28, 264, 4, 265, 266, 267, 268, 269, 270, 271, 272, 273, 76, 31, 32, 33, 24, 207, 208, 209, 210, 212, 213, 214, 215, 274, 157, 158, 160, 275, 276, 277, 278, 178, 179, 180, 153, 181, 155, 182, 183, 184, 185, 186, 187, 188, 189, 190, 191, 192, 193, 279, 280, 281, 282, 283, 284, 285, 286, 71, 287, 288, 289, 290, 291, 292, 293, 294, 295, 309, 310, 311, 303, 304, 307, 308, 305, 306] (by decide +kernel) (by decide +kernel)
set_option maxRecDepth 20000 in
theorem gL_isRetold_X7_load : GoodIn wsL_isRetold (wsV RL 30 RX7 yX7_load wsX7_load) := goodIn_app (goodIn_of _ (by decide +kernel)) ggL_isRetold_X7_load
theorem dL_isRetold_0 : decode cL_isRetold 0 = .ok (.aload_n 0, 1) := by decide +kernel
theorem dL_isRetold_1 : decode cL_isRetold 1 = .ok (.iconst 0, 1) := by decide +kernel
theorem dL_isRetold_2 : decode cL_isRetold 2 = .ok (.invokevirtual 9, 3) := by decide +kernel
theorem dL_isRetold_5 : decode cL_isRetold 5 = .ok (.istore_n 2, 1) := by decide +kernel
theorem dL_isRetold_6 : decode cL_isRetold 6 = .ok (.aload_n 1, 1) := by decide +kernel
theorem dL_isRetold_7 : decode cL_isRetold 7 = .ok (.invokevirtual 15, 3) := by decide +kernel
theorem dL_isRetold_10 : decode cL_isRetold 10 = .ok (.ifCond .lt 7, 3) := by decide +kernel
theorem dL_isRetold_13 : decode cL_isRetold 13 = .ok (.iconst 1, 1) := by decide +kernel
theorem dL_isRetold_14 : decode cL_isRetold 14 = .ok (.goto 4, 3) := by decide +kernel
theorem dL_isRetold_17 : decode cL_isRetold 17 = .ok (.iconst 0, 1) := by decide +kernel
theorem dL_isRetold_18 : decode cL_isRetold 18 = .ok (.istore_n 3, 1) := by decide +kernel
theorem dL_isRetold_19 : decode cL_isRetold 19 = .ok (.iload_n 2, 1) := by decide +kernel
theorem dL_isRetold_20 : decode cL_isRetold 20 = .ok (.ifCond .ne 39, 3) := by decide +kernel
theorem dL_isRetold_23 : decode cL_isRetold 23 = .ok (.aload_n 1, 1) := by decide +kernel
theorem dL_isRetold_24 : decode cL_isRetold 24 = .ok (.iconst 0, 1) := by decide +kernel
theorem dL_isRetold_25 : decode cL_isRetold 25 = .ok (.invokevirtual 9, 3) := by decide +kernel
theorem dL_isRetold_28 : decode cL_isRetold 28 = .ok (.ifCond .le 29, 3) := by decide +kernel
theorem dL_isRetold_31 : decode cL_isRetold 31 = .ok (.iload_n 3, 1) := by decide +kernel
theorem dL_isRetold_32 : decode cL_isRetold 32 = .ok (.ifCond .eq 20, 3) := by decide +kernel
theorem dL_isRetold_35 : decode cL_isRetold 35 = .ok (.aload_n 1, 1) := by decide +kernel
theorem dL_isRetold_36 : decode cL_isRetold 36 = .ok (.iconst 0, 1) := by decide +kernel
theorem dL_isRetold_37 : decode cL_isRetold 37 = .ok (.invokevirtual 19, 3) := by decide +kernel
theorem dL_isRetold_40 : decode cL_isRetold 40 = .ok (.aload_n 1, 1) := by decide +kernel
theorem dL_isRetold_41 : decode cL_isRetold 41 = .ok (.iconst 0, 1) := by decide +kernel
theorem dL_isRetold_42 : decode cL_isRetold 42 = .ok (.invokevirtual 9, 3) := by decide +kernel
theorem dL_isRetold_45 : decode cL_isRetold 45 = .ok (.if_icmp .ne 7, 3) := by decide +kernel
theorem dL_isRetold_48 : decode cL_isRetold 48 = .ok (.iconst 1, 1) := by decide +kernel
theorem dL_isRetold_49 : decode cL_isRetold 49 = .ok (.goto 4, 3) := by decide +kernel
theorem dL_isRetold_52 : decode cL_isRetold 52 = .ok (.iconst 0, 1) := by decide +kernel
theorem dL_isRetold_53 : decode cL_isRetold 53 = .ok (.istore_n 3, 1) := by decide +kernel
theorem dL_isRetold_54 : decode cL_isRetold 54 = .ok (.goto (-31), 3) := by decide +kernel
theorem dL_isRetold_57 : decode cL_isRetold 57 = .ok (.iload_n 3, 1) := by decide +kernel
theorem dL_isRetold_58 : decode cL_isRetold 58 = .ok (.ireturn, 1) := by decide +kernel
theorem dL_isRetold_59 : decode cL_isRetold 59 = .ok (.iconst 0, 1) := by decide +kernel
theorem dL_isRetold_60 : decode cL_isRetold 60 = .ok (.istore 4, 2) := by decide +kernel
theorem dL_isRetold_62 : decode cL_isRetold 62 = .ok (.iload 4, 2) := by decide +kernel
theorem dL_isRetold_64 : decode cL_isRetold 64 = .ok (.iload_n 2, 1) := by decide +kernel
theorem dL_isRetold_65 : decode cL_isRetold 65 = .ok (.if_icmp .ge 151, 3) := by decide +kernel
theorem dL_isRetold_68 : decode cL_isRetold 68 = .ok (.aload_n 0, 1) := by decide +kernel
theorem dL_isRetold_69 : decode cL_isRetold 69 = .ok (.iload 4, 2) := by decide +kernel
theorem dL_isRetold_71 : decode cL_isRetold 71 = .ok (.iconst 1, 1) := by decide +kernel
theorem dL_isRetold_72 : decode cL_isRetold 72 = .ok (.invokevirtual 22, 3) := by decide +kernel
theorem dL_isRetold_75 : decode cL_isRetold 75 = .ok (.istore 5, 2) := by decide +kernel
theorem dL_isRetold_77 : decode cL_isRetold 77 = .ok (.iload_n 3, 1) := by decide +kernel
theorem dL_isRetold_78 : decode cL_isRetold 78 = .ok (.ifCond .eq 39, 3) := by decide +kernel
theorem dL_isRetold_81 : decode cL_isRetold 81 = .ok (.iload 4, 2) := by decide +kernel
theorem dL_isRetold_83 : decode cL_isRetold 83 = .ok (.ifCond .eq 12, 3) := by decide +kernel
theorem dL_isRetold_86 : decode cL_isRetold 86 = .ok (.aload_n 1, 1) := by decide +kernel
theorem dL_isRetold_87 : decode cL_isRetold 87 = .ok (.bipush 44, 2) := by decide +kernel
theorem dL_isRetold_89 : decode cL_isRetold 89 = .ok (.invokevirtual 26, 3) := by decide +kernel
theorem dL_isRetold_92 : decode cL_isRetold 92 = .ok (.ifCond .le 25, 3) := by decide +kernel
theorem dL_isRetold_95 : decode cL_isRetold 95 = .ok (.aload_n 1, 1) := by decide +kernel
theorem dL_isRetold_96 : decode cL_isRetold 96 = .ok (.bipush 48, 2) := by decide +kernel
theorem dL_isRetold_98 : decode cL_isRetold 98 = .ok (.aload_n 0, 1) := by decide +kernel
theorem dL_isRetold_99 : decode cL_isRetold 99 = .ok (.iload 4, 2) := by decide +kernel
theorem dL_isRetold_101 : decode cL_isRetold 101 = .ok (.iconst 0, 1) := by decide +kernel
theorem dL_isRetold_102 : decode cL_isRetold 102 = .ok (.invokevirtual 22, 3) := by decide +kernel
theorem dL_isRetold_105 : decode cL_isRetold 105 = .ok (.iadd, 1) := by decide +kernel
theorem dL_isRetold_106 : decode cL_isRetold 106 = .ok (.i2c, 1) := by decide +kernel
theorem dL_isRetold_107 : decode cL_isRetold 107 = .ok (.invokevirtual 26, 3) := by decide +kernel
theorem dL_isRetold_110 : decode cL_isRetold 110 = .ok (.ifCond .le 7, 3) := by decide +kernel
theorem dL_isRetold_113 : decode cL_isRetold 113 = .ok (.iconst 1, 1) := by decide +kernel
theorem dL_isRetold_114 : decode cL_isRetold 114 = .ok (.goto 4, 3) := by decide +kernel
theorem dL_isRetold_117 : decode cL_isRetold 117 = .ok (.iconst 0, 1) := by decide +kernel
theorem dL_isRetold_118 : decode cL_isRetold 118 = .ok (.istore_n 3, 1) := by decide +kernel
theorem dL_isRetold_119 : decode cL_isRetold 119 = .ok (.iload 5, 2) := by decide +kernel
theorem dL_isRetold_121 : decode cL_isRetold 121 = .ok (.ifCond .le 60, 3) := by decide +kernel
theorem dL_isRetold_124 : decode cL_isRetold 124 = .ok (.iload_n 3, 1) := by decide +kernel
theorem dL_isRetold_125 : decode cL_isRetold 125 = .ok (.ifCond .eq 54, 3) := by decide +kernel
theorem dL_isRetold_128 : decode cL_isRetold 128 = .ok (.aload_n 1, 1) := by decide +kernel
theorem dL_isRetold_129 : decode cL_isRetold 129 = .ok (.iload 5, 2) := by decide +kernel
theorem dL_isRetold_131 : decode cL_isRetold 131 = .ok (.iconst 1, 1) := by decide +kernel
theorem dL_isRetold_132 : decode cL_isRetold 132 = .ok (.if_icmp .ne 8, 3) := by decide +kernel
theorem dL_isRetold_135 : decode cL_isRetold 135 = .ok (.bipush 98, 2) := by decide +kernel
theorem dL_isRetold_137 : decode cL_isRetold 137 = .ok (.goto 5, 3) := by decide +kernel
theorem dL_isRetold_140 : decode cL_isRetold 140 = .ok (.bipush 99, 2) := by decide +kernel
theorem dL_isRetold_142 : decode cL_isRetold 142 = .ok (.invokevirtual 26, 3) := by decide +kernel
theorem dL_isRetold_145 : decode cL_isRetold 145 = .ok (.ifCond .le 34, 3) := by decide +kernel
theorem dL_isRetold_148 : decode cL_isRetold 148 = .ok (.aload_n 1, 1) := by decide +kernel
theorem dL_isRetold_149 : decode cL_isRetold 149 = .ok (.bipush 64, 2) := by decide +kernel
theorem dL_isRetold_151 : decode cL_isRetold 151 = .ok (.invokevirtual 26, 3) := by decide +kernel
theorem dL_isRetold_154 : decode cL_isRetold 154 = .ok (.ifCond .le 25, 3) := by decide +kernel
theorem dL_isRetold_157 : decode cL_isRetold 157 = .ok (.aload_n 1, 1) := by decide +kernel
theorem dL_isRetold_158 : decode cL_isRetold 158 = .ok (.bipush 48, 2) := by decide +kernel
theorem dL_isRetold_160 : decode cL_isRetold 160 = .ok (.aload_n 0, 1) := by decide +kernel
theorem dL_isRetold_161 : decode cL_isRetold 161 = .ok (.iload 4, 2) := by decide +kernel
theorem dL_isRetold_163 : decode cL_isRetold 163 = .ok (.iconst 3, 1) := by decide +kernel
theorem dL_isRetold_164 : decode cL_isRetold 164 = .ok (.invokevirtual 22, 3) := by decide +kernel
theorem dL_isRetold_167 : decode cL_isRetold 167 = .ok (.iadd, 1) := by decide +kernel
theorem dL_isRetold_168 : decode cL_isRetold 168 = .ok (.i2c, 1) := by decide +kernel
theorem dL_isRetold_169 : decode cL_isRetold 169 = .ok (.invokevirtual 26, 3) := by decide +kernel
theorem dL_isRetold_172 : decode cL_isRetold 172 = .ok (.ifCond .le 7, 3) := by decide +kernel
theorem dL_isRetold_175 : decode cL_isRetold 175 = .ok (.iconst 1, 1) := by decide +kernel
theorem dL_isRetold_176 : decode cL_isRetold 176 = .ok (.goto 4, 3) := by decide +kernel
theorem dL_isRetold_179 : decode cL_isRetold 179 = .ok (.iconst 0, 1) := by decide +kernel
theorem dL_isRetold_180 : decode cL_isRetold 180 = .ok (.istore_n 3, 1) := by decide +kernel
theorem dL_isRetold_181 : decode cL_isRetold 181 = .ok (.iload_n 3, 1) := by decide +kernel
theorem dL_isRetold_182 : decode cL_isRetold 182 = .ok (.ifCond .eq 26, 3) := by decide +kernel
theorem dL_isRetold_185 : decode cL_isRetold 185 = .ok (.aload_n 0, 1) := by decide +kernel
theorem dL_isRetold_186 : decode cL_isRetold 186 = .ok (.iload 4, 2) := by decide +kernel
theorem dL_isRetold_188 : decode cL_isRetold 188 = .ok (.iconst 2, 1) := by decide +kernel
theorem dL_isRetold_189 : decode cL_isRetold 189 = .ok (.invokevirtual 22, 3) := by decide +kernel
theorem dL_isRetold_192 : decode cL_isRetold 192 = .ok (.ifCond .eq 12, 3) := by decide +kernel
theorem dL_isRetold_195 : decode cL_isRetold 195 = .ok (.aload_n 1, 1) := by decide +kernel
theorem dL_isRetold_196 : decode cL_isRetold 196 = .ok (.bipush 43, 2) := by decide +kernel
theorem dL_isRetold_198 : decode cL_isRetold 198 = .ok (.invokevirtual 26, 3) := by decide +kernel
theorem dL_isRetold_201 : decode cL_isRetold 201 = .ok (.ifCond .le 7, 3) := by decide +kernel
theorem dL_isRetold_204 : decode cL_isRetold 204 = .ok (.iconst 1, 1) := by decide +kernel
theorem dL_isRetold_205 : decode cL_isRetold 205 = .ok (.goto 4, 3) := by decide +kernel
theorem dL_isRetold_208 : decode cL_isRetold 208 = .ok (.iconst 0, 1) := by decide +kernel
theorem dL_isRetold_209 : decode cL_isRetold 209 = .ok (.istore_n 3, 1) := by decide +kernel
theorem dL_isRetold_210 : decode cL_isRetold 210 = .ok (.iinc 4 1, 3) := by decide +kernel
theorem dL_isRetold_213 : decode cL_isRetold 213 = .ok (.goto (-151), 3) := by decide +kernel
theorem dL_isRetold_216 : decode cL_isRetold 216 = .ok (.iload_n 3, 1) := by decide +kernel
theorem dL_isRetold_217 : decode cL_isRetold 217 = .ok (.ifCond .eq 15, 3) := by decide +kernel
theorem dL_isRetold_220 : decode cL_isRetold 220 = .ok (.aload_n 1, 1) := by decide +kernel
theorem dL_isRetold_221 : decode cL_isRetold 221 = .ok (.invokevirtual 30, 3) := by decide +kernel
theorem dL_isRetold_224 : decode cL_isRetold 224 = .ok (.iload_n 2, 1) := by decide +kernel
theorem dL_isRetold_225 : decode cL_isRetold 225 = .ok (.if_icmp .ne 7, 3) := by decide +kernel
theorem dL_isRetold_228 : decode cL_isRetold 228 = .ok (.iconst 1, 1) := by decide +kernel
theorem dL_isRetold_229 : decode cL_isRetold 229 = .ok (.goto 4, 3) := by decide +kernel
theorem dL_isRetold_232 : decode cL_isRetold 232 = .ok (.iconst 0, 1) := by decide +kernel
theorem dL_isRetold_233 : decode cL_isRetold 233 = .ok (.ireturn, 1) := by decide +kernel
set_option maxRecDepth 20000 in
theorem ggL_isAlike_L_isRetold : GoodIn wsL_isAlike wsL_isRetold := goodIn_r _ [4, 5, 6, 7, 8, 9, 10, 11, 12, 13, 14, 15, 16, 17, 18, 19, 20, 21, 22, 23, 24, 25, 26, 27, 28, 29, 30, 31, 32, 33, 34, 35, 36, 37, 38, 39, 40, 41, 42, 43, 44, 45, 46, 47, 48, 49, 50, 51, 52, 53, 54, 55, 56, 57, 58, 59, 60, 61, 62, 63, 64, 65, 66, 67, 68, 69, 70, 71, 72, 73, 74, 75, 76, 77, 78, 79, 80, 81, 82, 83, 84, 85, 86, 87, 88, 89, 90, 91, 92, 93, 94, 95, 96, 97, 98, 99, 100, 101, 102, 103, 104, 105, 106, 107, 108, 109, 110, 111, 112, 113, 114, 115, 116, 117, 118, 119, 120, 121, 122, 123, 124, 125, 126, 127, 128, 129, 130, 131, 132, 133, 134, 135, 136, 137, 138, 139, 140, 141, 142, 143, 144, 145, 146, 147, 148, 149, 150, 151, 152, 153, 154, 155, 156, 157, 158, 159, 160, 161, 162, 163, 164, 165, 166, 167, 168, 169, 170, 171, 172, 173, 174, 175, 176, 177, 178, 179, 180, 181, 182, 183, 184, 185, 186, 187, 188, 189, 190, 191, 192, 193, 194, 195, 196, 197, 198, 199, 200, 201, 202, 203, 204, 205, 206, 207, 208, 209, 210, 211, 212, 213, 214, 215, 216, 217, 218, 219, 220, 221, 222, 223, 224, 225, 226, 227, 228, 229, 230, 231, 232, 233, 234, 235, 236, 237, 238, 239, 240, 241, 242, 243, 244, 245, 246, 247, 248, 249, 250, 251, 252, 253, 254, 255, 256, 257, 258, 259, 260, 261, 262, 263, 264, 265, 266, 267, 268, 269, 270, 271, 272, 273, 274, 275, 276, 277, 278, 279, 280, 281, 282, 283, 284, 285, 286, 287, 288, 289, 290, 393, 394, 395, 396, 397, 398, 399, 400, 401, 402, 403, 404, 405, 406, 407, 408, 409, 410, 411, 412, 413, 414, 415, 416, 417] (by decide +kernel) (by decide +kernel)
set_option maxRecDepth 20000 in
theorem gL_isAlike_L_isRetold : GoodIn wsL_isAlike (va_wsS RL 33 yL_isRetold wsL_isRetold) := goodIn_app (goodIn_of _ (by decide +kernel)) ggL_isAlike_L_isRetold
set_option maxRecDepth 20000 in
theorem ggL_isAlike_X7_count : GoodIn wsL_isAlike wsX7_count := goodIn_r _ [9, 10, 11, 12, 13, 14, 15, 16, 17, 18, 19, 20, 21, 22, 23, 24, 25, 26, 27, 28, 29, 30, 31, 32, 33, 34, 35, 36, 37, 38, 39, 40, 41, 42, 43, 44, 45, 46, 47, 48, 49, 50, 51, 52, 53, 54, 55, 56, 57, 58, 59, 60, 61, 62, 63, 64, 65, 66, 67, 68, 69, 70, 8, 71, 72, 73, 74, 75, 76, 77, 78, 79, 80, 81, 82, 83, 84, 85, 86, 87, 88, 89, 90, 91, 92, 93, 94, 95, 96, 97, 98, 99, 100, 101, 102, 103, 104, 105, 106, 107, 108, 109, 110, 111, 112, 113, 114, 115, 116, 117, 118, 119, 120, 121, 122, 123, 124, 125, 126, 127, 128, 129, 130, 131, 132, 133, 134, 135, 136, 137, 138, 139, 140, 141, 142, 143, 144, 145, 146, 147, 148, 149, 150, 151, 152, 153, 154, 155, 156, 157, 158, 159, 160, 161, 162, 163, 164, 165, 393, 394, 395, 396, 397, 398, 399, 400, 401, 402, 403, 404, 405, 406, 407, 408, 409, 410, 411, 412, 413, 414] (by decide +kernel) (by decide +kernel)
set_option maxRecDepth 20000 in
theorem gL_isAlike_X7_count : GoodIn wsL_isAlike (wsV RL 9 RX7 yX7_count wsX7_count) := goodIn_app (goodIn_of _ (by decide +kernel)) ggL_isAlike_X7_count
set_option maxRecDepth 20000 in
theorem ggL_isAlike_X7_lot : GoodIn wsL_isAlike wsX7_lot := goodIn_r _ [223, 11, 10, 178, 179, 180, 25, 181, 80, 35, 36, 37, 27, 28, 29, 30, 31, 32, 33, 14, 15, 16, 17, 18, 19, 20, 21, 22, 23, 24, 26, 34, 38, 39, 40, 41, 42, 43, 44, 45, 46, 47, 48, 49, 50, 51, 52, 53, 54, 55, 56, 57, 58, 59, 60, 61, 62, 63, 64, 65, 66, 67, 68, 69, 70, 8, 71, 72, 73, 74, 86, 224, 225, 226, 227, 228, 229, 230, 95, 231, 92, 93, 94, 87, 88, 89, 90, 91, 96, 97, 98, 99, 100, 101, 102, 103, 104, 105, 106, 107, 108, 109, 110, 111, 393, 394, 395, 396, 397, 398, 399, 400, 401, 409, 410, 402, 403, 404, 405, 406, 407, 408] (by decide +kernel) (by decide +kernel)
set_option maxRecDepth 20000 in
theorem gL_isAlike_X7_lot : GoodIn wsL_isAlike (wsV RL 22 RX7 yX7_lot wsX7_lot) := goodIn_app (goodIn_of _ (by decide +kernel)) ggL_isAlike_X7_lot
set_option maxRecDepth 20000 in
theorem ggL_isAlike_X7_cheapest : GoodIn wsL_isAlike wsX7_cheapest := goodIn_r _ [294, 11, 295, 178, 179, 180, 25, 181, 80, 35, 36, 37, 27, 28, 29, 30, 31, 32, 33, 153, 23, 24, 26, 296, 297, 298, 299, 300, 301, 302, 303, 304, 305, 306, 307, 197, 188, 189, 190, 191, 192, 55, 56, 57, 308, 309, 310, 311, 215, 312, 313, 314, 315, 316, 317, 318, 319, 320, 118, 119, 120, 121, 59, 60, 61, 81, 63, 64, 65, 321, 322, 323, 324, 325, 326, 327, 328, 329, 330, 331, 70, 8, 71, 72, 73, 74, 332, 149, 150, 151, 152, 333, 334, 335, 336, 337, 338, 339, 340, 341, 342, 343, 344, 345, 346, 347, 348, 349, 350, 351, 352, 353, 354, 355, 356, 357, 358, 359, 360, 361, 362, 363, 364, 365, 366, 367, 368, 369, 138, 139, 370, 371, 372, 373, 374, 375, 376, 377, 378, 379, 217, 218, 219, 380, 45, 46, 47, 381, 67, 68, 69, 382, 383, 384, 385, 225, 86, 226, 393, 394, 395, 396, 397, 398, 399, 400, 401, 409, 410, 418, 419, 420, 421] (by decide +kernel) (by decide +kernel)
set_option maxRecDepth 20000 in
theorem gL_isAlike_X7_cheapest : GoodIn wsL_isAlike (wsV RL 39 RX7 yX7_cheapest wsX7_cheapest) := goodIn_app (goodIn_of _ (by decide +kernel)) ggL_isAlike_X7_cheapest
set_option maxRecDepth 20000 in
theorem ggL_isAlike_X7_leastCost : GoodIn wsL_isAlike wsX7_leastCost := goodIn_r _ [389, 295, 11, 390, 391, 8, 392, 296, 297, 298, 299, 300, 301, 302, 303, 304, 305, 306, 25, 307, 27, 197, 188, 189, 31, 190, 191, 29, 30, 32, 33, 192, 55, 56, 57, 308, 309, 310, 311, 215, 312, 313, 314, 315, 316, 317, 318, 35, 36, 37, 28, 319, 320, 118, 119, 120, 121, 59, 60, 61, 81, 63, 64, 65, 321, 322, 323, 324, 325, 326, 327, 328, 329, 330, 331, 70, 71, 72, 73, 74, 332, 149, 150, 151, 152, 23, 24, 26, 333, 334, 335, 336, 337, 338, 339, 340, 341, 342, 343, 344, 345, 346, 347, 348, 349, 350, 351, 352, 353, 354, 355, 356, 357, 358, 359, 360, 361, 362, 363, 364, 365, 366, 367, 368, 369, 138, 139, 370, 371, 372, 373, 374, 375, 376, 377, 378, 379, 217, 218, 219, 380, 45, 46, 47, 381, 67, 68, 69, 382, 383, 384, 385, 144, 145, 146, 147, 10, 14, 15, 16, 17, 18, 19, 20, 21, 22, 34, 38, 39, 40, 41, 42, 43, 44, 48, 49, 50, 51, 52, 53, 54, 58, 62, 66, 122, 123, 124, 125, 148, 130, 131, 132, 133, 134, 135, 136, 137, 104, 105, 106, 107, 95, 153, 140, 141, 142, 143, 80, 116, 393, 394, 395, 396, 397, 398, 399, 400, 401, 418, 419, 420, 421, 409, 410, 402, 403, 404, 405, 406, 407, 408] (by decide +kernel) (by decide +kernel)
set_option maxRecDepth 20000 in
theorem gL_isAlike_X7_leastCost : GoodIn wsL_isAlike (wsV RL 42 RX7 yX7_leastCost wsX7_leastCost) := goodIn_app (goodIn_of _ (by decide +kernel)) ggL_isAlike_X7_leastCost
theorem dL_isAlike_0 : decode cL_isAlike 0 = .ok (.aload_n 0, 1) := by decide +kernel
theorem dL_isAlike_1 : decode cL_isAlike 1 = .ok (.aload_n 1, 1) := by decide +kernel
theorem dL_isAlike_2 : decode cL_isAlike 2 = .ok (.invokestatic 33, 3) := by decide +kernel
theorem dL_isAlike_5 : decode cL_isAlike 5 = .ok (.istore_n 2, 1) := by decide +kernel
theorem dL_isAlike_6 : decode cL_isAlike 6 = .ok (.iconst 0, 1) := by decide +kernel
theorem dL_isAlike_7 : decode cL_isAlike 7 = .ok (.istore_n 3, 1) := by decide +kernel
theorem dL_isAlike_8 : decode cL_isAlike 8 = .ok (.iload_n 3, 1) := by decide +kernel
theorem dL_isAlike_9 : decode cL_isAlike 9 = .ok (.bipush 9, 2) := by decide +kernel
theorem dL_isAlike_11 : decode cL_isAlike 11 = .ok (.if_icmp .ge 32, 3) := by decide +kernel
theorem dL_isAlike_14 : decode cL_isAlike 14 = .ok (.iload_n 2, 1) := by decide +kernel
theorem dL_isAlike_15 : decode cL_isAlike 15 = .ok (.ifCond .eq 20, 3) := by decide +kernel
theorem dL_isAlike_18 : decode cL_isAlike 18 = .ok (.aload_n 0, 1) := by decide +kernel
theorem dL_isAlike_19 : decode cL_isAlike 19 = .ok (.iload_n 3, 1) := by decide +kernel
theorem dL_isAlike_20 : decode cL_isAlike 20 = .ok (.invokevirtual 9, 3) := by decide +kernel
theorem dL_isAlike_23 : decode cL_isAlike 23 = .ok (.aload_n 1, 1) := by decide +kernel
theorem dL_isAlike_24 : decode cL_isAlike 24 = .ok (.iload_n 3, 1) := by decide +kernel
theorem dL_isAlike_25 : decode cL_isAlike 25 = .ok (.invokevirtual 9, 3) := by decide +kernel
theorem dL_isAlike_28 : decode cL_isAlike 28 = .ok (.if_icmp .ne 7, 3) := by decide +kernel
theorem dL_isAlike_31 : decode cL_isAlike 31 = .ok (.iconst 1, 1) := by decide +kernel
theorem dL_isAlike_32 : decode cL_isAlike 32 = .ok (.goto 4, 3) := by decide +kernel
theorem dL_isAlike_35 : decode cL_isAlike 35 = .ok (.iconst 0, 1) := by decide +kernel
theorem dL_isAlike_36 : decode cL_isAlike 36 = .ok (.istore_n 2, 1) := by decide +kernel
theorem dL_isAlike_37 : decode cL_isAlike 37 = .ok (.iinc 3 1, 3) := by decide +kernel
theorem dL_isAlike_40 : decode cL_isAlike 40 = .ok (.goto (-32), 3) := by decide +kernel
theorem dL_isAlike_43 : decode cL_isAlike 43 = .ok (.iload_n 2, 1) := by decide +kernel
theorem dL_isAlike_44 : decode cL_isAlike 44 = .ok (.ifCond .eq 24, 3) := by decide +kernel
theorem dL_isAlike_47 : decode cL_isAlike 47 = .ok (.iconst 3, 1) := by decide +kernel
theorem dL_isAlike_48 : decode cL_isAlike 48 = .ok (.aload_n 0, 1) := by decide +kernel
theorem dL_isAlike_49 : decode cL_isAlike 49 = .ok (.bipush 9, 2) := by decide +kernel
theorem dL_isAlike_51 : decode cL_isAlike 51 = .ok (.invokevirtual 9, 3) := by decide +kernel
theorem dL_isAlike_54 : decode cL_isAlike 54 = .ok (.imul, 1) := by decide +kernel
theorem dL_isAlike_55 : decode cL_isAlike 55 = .ok (.aload_n 1, 1) := by decide +kernel
theorem dL_isAlike_56 : decode cL_isAlike 56 = .ok (.bipush 9, 2) := by decide +kernel
theorem dL_isAlike_58 : decode cL_isAlike 58 = .ok (.invokevirtual 9, 3) := by decide +kernel
theorem dL_isAlike_61 : decode cL_isAlike 61 = .ok (.if_icmp .ne 7, 3) := by decide +kernel
theorem dL_isAlike_64 : decode cL_isAlike 64 = .ok (.iconst 1, 1) := by decide +kernel
theorem dL_isAlike_65 : decode cL_isAlike 65 = .ok (.goto 4, 3) := by decide +kernel
theorem dL_isAlike_68 : decode cL_isAlike 68 = .ok (.iconst 0, 1) := by decide +kernel
theorem dL_isAlike_69 : decode cL_isAlike 69 = .ok (.istore_n 2, 1) := by decide +kernel
theorem dL_isAlike_70 : decode cL_isAlike 70 = .ok (.iconst 0, 1) := by decide +kernel
theorem dL_isAlike_71 : decode cL_isAlike 71 = .ok (.istore_n 3, 1) := by decide +kernel
theorem dL_isAlike_72 : decode cL_isAlike 72 = .ok (.iload_n 3, 1) := by decide +kernel
theorem dL_isAlike_73 : decode cL_isAlike 73 = .ok (.aload_n 0, 1) := by decide +kernel
theorem dL_isAlike_74 : decode cL_isAlike 74 = .ok (.iconst 0, 1) := by decide +kernel
theorem dL_isAlike_75 : decode cL_isAlike 75 = .ok (.invokevirtual 9, 3) := by decide +kernel
theorem dL_isAlike_78 : decode cL_isAlike 78 = .ok (.if_icmp .ge 94, 3) := by decide +kernel
theorem dL_isAlike_81 : decode cL_isAlike 81 = .ok (.iconst 0, 1) := by decide +kernel
theorem dL_isAlike_82 : decode cL_isAlike 82 = .ok (.istore 4, 2) := by decide +kernel
theorem dL_isAlike_84 : decode cL_isAlike 84 = .ok (.iload 4, 2) := by decide +kernel
theorem dL_isAlike_86 : decode cL_isAlike 86 = .ok (.bipush 8, 2) := by decide +kernel
theorem dL_isAlike_88 : decode cL_isAlike 88 = .ok (.if_icmp .ge 36, 3) := by decide +kernel
theorem dL_isAlike_91 : decode cL_isAlike 91 = .ok (.iload_n 2, 1) := by decide +kernel
theorem dL_isAlike_92 : decode cL_isAlike 92 = .ok (.ifCond .eq 24, 3) := by decide +kernel
theorem dL_isAlike_95 : decode cL_isAlike 95 = .ok (.aload_n 0, 1) := by decide +kernel
theorem dL_isAlike_96 : decode cL_isAlike 96 = .ok (.iload_n 3, 1) := by decide +kernel
theorem dL_isAlike_97 : decode cL_isAlike 97 = .ok (.iload 4, 2) := by decide +kernel
theorem dL_isAlike_99 : decode cL_isAlike 99 = .ok (.invokevirtual 22, 3) := by decide +kernel
theorem dL_isAlike_102 : decode cL_isAlike 102 = .ok (.aload_n 1, 1) := by decide +kernel
theorem dL_isAlike_103 : decode cL_isAlike 103 = .ok (.iload_n 3, 1) := by decide +kernel
theorem dL_isAlike_104 : decode cL_isAlike 104 = .ok (.iload 4, 2) := by decide +kernel
theorem dL_isAlike_106 : decode cL_isAlike 106 = .ok (.invokevirtual 22, 3) := by decide +kernel
theorem dL_isAlike_109 : decode cL_isAlike 109 = .ok (.if_icmp .ne 7, 3) := by decide +kernel
theorem dL_isAlike_112 : decode cL_isAlike 112 = .ok (.iconst 1, 1) := by decide +kernel
theorem dL_isAlike_113 : decode cL_isAlike 113 = .ok (.goto 4, 3) := by decide +kernel
theorem dL_isAlike_116 : decode cL_isAlike 116 = .ok (.iconst 0, 1) := by decide +kernel
theorem dL_isAlike_117 : decode cL_isAlike 117 = .ok (.istore_n 2, 1) := by decide +kernel
theorem dL_isAlike_118 : decode cL_isAlike 118 = .ok (.iinc 4 1, 3) := by decide +kernel
theorem dL_isAlike_121 : decode cL_isAlike 121 = .ok (.goto (-37), 3) := by decide +kernel
theorem dL_isAlike_124 : decode cL_isAlike 124 = .ok (.iconst 0, 1) := by decide +kernel
theorem dL_isAlike_125 : decode cL_isAlike 125 = .ok (.istore 4, 2) := by decide +kernel
theorem dL_isAlike_127 : decode cL_isAlike 127 = .ok (.iload 4, 2) := by decide +kernel
theorem dL_isAlike_129 : decode cL_isAlike 129 = .ok (.iconst 2, 1) := by decide +kernel
theorem dL_isAlike_130 : decode cL_isAlike 130 = .ok (.if_icmp .ge 36, 3) := by decide +kernel
theorem dL_isAlike_133 : decode cL_isAlike 133 = .ok (.iload_n 2, 1) := by decide +kernel
theorem dL_isAlike_134 : decode cL_isAlike 134 = .ok (.ifCond .eq 24, 3) := by decide +kernel
theorem dL_isAlike_137 : decode cL_isAlike 137 = .ok (.aload_n 0, 1) := by decide +kernel
theorem dL_isAlike_138 : decode cL_isAlike 138 = .ok (.iload_n 3, 1) := by decide +kernel
theorem dL_isAlike_139 : decode cL_isAlike 139 = .ok (.iload 4, 2) := by decide +kernel
theorem dL_isAlike_141 : decode cL_isAlike 141 = .ok (.invokevirtual 39, 3) := by decide +kernel
theorem dL_isAlike_144 : decode cL_isAlike 144 = .ok (.aload_n 1, 1) := by decide +kernel
theorem dL_isAlike_145 : decode cL_isAlike 145 = .ok (.iload_n 3, 1) := by decide +kernel
theorem dL_isAlike_146 : decode cL_isAlike 146 = .ok (.iload 4, 2) := by decide +kernel
theorem dL_isAlike_148 : decode cL_isAlike 148 = .ok (.invokevirtual 39, 3) := by decide +kernel
theorem dL_isAlike_151 : decode cL_isAlike 151 = .ok (.if_icmp .ne 7, 3) := by decide +kernel
theorem dL_isAlike_154 : decode cL_isAlike 154 = .ok (.iconst 1, 1) := by decide +kernel
theorem dL_isAlike_155 : decode cL_isAlike 155 = .ok (.goto 4, 3) := by decide +kernel
theorem dL_isAlike_158 : decode cL_isAlike 158 = .ok (.iconst 0, 1) := by decide +kernel
theorem dL_isAlike_159 : decode cL_isAlike 159 = .ok (.istore_n 2, 1) := by decide +kernel
theorem dL_isAlike_160 : decode cL_isAlike 160 = .ok (.iinc 4 1, 3) := by decide +kernel
theorem dL_isAlike_163 : decode cL_isAlike 163 = .ok (.goto (-36), 3) := by decide +kernel
theorem dL_isAlike_166 : decode cL_isAlike 166 = .ok (.iinc 3 1, 3) := by decide +kernel
theorem dL_isAlike_169 : decode cL_isAlike 169 = .ok (.goto (-97), 3) := by decide +kernel
theorem dL_isAlike_172 : decode cL_isAlike 172 = .ok (.iconst 4, 1) := by decide +kernel
theorem dL_isAlike_173 : decode cL_isAlike 173 = .ok (.istore_n 3, 1) := by decide +kernel
theorem dL_isAlike_174 : decode cL_isAlike 174 = .ok (.iload_n 3, 1) := by decide +kernel
theorem dL_isAlike_175 : decode cL_isAlike 175 = .ok (.bipush 17, 2) := by decide +kernel
theorem dL_isAlike_177 : decode cL_isAlike 177 = .ok (.if_icmp .ge 49, 3) := by decide +kernel
theorem dL_isAlike_180 : decode cL_isAlike 180 = .ok (.aload_n 0, 1) := by decide +kernel
theorem dL_isAlike_181 : decode cL_isAlike 181 = .ok (.iload_n 3, 1) := by decide +kernel
theorem dL_isAlike_182 : decode cL_isAlike 182 = .ok (.invokevirtual 42, 3) := by decide +kernel
theorem dL_isAlike_185 : decode cL_isAlike 185 = .ok (.istore 4, 2) := by decide +kernel
theorem dL_isAlike_187 : decode cL_isAlike 187 = .ok (.iload_n 2, 1) := by decide +kernel
theorem dL_isAlike_188 : decode cL_isAlike 188 = .ok (.ifCond .eq 29, 3) := by decide +kernel
theorem dL_isAlike_191 : decode cL_isAlike 191 = .ok (.aload_n 1, 1) := by decide +kernel
theorem dL_isAlike_192 : decode cL_isAlike 192 = .ok (.iload_n 3, 1) := by decide +kernel
theorem dL_isAlike_193 : decode cL_isAlike 193 = .ok (.invokevirtual 42, 3) := by decide +kernel
theorem dL_isAlike_196 : decode cL_isAlike 196 = .ok (.iload 4, 2) := by decide +kernel
theorem dL_isAlike_198 : decode cL_isAlike 198 = .ok (.ifCond .ge 8, 3) := by decide +kernel
theorem dL_isAlike_201 : decode cL_isAlike 201 = .ok (.iload 4, 2) := by decide +kernel
theorem dL_isAlike_203 : decode cL_isAlike 203 = .ok (.goto 7, 3) := by decide +kernel
theorem dL_isAlike_206 : decode cL_isAlike 206 = .ok (.iconst 3, 1) := by decide +kernel
theorem dL_isAlike_207 : decode cL_isAlike 207 = .ok (.iload 4, 2) := by decide +kernel
theorem dL_isAlike_209 : decode cL_isAlike 209 = .ok (.imul, 1) := by decide +kernel
theorem dL_isAlike_210 : decode cL_isAlike 210 = .ok (.if_icmp .ne 7, 3) := by decide +kernel
theorem dL_isAlike_213 : decode cL_isAlike 213 = .ok (.iconst 1, 1) := by decide +kernel
theorem dL_isAlike_214 : decode cL_isAlike 214 = .ok (.goto 4, 3) := by decide +kernel
theorem dL_isAlike_217 : decode cL_isAlike 217 = .ok (.iconst 0, 1) := by decide +kernel
theorem dL_isAlike_218 : decode cL_isAlike 218 = .ok (.istore_n 2, 1) := by decide +kernel
theorem dL_isAlike_219 : decode cL_isAlike 219 = .ok (.iload_n 3, 1) := by decide +kernel
theorem dL_isAlike_220 : decode cL_isAlike 220 = .ok (.iconst 2, 1) := by decide +kernel
theorem dL_isAlike_221 : decode cL_isAlike 221 = .ok (.imul, 1) := by decide +kernel
theorem dL_isAlike_222 : decode cL_isAlike 222 = .ok (.istore_n 3, 1) := by decide +kernel
theorem dL_isAlike_223 : decode cL_isAlike 223 = .ok (.goto (-49), 3) := by decide +kernel
theorem dL_isAlike_226 : decode cL_isAlike 226 = .ok (.iload_n 2, 1) := by decide +kernel
theorem dL_isAlike_227 : decode cL_isAlike 227 = .ok (.ireturn, 1) := by decide +kernel
set_option maxRecDepth 20000 in
theorem ggL_isStep_X7_count : GoodIn wsL_isStep wsX7_count := goodIn_r _ [5, 6, 7, 8, 9, 10, 11, 12, 13, 14, 15, 16, 17, 18, 19, 20, 21, 22, 23, 24, 25, 26, 27, 28, 29, 30, 31, 32, 33, 34, 35, 36, 37, 38, 39, 40, 41, 42, 43, 44, 45, 46, 47, 48, 49, 50, 51, 52, 53, 54, 55, 56, 57, 58, 59, 60, 61, 62, 63, 64, 65, 66, 4, 67, 68, 69, 70, 71, 72, 73, 74, 75, 76, 77, 78, 79, 80, 81, 82, 83, 84, 85, 86, 87, 88, 89, 90, 91, 92, 93, 94, 95, 96, 97, 98, 99, 100, 101, 102, 103, 104, 105, 106, 107, 108, 109, 110, 111, 112, 113, 114, 115, 116, 117, 118, 119, 120, 121, 122, 123, 124, 125, 126, 127, 128, 129, 130, 131, 132, 133, 134, 135, 136, 137, 138, 139, 140, 141, 142, 143, 144, 145, 146, 147, 148, 149, 150, 151, 152, 153, 154, 155, 156, 157, 158, 159, 160, 161, 396, 397, 398, 399, 400, 401, 402, 403, 404, 405, 406, 407, 408, 409, 410, 411, 412, 413, 414, 415, 416, 417] (by decide +kernel) (by decide +kernel)
set_option maxRecDepth 20000 in
theorem gL_isStep_X7_count : GoodIn wsL_isStep (wsV RL 9 RX7 yX7_count wsX7_count) := goodIn_app (goodIn_of _ (by decide +kernel)) ggL_isStep_X7_count
set_option maxRecDepth 20000 in
theorem ggL_isStep_L_up : GoodIn wsL_isStep wsL_up := goodIn_r _ [165, 166] (by decide +kernel) (by decide +kernel)
set_option maxRecDepth 20000 in
theorem gL_isStep_L_up : GoodIn wsL_isStep (va_wsS RL 45 yL_up wsL_up) := goodIn_app (goodIn_of _ (by decide +kernel)) ggL_isStep_L_up
set_option maxRecDepth 20000 in
theorem ggL_isStep_X7_add : GoodIn wsL_isStep wsX7_add := goodIn_r _ [170, 7, 8, 171, 172, 4, 173, 174, 175, 176, 71, 31, 32, 21, 33, 23, 24, 25, 26, 27, 28, 29, 177, 178, 179, 153, 180, 155, 181, 182, 183, 184, 185, 186, 187, 51, 52, 53, 188, 189, 190, 191, 192, 193, 194, 195, 196, 76, 197, 198, 199, 200, 201, 202, 203, 204, 205, 396, 397, 398, 399, 400, 401, 402, 403, 404, 412, 413, 414, 415] (by decide +kernel) (by decide +kernel)
set_option maxRecDepth 20000 in
theorem gL_isStep_X7_add : GoodIn wsL_isStep (wsV RL 48 RX7 yX7_add wsX7_add) := goodIn_app (goodIn_of _ (by decide +kernel)) ggL_isStep_X7_add
set_option maxRecDepth 20000 in
theorem ggL_isStep_X7_remove : GoodIn wsL_isStep wsX7_remove := goodIn_r _ [209, 7, 8, 210, 211, 212, 21, 213, 76, 31, 32, 33, 23, 24, 25, 26, 27, 28, 29, 177, 178, 179, 153, 180, 155, 181, 182, 183, 184, 185, 186, 187, 51, 52, 53, 188, 189, 190, 191, 192, 214, 215, 216, 217, 218, 219, 220, 221, 117, 55, 56, 57, 77, 59, 60, 61, 112, 41, 42, 43, 222, 63, 64, 65, 223, 224, 225, 226, 197, 198, 199, 200, 201, 202, 203, 204, 205, 71, 396, 397, 398, 399, 400, 401, 402, 403, 404, 412, 413, 414, 415] (by decide +kernel) (by decide +kernel)
set_option maxRecDepth 20000 in
theorem gL_isStep_X7_remove : GoodIn wsL_isStep (wsV RL 19 RX7 yX7_remove wsX7_remove) := goodIn_app (goodIn_of _ (by decide +kernel)) ggL_isStep_X7_remove
set_option maxRecDepth 20000 in
theorem ggL_isStep_X7_lot : GoodIn wsL_isStep wsX7_lot := goodIn_r _ [230, 7, 6, 210, 211, 212, 21, 213, 76, 31, 32, 33, 23, 24, 25, 26, 27, 28, 29, 10, 11, 12, 13, 14, 15, 16, 17, 18, 19, 20, 22, 30, 34, 35, 36, 37, 38, 39, 40, 41, 42, 43, 44, 45, 46, 47, 48, 49, 50, 51, 52, 53, 54, 55, 56, 57, 58, 59, 60, 61, 62, 63, 64, 65, 66, 4, 67, 68, 69, 70, 82, 231, 232, 233, 234, 235, 236, 237, 91, 238, 88, 89, 90, 83, 84, 85, 86, 87, 92, 93, 94, 95, 96, 97, 98, 99, 100, 101, 102, 103, 104, 105, 106, 107, 396, 397, 398, 399, 400, 401, 402, 403, 404, 412, 413, 405, 406, 407, 408, 409, 410, 411] (by decide +kernel) (by decide +kernel)
set_option maxRecDepth 20000 in
theorem gL_isStep_X7_lot : GoodIn wsL_isStep (wsV RL 22 RX7 yX7_lot wsX7_lot) := goodIn_app (goodIn_of _ (by decide +kernel)) ggL_isStep_X7_lot
set_option maxRecDepth 20000 in
theorem ggL_isStep_X7_change : GoodIn wsL_isStep wsX7_change := goodIn_r _ [242, 7, 8, 243, 244, 245, 246, 210, 211, 212, 21, 213, 76, 31, 32, 33, 23, 24, 25, 26, 27, 28, 29, 171, 172, 4, 173, 174, 175, 176, 231, 55, 56, 57, 82, 59, 60, 61, 177, 178, 179, 153, 180, 155, 181, 182, 183, 184, 185, 186, 187, 51, 52, 53, 188, 189, 190, 191, 192, 233, 63, 64, 65, 232, 41, 42, 43, 247, 198, 199, 200, 201, 202, 203, 204, 205, 108, 109, 110, 111, 112, 113, 114, 115, 116, 117, 77, 396, 397, 398, 399, 400, 401, 402, 403, 404, 412, 413, 414, 415] (by decide +kernel) (by decide +kernel)
set_option maxRecDepth 20000 in
theorem gL_isStep_X7_change : GoodIn wsL_isStep (wsV RL 51 RX7 yX7_change wsX7_change) := goodIn_app (goodIn_of _ (by decide +kernel)) ggL_isStep_X7_change
set_option maxRecDepth 20000 in
theorem ggL_isStep_X7_move : GoodIn wsL_isStep wsX7_move := goodIn_r _ [251, 7, 8, 210, 211, 212, 21, 213, 76, 31, 32, 33, 23, 24, 25, 26, 27, 28, 29, 177, 178, 179, 153, 180, 155, 181, 182, 183, 184, 185, 186, 187, 51, 52, 53, 188, 189, 190, 191, 192, 252, 219, 220, 221, 117, 55, 56, 57, 77, 59, 60, 61, 112, 41, 42, 43, 222, 63, 64, 65, 223, 224, 225, 226, 197, 198, 199, 200, 201, 202, 203, 204, 205, 140, 141, 142, 4, 143, 6, 10, 11, 12, 13, 14, 15, 16, 17, 18, 19, 20, 22, 30, 34, 35, 36, 37, 38, 39, 40, 44, 45, 46, 47, 48, 49, 50, 54, 58, 62, 66, 67, 68, 69, 70, 118, 119, 120, 121, 144, 145, 146, 147, 148, 126, 127, 128, 129, 130, 131, 132, 133, 134, 135, 100, 101, 102, 103, 91, 149, 136, 137, 138, 139, 396, 397, 398, 399, 400, 401, 402, 403, 404, 412, 413, 414, 415, 405, 406, 407, 408, 409, 410, 411] (by decide +kernel) (by decide +kernel)
set_option maxRecDepth 20000 in
theorem gL_isStep_X7_move : GoodIn wsL_isStep (wsV RL 55 RX7 yX7_move wsX7_move) := goodIn_app (goodIn_of _ (by decide +kernel)) ggL_isStep_X7_move
set_option maxRecDepth 20000 in
theorem ggL_isStep_X7_ifChosen : GoodIn wsL_isStep wsX7_ifChosen := goodIn_r _ [256, 7, 257, 210, 211, 212, 21, 213, 76, 31, 32, 33, 23, 24, 25, 26, 27, 28, 29, 258, 259, 260, 261, 262, 263, 264, 265, 77, 59, 60, 61, 117, 55, 56, 57, 266, 267, 268, 269, 192, 183, 184, 185, 186, 187, 51, 52, 53, 270, 203, 204, 205, 201, 140, 141, 142, 4, 143, 6, 10, 11, 12, 13, 14, 15, 16, 17, 18, 19, 20, 22, 30, 34, 35, 36, 37, 38, 39, 40, 41, 42, 43, 44, 45, 46, 47, 48, 49, 50, 54, 58, 62, 63, 64, 65, 66, 67, 68, 69, 70, 118, 119, 120, 121, 144, 145, 146, 147, 148, 126, 127, 128, 129, 130, 131, 132, 133, 134, 135, 100, 101, 102, 103, 91, 149, 136, 137, 138, 139, 112, 396, 397, 398, 399, 400, 401, 402, 403, 404, 412, 413, 405, 406, 407, 408, 409, 410, 411] (by decide +kernel) (by decide +kernel)
set_option maxRecDepth 20000 in
theorem gL_isStep_X7_ifChosen : GoodIn wsL_isStep (wsV RL 58 RX7 yX7_ifChosen wsX7_ifChosen) := goodIn_app (goodIn_of _ (by decide +kernel)) ggL_isStep_X7_ifChosen
set_option maxRecDepth 20000 in
theorem ggL_isStep_X7_choose : GoodIn wsL_isStep wsX7_choose := goodIn_r _ [274, 7, 8, 210, 211, 212, 21, 213, 76, 31, 32, 33, 23, 24, 25, 26, 27, 28, 29, 258, 259, 260, 261, 262, 263, 264, 265, 77, 59, 60, 61, 117, 55, 56, 57, 232, 41, 42, 43, 233, 63, 64, 65, 177, 178, 179, 153, 180, 155, 181, 182, 183, 184, 185, 186, 187, 51, 52, 53, 188, 189, 190, 191, 192, 270, 203, 204, 205, 201, 140, 141, 142, 4, 143, 6, 10, 11, 12, 13, 14, 15, 16, 17, 18, 19, 20, 22, 30, 34, 35, 36, 37, 38, 39, 40, 44, 45, 46, 47, 48, 49, 50, 54, 58, 62, 66, 67, 68, 69, 70, 118, 119, 120, 121, 144, 145, 146, 147, 148, 126, 127, 128, 129, 130, 131, 132, 133, 134, 135, 100, 101, 102, 103, 91, 149, 136, 137, 138, 139, 112, 396, 397, 398, 399, 400, 401, 402, 403, 404, 412, 413, 414, 415, 405, 406, 407, 408, 409, 410, 411] (by decide +kernel) (by decide +kernel)
set_option maxRecDepth 20000 in
theorem gL_isStep_X7_choose : GoodIn wsL_isStep (wsV RL 62 RX7 yX7_choose wsX7_choose) := goodIn_app (goodIn_of _ (by decide +kernel)) ggL_isStep_X7_choose
set_option maxRecDepth 20000 in
theorem ggL_isStep_X7_set : GoodIn wsL_isStep wsX7_set := goodIn_r _ [278, 7, 8, 279, 280, 4, 281, 149, 19, 20, 21, 22, 23, 24, 25, 26, 27, 28, 29, 177, 178, 179, 153, 180, 155, 181, 182, 183, 184, 185, 186, 187, 51, 52, 53, 188, 189, 190, 191, 192, 282, 283, 284, 285, 201, 396, 397, 398, 399, 400, 401, 402, 403, 404, 412, 413, 414, 415] (by decide +kernel) (by decide +kernel)
set_option maxRecDepth 20000 in
theorem gL_isStep_X7_set : GoodIn wsL_isStep (wsV RL 65 RX7 yX7_set wsX7_set) := goodIn_app (goodIn_of _ (by decide +kernel)) ggL_isStep_X7_set
set_option maxRecDepth 20000 in
theorem ggL_isStep_X7_plan : GoodIn wsL_isStep wsX7_plan := goodIn_r _ [289, 290, 7, 8, 149, 19, 20, 21, 22, 23, 24, 25, 26, 27, 28, 29, 291, 292, 293, 294, 295, 296, 297, 298, 299, 267, 268, 269, 192, 183, 184, 185, 186, 187, 51, 52, 53, 300, 283, 284, 285, 201, 301, 302, 303, 304, 305, 306, 307, 31, 32, 33, 308, 309, 114, 115, 116, 117, 55, 56, 57, 77, 59, 60, 61, 310, 311, 312, 313, 314, 315, 316, 317, 318, 319, 320, 66, 4, 67, 68, 69, 70, 321, 145, 146, 147, 148, 322, 323, 324, 325, 326, 327, 328, 329, 330, 331, 244, 245, 246, 332, 263, 264, 265, 333, 334, 335, 336, 337, 338, 339, 340, 341, 342, 343, 344, 345, 346, 347, 348, 349, 350, 351, 352, 134, 135, 353, 354, 355, 356, 357, 358, 359, 360, 361, 362, 203, 204, 205, 363, 41, 42, 43, 364, 63, 64, 65, 365, 366, 367, 368, 369, 370, 371, 372, 76, 177, 178, 179, 153, 180, 155, 181, 182, 188, 189, 190, 191, 373, 374, 375, 376, 140, 141, 142, 143, 6, 10, 11, 12, 13, 14, 15, 16, 17, 18, 30, 34, 35, 36, 37, 38, 39, 40, 44, 45, 46, 47, 48, 49, 50, 54, 58, 62, 118, 119, 120, 121, 144, 126, 127, 128, 129, 130, 131, 132, 133, 100, 101, 102, 103, 91, 136, 137, 138, 139, 112, 396, 397, 398, 399, 400, 401, 402, 403, 404, 412, 413, 418, 419, 420, 421, 414, 415, 405, 406, 407, 408, 409, 410, 411] (by decide +kernel) (by decide +kernel)
set_option maxRecDepth 20000 in
theorem gL_isStep_X7_plan : GoodIn wsL_isStep (wsV RL 68 RX7 yX7_plan wsX7_plan) := goodIn_app (goodIn_of _ (by decide +kernel)) ggL_isStep_X7_plan
set_option maxRecDepth 20000 in
theorem ggL_isStep_X7_leastCost : GoodIn wsL_isStep wsX7_leastCost := goodIn_r _ [380, 290, 7, 279, 280, 4, 281, 291, 292, 293, 294, 295, 296, 297, 298, 299, 267, 268, 21, 269, 23, 192, 183, 184, 27, 185, 186, 25, 26, 28, 29, 187, 51, 52, 53, 300, 283, 284, 285, 201, 301, 302, 303, 304, 305, 306, 307, 31, 32, 33, 24, 308, 309, 114, 115, 116, 117, 55, 56, 57, 77, 59, 60, 61, 310, 311, 312, 313, 314, 315, 316, 317, 318, 319, 320, 66, 67, 68, 69, 70, 321, 145, 146, 147, 148, 19, 20, 22, 322, 323, 324, 325, 326, 327, 328, 329, 330, 331, 244, 245, 246, 332, 263, 264, 265, 333, 334, 335, 336, 337, 338, 339, 340, 341, 342, 343, 344, 345, 346, 347, 348, 349, 350, 351, 352, 134, 135, 353, 354, 355, 356, 357, 358, 359, 360, 361, 362, 203, 204, 205, 363, 41, 42, 43, 364, 63, 64, 65, 365, 366, 367, 368, 140, 141, 142, 143, 6, 10, 11, 12, 13, 14, 15, 16, 17, 18, 30, 34, 35, 36, 37, 38, 39, 40, 44, 45, 46, 47, 48, 49, 50, 54, 58, 62, 118, 119, 120, 121, 144, 126, 127, 128, 129, 130, 131, 132, 133, 100, 101, 102, 103, 91, 149, 136, 137, 138, 139, 76, 112, 396, 397, 398, 399, 400, 401, 402, 403, 404, 418, 419, 420, 421, 412, 413, 405, 406, 407, 408, 409, 410, 411] (by decide +kernel) (by decide +kernel)
set_option maxRecDepth 20000 in
theorem gL_isStep_X7_leastCost : GoodIn wsL_isStep (wsV RL 42 RX7 yX7_leastCost wsX7_leastCost) := goodIn_app (goodIn_of _ (by decide +kernel)) ggL_isStep_X7_leastCost
set_option maxRecDepth 20000 in
theorem ggL_isStep_X7_undo : GoodIn wsL_isStep wsX7_undo := goodIn_r _ [384, 8, 7, 150, 151, 152, 153, 154, 155, 385, 386, 387, 388, 181, 389, 390, 391, 21, 392, 23, 192, 183, 184, 27, 185, 186, 25, 26, 28, 29, 187, 51, 52, 53, 396, 397, 398, 399, 400, 401, 402, 403, 404, 414, 415, 412, 413] (by decide +kernel) (by decide +kernel)
set_option maxRecDepth 20000 in
theorem gL_isStep_X7_undo : GoodIn wsL_isStep (wsV RL 71 RX7 yX7_undo wsX7_undo) := goodIn_app (goodIn_of _ (by decide +kernel)) ggL_isStep_X7_undo
set_option maxRecDepth 20000 in
theorem ggL_isStep_L_areSettings : GoodIn wsL_isStep wsL_areSettings := goodIn_r _ [395, 1, 2, 3, 4, 5, 6, 7, 8, 9, 10, 11, 12, 13, 14, 15, 16, 17, 18, 19, 20, 21, 22, 23, 24, 25, 26, 27, 28, 29, 30, 31, 32, 33, 34, 35, 36, 37, 38, 39, 40, 41, 42, 43, 44, 45, 46, 47, 48, 49, 50, 51, 52, 53, 54, 55, 56, 57, 58, 59, 60, 61, 62, 63, 64, 65, 66, 67, 68, 69, 70, 71, 72, 73, 74, 75, 76, 77, 78, 79, 80, 81, 82, 83, 84, 85, 86, 87, 88, 89, 90, 91, 92, 93, 94, 95, 96, 97, 98, 99, 100, 101, 102, 103, 104, 105, 106, 107, 108, 109, 110, 111, 112, 113, 114, 115, 116, 117, 118, 119, 120, 121, 122, 123, 124, 125, 126, 127, 128, 129, 130, 131, 132, 133, 134, 135, 136, 137, 138, 139, 140, 141, 142, 143, 144, 145, 146, 147, 148, 149, 150, 151, 152, 153, 154, 155, 156, 157, 158, 159, 160, 161, 275, 276, 277, 278, 279, 280, 281, 177, 178, 179, 180, 181, 182, 183, 184, 185, 186, 187, 188, 189, 190, 191, 192, 282, 283, 284, 285, 201, 396, 397, 398, 399, 400, 401, 402, 403, 404, 405, 406, 407, 408, 409, 410, 411, 412, 413, 414, 415, 416, 417] (by decide +kernel) (by decide +kernel)
set_option maxRecDepth 20000 in
theorem gL_isStep_L_areSettings : GoodIn wsL_isStep (va_wsS RL 74 yL_areSettings wsL_areSettings) := goodIn_app (goodIn_of _ (by decide +kernel)) ggL_isStep_L_areSettings
theorem dL_isStep_0 : decode cL_isStep 0 = .ok (.iload_n 2, 1) := by decide +kernel
theorem dL_isStep_1 : decode cL_isStep 1 = .ok (.iconst 4, 1) := by decide +kernel
theorem dL_isStep_2 : decode cL_isStep 2 = .ok (.ishr, 1) := by decide +kernel
theorem dL_isStep_3 : decode cL_isStep 3 = .ok (.istore 4, 2) := by decide +kernel
theorem dL_isStep_5 : decode cL_isStep 5 = .ok (.aload_n 0, 1) := by decide +kernel
theorem dL_isStep_6 : decode cL_isStep 6 = .ok (.iconst 0, 1) := by decide +kernel
theorem dL_isStep_7 : decode cL_isStep 7 = .ok (.invokevirtual 9, 3) := by decide +kernel
theorem dL_isStep_10 : decode cL_isStep 10 = .ok (.istore 5, 2) := by decide +kernel
theorem dL_isStep_12 : decode cL_isStep 12 = .ok (.iload 4, 2) := by decide +kernel
theorem dL_isStep_14 : decode cL_isStep 14 = .ok (.iload 5, 2) := by decide +kernel
theorem dL_isStep_16 : decode cL_isStep 16 = .ok (.iconst 1, 1) := by decide +kernel
theorem dL_isStep_17 : decode cL_isStep 17 = .ok (.iadd, 1) := by decide +kernel
theorem dL_isStep_18 : decode cL_isStep 18 = .ok (.invokestatic 45, 3) := by decide +kernel
theorem dL_isStep_21 : decode cL_isStep 21 = .ok (.istore 6, 2) := by decide +kernel
theorem dL_isStep_23 : decode cL_isStep 23 = .ok (.aload_n 0, 1) := by decide +kernel
theorem dL_isStep_24 : decode cL_isStep 24 = .ok (.iconst 4, 1) := by decide +kernel
theorem dL_isStep_25 : decode cL_isStep 25 = .ok (.invokevirtual 9, 3) := by decide +kernel
theorem dL_isStep_28 : decode cL_isStep 28 = .ok (.istore 7, 2) := by decide +kernel
theorem dL_isStep_30 : decode cL_isStep 30 = .ok (.aload_n 0, 1) := by decide +kernel
theorem dL_isStep_31 : decode cL_isStep 31 = .ok (.bipush 8, 2) := by decide +kernel
theorem dL_isStep_33 : decode cL_isStep 33 = .ok (.invokevirtual 9, 3) := by decide +kernel
theorem dL_isStep_36 : decode cL_isStep 36 = .ok (.istore 8, 2) := by decide +kernel
theorem dL_isStep_38 : decode cL_isStep 38 = .ok (.iload_n 2, 1) := by decide +kernel
theorem dL_isStep_39 : decode cL_isStep 39 = .ok (.bipush 13, 2) := by decide +kernel
theorem dL_isStep_41 : decode cL_isStep 41 = .ok (.invokestatic 45, 3) := by decide +kernel
theorem dL_isStep_44 : decode cL_isStep 44 = .ok (.tableswitch 871 0 11 #[64, 64, 64, 145, 233, 372, 489, 489, 489, 649, 702, 781], 64) := by decide +kernel
theorem dL_isStep_108 : decode cL_isStep 108 = .ok (.iconst 1, 1) := by decide +kernel
theorem dL_isStep_109 : decode cL_isStep 109 = .ok (.iload_n 3, 1) := by decide +kernel
theorem dL_isStep_110 : decode cL_isStep 110 = .ok (.iconst 3, 1) := by decide +kernel
theorem dL_isStep_111 : decode cL_isStep 111 = .ok (.invokestatic 45, 3) := by decide +kernel
theorem dL_isStep_114 : decode cL_isStep 114 = .ok (.iadd, 1) := by decide +kernel
theorem dL_isStep_115 : decode cL_isStep 115 = .ok (.istore 9, 2) := by decide +kernel
theorem dL_isStep_117 : decode cL_isStep 117 = .ok (.iload_n 3, 1) := by decide +kernel
theorem dL_isStep_118 : decode cL_isStep 118 = .ok (.iconst 4, 1) := by decide +kernel
theorem dL_isStep_119 : decode cL_isStep 119 = .ok (.ishr, 1) := by decide +kernel
theorem dL_isStep_120 : decode cL_isStep 120 = .ok (.iconst 3, 1) := by decide +kernel
theorem dL_isStep_121 : decode cL_isStep 121 = .ok (.invokestatic 45, 3) := by decide +kernel
theorem dL_isStep_124 : decode cL_isStep 124 = .ok (.istore 10, 2) := by decide +kernel
theorem dL_isStep_126 : decode cL_isStep 126 = .ok (.iload 5, 2) := by decide +kernel
theorem dL_isStep_128 : decode cL_isStep 128 = .ok (.bipush 9, 2) := by decide +kernel
theorem dL_isStep_130 : decode cL_isStep 130 = .ok (.if_icmp .ne 5, 3) := by decide +kernel
theorem dL_isStep_133 : decode cL_isStep 133 = .ok (.iconst 1, 1) := by decide +kernel
theorem dL_isStep_134 : decode cL_isStep 134 = .ok (.ireturn, 1) := by decide +kernel
theorem dL_isStep_135 : decode cL_isStep 135 = .ok (.aload_n 0, 1) := by decide +kernel
theorem dL_isStep_136 : decode cL_isStep 136 = .ok (.iload 9, 2) := by decide +kernel
theorem dL_isStep_138 : decode cL_isStep 138 = .ok (.iload 10, 2) := by decide +kernel
theorem dL_isStep_140 : decode cL_isStep 140 = .ok (.invokevirtual 48, 3) := by decide +kernel
theorem dL_isStep_143 : decode cL_isStep 143 = .ok (.iload 5, 2) := by decide +kernel
theorem dL_isStep_145 : decode cL_isStep 145 = .ok (.if_icmp .ne 42, 3) := by decide +kernel
theorem dL_isStep_148 : decode cL_isStep 148 = .ok (.aload_n 0, 1) := by decide +kernel
theorem dL_isStep_149 : decode cL_isStep 149 = .ok (.iconst 4, 1) := by decide +kernel
theorem dL_isStep_150 : decode cL_isStep 150 = .ok (.invokevirtual 9, 3) := by decide +kernel
theorem dL_isStep_153 : decode cL_isStep 153 = .ok (.iload 7, 2) := by decide +kernel
theorem dL_isStep_155 : decode cL_isStep 155 = .ok (.iload 9, 2) := by decide +kernel
theorem dL_isStep_157 : decode cL_isStep 157 = .ok (.iadd, 1) := by decide +kernel
theorem dL_isStep_158 : decode cL_isStep 158 = .ok (.iload 10, 2) := by decide +kernel
theorem dL_isStep_160 : decode cL_isStep 160 = .ok (.ifCond .le 7, 3) := by decide +kernel
theorem dL_isStep_163 : decode cL_isStep 163 = .ok (.iconst 1, 1) := by decide +kernel
theorem dL_isStep_164 : decode cL_isStep 164 = .ok (.goto 4, 3) := by decide +kernel
theorem dL_isStep_167 : decode cL_isStep 167 = .ok (.iconst 0, 1) := by decide +kernel
theorem dL_isStep_168 : decode cL_isStep 168 = .ok (.iadd, 1) := by decide +kernel
theorem dL_isStep_169 : decode cL_isStep 169 = .ok (.if_icmp .ne 18, 3) := by decide +kernel
theorem dL_isStep_172 : decode cL_isStep 172 = .ok (.aload_n 0, 1) := by decide +kernel
theorem dL_isStep_173 : decode cL_isStep 173 = .ok (.bipush 8, 2) := by decide +kernel
theorem dL_isStep_175 : decode cL_isStep 175 = .ok (.invokevirtual 9, 3) := by decide +kernel
theorem dL_isStep_178 : decode cL_isStep 178 = .ok (.iload 8, 2) := by decide +kernel
theorem dL_isStep_180 : decode cL_isStep 180 = .ok (.if_icmp .ne 7, 3) := by decide +kernel
theorem dL_isStep_183 : decode cL_isStep 183 = .ok (.iconst 1, 1) := by decide +kernel
theorem dL_isStep_184 : decode cL_isStep 184 = .ok (.goto 4, 3) := by decide +kernel
theorem dL_isStep_187 : decode cL_isStep 187 = .ok (.iconst 0, 1) := by decide +kernel
theorem dL_isStep_188 : decode cL_isStep 188 = .ok (.ireturn, 1) := by decide +kernel
theorem dL_isStep_189 : decode cL_isStep 189 = .ok (.iload 6, 2) := by decide +kernel
theorem dL_isStep_191 : decode cL_isStep 191 = .ok (.iload 5, 2) := by decide +kernel
theorem dL_isStep_193 : decode cL_isStep 193 = .ok (.if_icmp .ne 19, 3) := by decide +kernel
theorem dL_isStep_196 : decode cL_isStep 196 = .ok (.aload_n 0, 1) := by decide +kernel
theorem dL_isStep_197 : decode cL_isStep 197 = .ok (.iload 6, 2) := by decide +kernel
theorem dL_isStep_199 : decode cL_isStep 199 = .ok (.invokevirtual 19, 3) := by decide +kernel
theorem dL_isStep_202 : decode cL_isStep 202 = .ok (.iconst (-1), 1) := by decide +kernel
theorem dL_isStep_203 : decode cL_isStep 203 = .ok (.if_icmp .ne 7, 3) := by decide +kernel
theorem dL_isStep_206 : decode cL_isStep 206 = .ok (.iconst 1, 1) := by decide +kernel
theorem dL_isStep_207 : decode cL_isStep 207 = .ok (.goto 4, 3) := by decide +kernel
theorem dL_isStep_210 : decode cL_isStep 210 = .ok (.iconst 0, 1) := by decide +kernel
theorem dL_isStep_211 : decode cL_isStep 211 = .ok (.ireturn, 1) := by decide +kernel
theorem dL_isStep_212 : decode cL_isStep 212 = .ok (.aload_n 0, 1) := by decide +kernel
theorem dL_isStep_213 : decode cL_isStep 213 = .ok (.iload 6, 2) := by decide +kernel
theorem dL_isStep_215 : decode cL_isStep 215 = .ok (.iconst 0, 1) := by decide +kernel
theorem dL_isStep_216 : decode cL_isStep 216 = .ok (.invokevirtual 22, 3) := by decide +kernel
theorem dL_isStep_219 : decode cL_isStep 219 = .ok (.aload_n 0, 1) := by decide +kernel
theorem dL_isStep_220 : decode cL_isStep 220 = .ok (.iload 6, 2) := by decide +kernel
theorem dL_isStep_222 : decode cL_isStep 222 = .ok (.iconst 2, 1) := by decide +kernel
theorem dL_isStep_223 : decode cL_isStep 223 = .ok (.invokevirtual 22, 3) := by decide +kernel
theorem dL_isStep_226 : decode cL_isStep 226 = .ok (.iadd, 1) := by decide +kernel
theorem dL_isStep_227 : decode cL_isStep 227 = .ok (.aload_n 0, 1) := by decide +kernel
theorem dL_isStep_228 : decode cL_isStep 228 = .ok (.iload 6, 2) := by decide +kernel
theorem dL_isStep_230 : decode cL_isStep 230 = .ok (.iconst 1, 1) := by decide +kernel
theorem dL_isStep_231 : decode cL_isStep 231 = .ok (.invokevirtual 22, 3) := by decide +kernel
theorem dL_isStep_234 : decode cL_isStep 234 = .ok (.ifCond .le 7, 3) := by decide +kernel
theorem dL_isStep_237 : decode cL_isStep 237 = .ok (.iconst 1, 1) := by decide +kernel
theorem dL_isStep_238 : decode cL_isStep 238 = .ok (.goto 4, 3) := by decide +kernel
theorem dL_isStep_241 : decode cL_isStep 241 = .ok (.iconst 0, 1) := by decide +kernel
theorem dL_isStep_242 : decode cL_isStep 242 = .ok (.iadd, 1) := by decide +kernel
theorem dL_isStep_243 : decode cL_isStep 243 = .ok (.istore 9, 2) := by decide +kernel
theorem dL_isStep_245 : decode cL_isStep 245 = .ok (.aload_n 0, 1) := by decide +kernel
theorem dL_isStep_246 : decode cL_isStep 246 = .ok (.iload 6, 2) := by decide +kernel
theorem dL_isStep_248 : decode cL_isStep 248 = .ok (.invokevirtual 19, 3) := by decide +kernel
theorem dL_isStep_251 : decode cL_isStep 251 = .ok (.iload 5, 2) := by decide +kernel
theorem dL_isStep_253 : decode cL_isStep 253 = .ok (.iconst 1, 1) := by decide +kernel
theorem dL_isStep_254 : decode cL_isStep 254 = .ok (.isub, 1) := by decide +kernel
theorem dL_isStep_255 : decode cL_isStep 255 = .ok (.if_icmp .ne 20, 3) := by decide +kernel
theorem dL_isStep_258 : decode cL_isStep 258 = .ok (.aload_n 0, 1) := by decide +kernel
theorem dL_isStep_259 : decode cL_isStep 259 = .ok (.iconst 4, 1) := by decide +kernel
theorem dL_isStep_260 : decode cL_isStep 260 = .ok (.invokevirtual 9, 3) := by decide +kernel
theorem dL_isStep_263 : decode cL_isStep 263 = .ok (.iload 7, 2) := by decide +kernel
theorem dL_isStep_265 : decode cL_isStep 265 = .ok (.iload 9, 2) := by decide +kernel
theorem dL_isStep_267 : decode cL_isStep 267 = .ok (.isub, 1) := by decide +kernel
theorem dL_isStep_268 : decode cL_isStep 268 = .ok (.if_icmp .ne 7, 3) := by decide +kernel
theorem dL_isStep_271 : decode cL_isStep 271 = .ok (.iconst 1, 1) := by decide +kernel
theorem dL_isStep_272 : decode cL_isStep 272 = .ok (.goto 4, 3) := by decide +kernel
theorem dL_isStep_275 : decode cL_isStep 275 = .ok (.iconst 0, 1) := by decide +kernel
theorem dL_isStep_276 : decode cL_isStep 276 = .ok (.ireturn, 1) := by decide +kernel
theorem dL_isStep_277 : decode cL_isStep 277 = .ok (.iconst 1, 1) := by decide +kernel
theorem dL_isStep_278 : decode cL_isStep 278 = .ok (.iload_n 3, 1) := by decide +kernel
theorem dL_isStep_279 : decode cL_isStep 279 = .ok (.iconst 3, 1) := by decide +kernel
theorem dL_isStep_280 : decode cL_isStep 280 = .ok (.invokestatic 45, 3) := by decide +kernel
theorem dL_isStep_283 : decode cL_isStep 283 = .ok (.iadd, 1) := by decide +kernel
theorem dL_isStep_284 : decode cL_isStep 284 = .ok (.istore 9, 2) := by decide +kernel
theorem dL_isStep_286 : decode cL_isStep 286 = .ok (.iload_n 3, 1) := by decide +kernel
theorem dL_isStep_287 : decode cL_isStep 287 = .ok (.iconst 4, 1) := by decide +kernel
theorem dL_isStep_288 : decode cL_isStep 288 = .ok (.ishr, 1) := by decide +kernel
theorem dL_isStep_289 : decode cL_isStep 289 = .ok (.iconst 3, 1) := by decide +kernel
theorem dL_isStep_290 : decode cL_isStep 290 = .ok (.invokestatic 45, 3) := by decide +kernel
theorem dL_isStep_293 : decode cL_isStep 293 = .ok (.istore 10, 2) := by decide +kernel
theorem dL_isStep_295 : decode cL_isStep 295 = .ok (.aload_n 0, 1) := by decide +kernel
theorem dL_isStep_296 : decode cL_isStep 296 = .ok (.iload 6, 2) := by decide +kernel
theorem dL_isStep_298 : decode cL_isStep 298 = .ok (.iload 9, 2) := by decide +kernel
theorem dL_isStep_300 : decode cL_isStep 300 = .ok (.iload 10, 2) := by decide +kernel
theorem dL_isStep_302 : decode cL_isStep 302 = .ok (.invokevirtual 51, 3) := by decide +kernel
theorem dL_isStep_305 : decode cL_isStep 305 = .ok (.istore 11, 2) := by decide +kernel
theorem dL_isStep_307 : decode cL_isStep 307 = .ok (.iload 6, 2) := by decide +kernel
theorem dL_isStep_309 : decode cL_isStep 309 = .ok (.iload 5, 2) := by decide +kernel
theorem dL_isStep_311 : decode cL_isStep 311 = .ok (.if_icmp .ne 17, 3) := by decide +kernel
theorem dL_isStep_314 : decode cL_isStep 314 = .ok (.iload 11, 2) := by decide +kernel
theorem dL_isStep_316 : decode cL_isStep 316 = .ok (.iconst (-1), 1) := by decide +kernel
theorem dL_isStep_317 : decode cL_isStep 317 = .ok (.if_icmp .ne 7, 3) := by decide +kernel
theorem dL_isStep_320 : decode cL_isStep 320 = .ok (.iconst 1, 1) := by decide +kernel
theorem dL_isStep_321 : decode cL_isStep 321 = .ok (.goto 94, 3) := by decide +kernel
theorem dL_isStep_324 : decode cL_isStep 324 = .ok (.iconst 0, 1) := by decide +kernel
theorem dL_isStep_325 : decode cL_isStep 325 = .ok (.goto 90, 3) := by decide +kernel
theorem dL_isStep_328 : decode cL_isStep 328 = .ok (.aload_n 0, 1) := by decide +kernel
theorem dL_isStep_329 : decode cL_isStep 329 = .ok (.iload 6, 2) := by decide +kernel
theorem dL_isStep_331 : decode cL_isStep 331 = .ok (.iconst 0, 1) := by decide +kernel
theorem dL_isStep_332 : decode cL_isStep 332 = .ok (.invokevirtual 22, 3) := by decide +kernel
theorem dL_isStep_335 : decode cL_isStep 335 = .ok (.iload 9, 2) := by decide +kernel
theorem dL_isStep_337 : decode cL_isStep 337 = .ok (.if_icmp .ne 77, 3) := by decide +kernel
theorem dL_isStep_340 : decode cL_isStep 340 = .ok (.aload_n 0, 1) := by decide +kernel
theorem dL_isStep_341 : decode cL_isStep 341 = .ok (.iload 6, 2) := by decide +kernel
theorem dL_isStep_343 : decode cL_isStep 343 = .ok (.iconst 1, 1) := by decide +kernel
theorem dL_isStep_344 : decode cL_isStep 344 = .ok (.invokevirtual 22, 3) := by decide +kernel
theorem dL_isStep_347 : decode cL_isStep 347 = .ok (.iload 10, 2) := by decide +kernel
theorem dL_isStep_349 : decode cL_isStep 349 = .ok (.if_icmp .ne 65, 3) := by decide +kernel
theorem dL_isStep_352 : decode cL_isStep 352 = .ok (.aload_n 0, 1) := by decide +kernel
theorem dL_isStep_353 : decode cL_isStep 353 = .ok (.bipush 8, 2) := by decide +kernel
theorem dL_isStep_355 : decode cL_isStep 355 = .ok (.invokevirtual 9, 3) := by decide +kernel
theorem dL_isStep_358 : decode cL_isStep 358 = .ok (.iload 8, 2) := by decide +kernel
theorem dL_isStep_360 : decode cL_isStep 360 = .ok (.if_icmp .ne 54, 3) := by decide +kernel
theorem dL_isStep_363 : decode cL_isStep 363 = .ok (.iload 11, 2) := by decide +kernel
theorem dL_isStep_365 : decode cL_isStep 365 = .ok (.bipush (-5), 2) := by decide +kernel
theorem dL_isStep_367 : decode cL_isStep 367 = .ok (.if_icmp .ne 16, 3) := by decide +kernel
theorem dL_isStep_370 : decode cL_isStep 370 = .ok (.aload_n 0, 1) := by decide +kernel
theorem dL_isStep_371 : decode cL_isStep 371 = .ok (.iconst 4, 1) := by decide +kernel
theorem dL_isStep_372 : decode cL_isStep 372 = .ok (.invokevirtual 9, 3) := by decide +kernel
theorem dL_isStep_375 : decode cL_isStep 375 = .ok (.iload 7, 2) := by decide +kernel
theorem dL_isStep_377 : decode cL_isStep 377 = .ok (.if_icmp .ne 37, 3) := by decide +kernel
theorem dL_isStep_380 : decode cL_isStep 380 = .ok (.goto 13, 3) := by decide +kernel
theorem dL_isStep_383 : decode cL_isStep 383 = .ok (.iload 11, 2) := by decide +kernel
theorem dL_isStep_385 : decode cL_isStep 385 = .ok (.aload_n 0, 1) := by decide +kernel
theorem dL_isStep_386 : decode cL_isStep 386 = .ok (.iconst 4, 1) := by decide +kernel
theorem dL_isStep_387 : decode cL_isStep 387 = .ok (.invokevirtual 9, 3) := by decide +kernel
theorem dL_isStep_390 : decode cL_isStep 390 = .ok (.if_icmp .ne 24, 3) := by decide +kernel
theorem dL_isStep_393 : decode cL_isStep 393 = .ok (.iload 10, 2) := by decide +kernel
theorem dL_isStep_395 : decode cL_isStep 395 = .ok (.ifCond .eq 15, 3) := by decide +kernel
theorem dL_isStep_398 : decode cL_isStep 398 = .ok (.aload_n 0, 1) := by decide +kernel
theorem dL_isStep_399 : decode cL_isStep 399 = .ok (.iload 6, 2) := by decide +kernel
theorem dL_isStep_401 : decode cL_isStep 401 = .ok (.iconst 3, 1) := by decide +kernel
theorem dL_isStep_402 : decode cL_isStep 402 = .ok (.invokevirtual 22, 3) := by decide +kernel
theorem dL_isStep_405 : decode cL_isStep 405 = .ok (.iload 9, 2) := by decide +kernel
theorem dL_isStep_407 : decode cL_isStep 407 = .ok (.if_icmp .gt 7, 3) := by decide +kernel
theorem dL_isStep_410 : decode cL_isStep 410 = .ok (.iconst 1, 1) := by decide +kernel
theorem dL_isStep_411 : decode cL_isStep 411 = .ok (.goto 4, 3) := by decide +kernel
theorem dL_isStep_414 : decode cL_isStep 414 = .ok (.iconst 0, 1) := by decide +kernel
theorem dL_isStep_415 : decode cL_isStep 415 = .ok (.ireturn, 1) := by decide +kernel
theorem dL_isStep_416 : decode cL_isStep 416 = .ok (.iload_n 3, 1) := by decide +kernel
theorem dL_isStep_417 : decode cL_isStep 417 = .ok (.iload 5, 2) := by decide +kernel
theorem dL_isStep_419 : decode cL_isStep 419 = .ok (.iconst 1, 1) := by decide +kernel
theorem dL_isStep_420 : decode cL_isStep 420 = .ok (.iadd, 1) := by decide +kernel
theorem dL_isStep_421 : decode cL_isStep 421 = .ok (.invokestatic 45, 3) := by decide +kernel
theorem dL_isStep_424 : decode cL_isStep 424 = .ok (.istore 9, 2) := by decide +kernel
theorem dL_isStep_426 : decode cL_isStep 426 = .ok (.aload_n 0, 1) := by decide +kernel
theorem dL_isStep_427 : decode cL_isStep 427 = .ok (.iload 6, 2) := by decide +kernel
theorem dL_isStep_429 : decode cL_isStep 429 = .ok (.iload 9, 2) := by decide +kernel
theorem dL_isStep_431 : decode cL_isStep 431 = .ok (.invokevirtual 55, 3) := by decide +kernel
theorem dL_isStep_434 : decode cL_isStep 434 = .ok (.istore 10, 2) := by decide +kernel
theorem dL_isStep_436 : decode cL_isStep 436 = .ok (.iload 6, 2) := by decide +kernel
theorem dL_isStep_438 : decode cL_isStep 438 = .ok (.iload 5, 2) := by decide +kernel
theorem dL_isStep_440 : decode cL_isStep 440 = .ok (.if_icmp .eq 10, 3) := by decide +kernel
theorem dL_isStep_443 : decode cL_isStep 443 = .ok (.iload 9, 2) := by decide +kernel
theorem dL_isStep_445 : decode cL_isStep 445 = .ok (.iload 5, 2) := by decide +kernel
theorem dL_isStep_447 : decode cL_isStep 447 = .ok (.if_icmp .ne 17, 3) := by decide +kernel
theorem dL_isStep_450 : decode cL_isStep 450 = .ok (.iload 10, 2) := by decide +kernel
theorem dL_isStep_452 : decode cL_isStep 452 = .ok (.iconst (-1), 1) := by decide +kernel
theorem dL_isStep_453 : decode cL_isStep 453 = .ok (.if_icmp .ne 7, 3) := by decide +kernel
theorem dL_isStep_456 : decode cL_isStep 456 = .ok (.iconst 1, 1) := by decide +kernel
theorem dL_isStep_457 : decode cL_isStep 457 = .ok (.goto 75, 3) := by decide +kernel
theorem dL_isStep_460 : decode cL_isStep 460 = .ok (.iconst 0, 1) := by decide +kernel
theorem dL_isStep_461 : decode cL_isStep 461 = .ok (.goto 71, 3) := by decide +kernel
theorem dL_isStep_464 : decode cL_isStep 464 = .ok (.iload 10, 2) := by decide +kernel
theorem dL_isStep_466 : decode cL_isStep 466 = .ok (.iload 6, 2) := by decide +kernel
theorem dL_isStep_468 : decode cL_isStep 468 = .ok (.iload 9, 2) := by decide +kernel
theorem dL_isStep_470 : decode cL_isStep 470 = .ok (.if_icmp .ne 8, 3) := by decide +kernel
theorem dL_isStep_473 : decode cL_isStep 473 = .ok (.bipush (-5), 2) := by decide +kernel
theorem dL_isStep_475 : decode cL_isStep 475 = .ok (.goto 9, 3) := by decide +kernel
theorem dL_isStep_478 : decode cL_isStep 478 = .ok (.aload_n 0, 1) := by decide +kernel
theorem dL_isStep_479 : decode cL_isStep 479 = .ok (.bipush 9, 2) := by decide +kernel
theorem dL_isStep_481 : decode cL_isStep 481 = .ok (.invokevirtual 9, 3) := by decide +kernel
theorem dL_isStep_484 : decode cL_isStep 484 = .ok (.if_icmp .ne 47, 3) := by decide +kernel
theorem dL_isStep_487 : decode cL_isStep 487 = .ok (.aload_n 0, 1) := by decide +kernel
theorem dL_isStep_488 : decode cL_isStep 488 = .ok (.iconst 4, 1) := by decide +kernel
theorem dL_isStep_489 : decode cL_isStep 489 = .ok (.invokevirtual 9, 3) := by decide +kernel
theorem dL_isStep_492 : decode cL_isStep 492 = .ok (.iload 7, 2) := by decide +kernel
theorem dL_isStep_494 : decode cL_isStep 494 = .ok (.if_icmp .ne 37, 3) := by decide +kernel
theorem dL_isStep_497 : decode cL_isStep 497 = .ok (.aload_n 0, 1) := by decide +kernel
theorem dL_isStep_498 : decode cL_isStep 498 = .ok (.bipush 8, 2) := by decide +kernel
theorem dL_isStep_500 : decode cL_isStep 500 = .ok (.invokevirtual 9, 3) := by decide +kernel
theorem dL_isStep_503 : decode cL_isStep 503 = .ok (.iload 8, 2) := by decide +kernel
theorem dL_isStep_505 : decode cL_isStep 505 = .ok (.if_icmp .ne 26, 3) := by decide +kernel
theorem dL_isStep_508 : decode cL_isStep 508 = .ok (.iload 6, 2) := by decide +kernel
theorem dL_isStep_510 : decode cL_isStep 510 = .ok (.iload 9, 2) := by decide +kernel
theorem dL_isStep_512 : decode cL_isStep 512 = .ok (.if_icmp .eq 15, 3) := by decide +kernel
theorem dL_isStep_515 : decode cL_isStep 515 = .ok (.aload_n 0, 1) := by decide +kernel
theorem dL_isStep_516 : decode cL_isStep 516 = .ok (.iload 9, 2) := by decide +kernel
theorem dL_isStep_518 : decode cL_isStep 518 = .ok (.iload 6, 2) := by decide +kernel
theorem dL_isStep_520 : decode cL_isStep 520 = .ok (.invokevirtual 55, 3) := by decide +kernel
theorem dL_isStep_523 : decode cL_isStep 523 = .ok (.iconst (-1), 1) := by decide +kernel
theorem dL_isStep_524 : decode cL_isStep 524 = .ok (.if_icmp .eq 7, 3) := by decide +kernel
theorem dL_isStep_527 : decode cL_isStep 527 = .ok (.iconst 1, 1) := by decide +kernel
theorem dL_isStep_528 : decode cL_isStep 528 = .ok (.goto 4, 3) := by decide +kernel
theorem dL_isStep_531 : decode cL_isStep 531 = .ok (.iconst 0, 1) := by decide +kernel
theorem dL_isStep_532 : decode cL_isStep 532 = .ok (.ireturn, 1) := by decide +kernel
theorem dL_isStep_533 : decode cL_isStep 533 = .ok (.iload_n 3, 1) := by decide +kernel
theorem dL_isStep_534 : decode cL_isStep 534 = .ok (.iconst 2, 1) := by decide +kernel
theorem dL_isStep_535 : decode cL_isStep 535 = .ok (.invokestatic 45, 3) := by decide +kernel
theorem dL_isStep_538 : decode cL_isStep 538 = .ok (.ifCond .ne 7, 3) := by decide +kernel
theorem dL_isStep_541 : decode cL_isStep 541 = .ok (.iconst 1, 1) := by decide +kernel
theorem dL_isStep_542 : decode cL_isStep 542 = .ok (.goto 4, 3) := by decide +kernel
theorem dL_isStep_545 : decode cL_isStep 545 = .ok (.iconst 0, 1) := by decide +kernel
theorem dL_isStep_546 : decode cL_isStep 546 = .ok (.istore 9, 2) := by decide +kernel
theorem dL_isStep_548 : decode cL_isStep 548 = .ok (.iload 6, 2) := by decide +kernel
theorem dL_isStep_550 : decode cL_isStep 550 = .ok (.iload 5, 2) := by decide +kernel
theorem dL_isStep_552 : decode cL_isStep 552 = .ok (.if_icmp .ge 23, 3) := by decide +kernel
theorem dL_isStep_555 : decode cL_isStep 555 = .ok (.aload_n 0, 1) := by decide +kernel
theorem dL_isStep_556 : decode cL_isStep 556 = .ok (.iload 6, 2) := by decide +kernel
theorem dL_isStep_558 : decode cL_isStep 558 = .ok (.iconst 1, 1) := by decide +kernel
theorem dL_isStep_559 : decode cL_isStep 559 = .ok (.invokevirtual 22, 3) := by decide +kernel
theorem dL_isStep_562 : decode cL_isStep 562 = .ok (.ifCond .le 13, 3) := by decide +kernel
theorem dL_isStep_565 : decode cL_isStep 565 = .ok (.aload_n 0, 1) := by decide +kernel
theorem dL_isStep_566 : decode cL_isStep 566 = .ok (.iload 6, 2) := by decide +kernel
theorem dL_isStep_568 : decode cL_isStep 568 = .ok (.iconst 0, 1) := by decide +kernel
theorem dL_isStep_569 : decode cL_isStep 569 = .ok (.invokevirtual 22, 3) := by decide +kernel
theorem dL_isStep_572 : decode cL_isStep 572 = .ok (.goto 4, 3) := by decide +kernel
theorem dL_isStep_575 : decode cL_isStep 575 = .ok (.iconst 0, 1) := by decide +kernel
theorem dL_isStep_576 : decode cL_isStep 576 = .ok (.istore 10, 2) := by decide +kernel
theorem dL_isStep_578 : decode cL_isStep 578 = .ok (.iload_n 3, 1) := by decide +kernel
theorem dL_isStep_579 : decode cL_isStep 579 = .ok (.iconst 3, 1) := by decide +kernel
theorem dL_isStep_580 : decode cL_isStep 580 = .ok (.ishr, 1) := by decide +kernel
theorem dL_isStep_581 : decode cL_isStep 581 = .ok (.iload 10, 2) := by decide +kernel
theorem dL_isStep_583 : decode cL_isStep 583 = .ok (.iconst 1, 1) := by decide +kernel
theorem dL_isStep_584 : decode cL_isStep 584 = .ok (.iadd, 1) := by decide +kernel
theorem dL_isStep_585 : decode cL_isStep 585 = .ok (.invokestatic 45, 3) := by decide +kernel
theorem dL_isStep_588 : decode cL_isStep 588 = .ok (.istore 11, 2) := by decide +kernel
theorem dL_isStep_590 : decode cL_isStep 590 = .ok (.aload_n 0, 1) := by decide +kernel
theorem dL_isStep_591 : decode cL_isStep 591 = .ok (.iload 6, 2) := by decide +kernel
theorem dL_isStep_593 : decode cL_isStep 593 = .ok (.iload 9, 2) := by decide +kernel
theorem dL_isStep_595 : decode cL_isStep 595 = .ok (.iload 11, 2) := by decide +kernel
theorem dL_isStep_597 : decode cL_isStep 597 = .ok (.invokevirtual 58, 3) := by decide +kernel
theorem dL_isStep_600 : decode cL_isStep 600 = .ok (.istore 12, 2) := by decide +kernel
theorem dL_isStep_602 : decode cL_isStep 602 = .ok (.aload_n 0, 1) := by decide +kernel
theorem dL_isStep_603 : decode cL_isStep 603 = .ok (.iload 6, 2) := by decide +kernel
theorem dL_isStep_605 : decode cL_isStep 605 = .ok (.iload 9, 2) := by decide +kernel
theorem dL_isStep_607 : decode cL_isStep 607 = .ok (.iload 11, 2) := by decide +kernel
theorem dL_isStep_609 : decode cL_isStep 609 = .ok (.invokevirtual 62, 3) := by decide +kernel
theorem dL_isStep_612 : decode cL_isStep 612 = .ok (.istore 13, 2) := by decide +kernel
theorem dL_isStep_614 : decode cL_isStep 614 = .ok (.iload 6, 2) := by decide +kernel
theorem dL_isStep_616 : decode cL_isStep 616 = .ok (.iload 5, 2) := by decide +kernel
theorem dL_isStep_618 : decode cL_isStep 618 = .ok (.if_icmp .ne 24, 3) := by decide +kernel
theorem dL_isStep_621 : decode cL_isStep 621 = .ok (.iload 13, 2) := by decide +kernel
theorem dL_isStep_623 : decode cL_isStep 623 = .ok (.iconst (-1), 1) := by decide +kernel
theorem dL_isStep_624 : decode cL_isStep 624 = .ok (.if_icmp .ne 14, 3) := by decide +kernel
theorem dL_isStep_627 : decode cL_isStep 627 = .ok (.iload 12, 2) := by decide +kernel
theorem dL_isStep_629 : decode cL_isStep 629 = .ok (.iload 13, 2) := by decide +kernel
theorem dL_isStep_631 : decode cL_isStep 631 = .ok (.if_icmp .ne 7, 3) := by decide +kernel
theorem dL_isStep_634 : decode cL_isStep 634 = .ok (.iconst 1, 1) := by decide +kernel
theorem dL_isStep_635 : decode cL_isStep 635 = .ok (.goto 57, 3) := by decide +kernel
theorem dL_isStep_638 : decode cL_isStep 638 = .ok (.iconst 0, 1) := by decide +kernel
theorem dL_isStep_639 : decode cL_isStep 639 = .ok (.goto 53, 3) := by decide +kernel
theorem dL_isStep_642 : decode cL_isStep 642 = .ok (.iload 13, 2) := by decide +kernel
theorem dL_isStep_644 : decode cL_isStep 644 = .ok (.bipush (-5), 2) := by decide +kernel
theorem dL_isStep_646 : decode cL_isStep 646 = .ok (.if_icmp .eq 10, 3) := by decide +kernel
theorem dL_isStep_649 : decode cL_isStep 649 = .ok (.iload 13, 2) := by decide +kernel
theorem dL_isStep_651 : decode cL_isStep 651 = .ok (.iload 12, 2) := by decide +kernel
theorem dL_isStep_653 : decode cL_isStep 653 = .ok (.if_icmp .ne 38, 3) := by decide +kernel
theorem dL_isStep_656 : decode cL_isStep 656 = .ok (.aload_n 0, 1) := by decide +kernel
theorem dL_isStep_657 : decode cL_isStep 657 = .ok (.bipush 9, 2) := by decide +kernel
theorem dL_isStep_659 : decode cL_isStep 659 = .ok (.invokevirtual 9, 3) := by decide +kernel
theorem dL_isStep_662 : decode cL_isStep 662 = .ok (.iload 12, 2) := by decide +kernel
theorem dL_isStep_664 : decode cL_isStep 664 = .ok (.if_icmp .ne 27, 3) := by decide +kernel
theorem dL_isStep_667 : decode cL_isStep 667 = .ok (.aload_n 0, 1) := by decide +kernel
theorem dL_isStep_668 : decode cL_isStep 668 = .ok (.iload 6, 2) := by decide +kernel
theorem dL_isStep_670 : decode cL_isStep 670 = .ok (.iconst 2, 1) := by decide +kernel
theorem dL_isStep_671 : decode cL_isStep 671 = .ok (.invokevirtual 22, 3) := by decide +kernel
theorem dL_isStep_674 : decode cL_isStep 674 = .ok (.iload 9, 2) := by decide +kernel
theorem dL_isStep_676 : decode cL_isStep 676 = .ok (.ifCond .eq 7, 3) := by decide +kernel
theorem dL_isStep_679 : decode cL_isStep 679 = .ok (.iconst 1, 1) := by decide +kernel
theorem dL_isStep_680 : decode cL_isStep 680 = .ok (.goto 4, 3) := by decide +kernel
theorem dL_isStep_683 : decode cL_isStep 683 = .ok (.iconst 0, 1) := by decide +kernel
theorem dL_isStep_684 : decode cL_isStep 684 = .ok (.if_icmp .ne 7, 3) := by decide +kernel
theorem dL_isStep_687 : decode cL_isStep 687 = .ok (.iconst 1, 1) := by decide +kernel
theorem dL_isStep_688 : decode cL_isStep 688 = .ok (.goto 4, 3) := by decide +kernel
theorem dL_isStep_691 : decode cL_isStep 691 = .ok (.iconst 0, 1) := by decide +kernel
theorem dL_isStep_692 : decode cL_isStep 692 = .ok (.ireturn, 1) := by decide +kernel
theorem dL_isStep_693 : decode cL_isStep 693 = .ok (.iconst 4, 1) := by decide +kernel
theorem dL_isStep_694 : decode cL_isStep 694 = .ok (.iload_n 3, 1) := by decide +kernel
theorem dL_isStep_695 : decode cL_isStep 695 = .ok (.iconst 3, 1) := by decide +kernel
theorem dL_isStep_696 : decode cL_isStep 696 = .ok (.invokestatic 45, 3) := by decide +kernel
theorem dL_isStep_699 : decode cL_isStep 699 = .ok (.ishl, 1) := by decide +kernel
theorem dL_isStep_700 : decode cL_isStep 700 = .ok (.istore 9, 2) := by decide +kernel
theorem dL_isStep_702 : decode cL_isStep 702 = .ok (.aload_n 0, 1) := by decide +kernel
theorem dL_isStep_703 : decode cL_isStep 703 = .ok (.iconst 0, 1) := by decide +kernel
theorem dL_isStep_704 : decode cL_isStep 704 = .ok (.iload 9, 2) := by decide +kernel
theorem dL_isStep_706 : decode cL_isStep 706 = .ok (.invokevirtual 65, 3) := by decide +kernel
theorem dL_isStep_709 : decode cL_isStep 709 = .ok (.aload_n 1, 1) := by decide +kernel
theorem dL_isStep_710 : decode cL_isStep 710 = .ok (.iconst 0, 1) := by decide +kernel
theorem dL_isStep_711 : decode cL_isStep 711 = .ok (.iload 9, 2) := by decide +kernel
theorem dL_isStep_713 : decode cL_isStep 713 = .ok (.invokevirtual 65, 3) := by decide +kernel
theorem dL_isStep_716 : decode cL_isStep 716 = .ok (.if_icmp .ne 28, 3) := by decide +kernel
theorem dL_isStep_719 : decode cL_isStep 719 = .ok (.aload_n 0, 1) := by decide +kernel
theorem dL_isStep_720 : decode cL_isStep 720 = .ok (.bipush 10, 2) := by decide +kernel
theorem dL_isStep_722 : decode cL_isStep 722 = .ok (.invokevirtual 9, 3) := by decide +kernel
theorem dL_isStep_725 : decode cL_isStep 725 = .ok (.iload 9, 2) := by decide +kernel
theorem dL_isStep_727 : decode cL_isStep 727 = .ok (.if_icmp .ne 17, 3) := by decide +kernel
theorem dL_isStep_730 : decode cL_isStep 730 = .ok (.aload_n 0, 1) := by decide +kernel
theorem dL_isStep_731 : decode cL_isStep 731 = .ok (.iconst 4, 1) := by decide +kernel
theorem dL_isStep_732 : decode cL_isStep 732 = .ok (.invokevirtual 9, 3) := by decide +kernel
theorem dL_isStep_735 : decode cL_isStep 735 = .ok (.iload 7, 2) := by decide +kernel
theorem dL_isStep_737 : decode cL_isStep 737 = .ok (.if_icmp .ne 7, 3) := by decide +kernel
theorem dL_isStep_740 : decode cL_isStep 740 = .ok (.iconst 1, 1) := by decide +kernel
theorem dL_isStep_741 : decode cL_isStep 741 = .ok (.goto 4, 3) := by decide +kernel
theorem dL_isStep_744 : decode cL_isStep 744 = .ok (.iconst 0, 1) := by decide +kernel
theorem dL_isStep_745 : decode cL_isStep 745 = .ok (.ireturn, 1) := by decide +kernel
theorem dL_isStep_746 : decode cL_isStep 746 = .ok (.iconst 1, 1) := by decide +kernel
theorem dL_isStep_747 : decode cL_isStep 747 = .ok (.iload 4, 2) := by decide +kernel
theorem dL_isStep_749 : decode cL_isStep 749 = .ok (.iconst 3, 1) := by decide +kernel
theorem dL_isStep_750 : decode cL_isStep 750 = .ok (.invokestatic 45, 3) := by decide +kernel
theorem dL_isStep_753 : decode cL_isStep 753 = .ok (.iadd, 1) := by decide +kernel
theorem dL_isStep_754 : decode cL_isStep 754 = .ok (.istore 9, 2) := by decide +kernel
theorem dL_isStep_756 : decode cL_isStep 756 = .ok (.iload_n 3, 1) := by decide +kernel
theorem dL_isStep_757 : decode cL_isStep 757 = .ok (.bipush 33, 2) := by decide +kernel
theorem dL_isStep_759 : decode cL_isStep 759 = .ok (.invokestatic 45, 3) := by decide +kernel
theorem dL_isStep_762 : decode cL_isStep 762 = .ok (.istore 10, 2) := by decide +kernel
theorem dL_isStep_764 : decode cL_isStep 764 = .ok (.aload_n 0, 1) := by decide +kernel
theorem dL_isStep_765 : decode cL_isStep 765 = .ok (.iload 9, 2) := by decide +kernel
theorem dL_isStep_767 : decode cL_isStep 767 = .ok (.iload 10, 2) := by decide +kernel
theorem dL_isStep_769 : decode cL_isStep 769 = .ok (.invokevirtual 65, 3) := by decide +kernel
theorem dL_isStep_772 : decode cL_isStep 772 = .ok (.bipush (-5), 2) := by decide +kernel
theorem dL_isStep_774 : decode cL_isStep 774 = .ok (.if_icmp .ne 7, 3) := by decide +kernel
theorem dL_isStep_777 : decode cL_isStep 777 = .ok (.iconst 1, 1) := by decide +kernel
theorem dL_isStep_778 : decode cL_isStep 778 = .ok (.goto 4, 3) := by decide +kernel
theorem dL_isStep_781 : decode cL_isStep 781 = .ok (.iconst 0, 1) := by decide +kernel
theorem dL_isStep_782 : decode cL_isStep 782 = .ok (.aload_n 1, 1) := by decide +kernel
theorem dL_isStep_783 : decode cL_isStep 783 = .ok (.iload 9, 2) := by decide +kernel
theorem dL_isStep_785 : decode cL_isStep 785 = .ok (.iconst 3, 1) := by decide +kernel
theorem dL_isStep_786 : decode cL_isStep 786 = .ok (.iload 10, 2) := by decide +kernel
theorem dL_isStep_788 : decode cL_isStep 788 = .ok (.imul, 1) := by decide +kernel
theorem dL_isStep_789 : decode cL_isStep 789 = .ok (.invokevirtual 65, 3) := by decide +kernel
theorem dL_isStep_792 : decode cL_isStep 792 = .ok (.bipush (-5), 2) := by decide +kernel
theorem dL_isStep_794 : decode cL_isStep 794 = .ok (.if_icmp .ne 7, 3) := by decide +kernel
theorem dL_isStep_797 : decode cL_isStep 797 = .ok (.iconst 1, 1) := by decide +kernel
theorem dL_isStep_798 : decode cL_isStep 798 = .ok (.goto 4, 3) := by decide +kernel
theorem dL_isStep_801 : decode cL_isStep 801 = .ok (.iconst 0, 1) := by decide +kernel
theorem dL_isStep_802 : decode cL_isStep 802 = .ok (.if_icmp .ne 21, 3) := by decide +kernel
theorem dL_isStep_805 : decode cL_isStep 805 = .ok (.aload_n 0, 1) := by decide +kernel
theorem dL_isStep_806 : decode cL_isStep 806 = .ok (.bipush 10, 2) := by decide +kernel
theorem dL_isStep_808 : decode cL_isStep 808 = .ok (.iload 9, 2) := by decide +kernel
theorem dL_isStep_810 : decode cL_isStep 810 = .ok (.iadd, 1) := by decide +kernel
theorem dL_isStep_811 : decode cL_isStep 811 = .ok (.invokevirtual 9, 3) := by decide +kernel
theorem dL_isStep_814 : decode cL_isStep 814 = .ok (.iload 10, 2) := by decide +kernel
theorem dL_isStep_816 : decode cL_isStep 816 = .ok (.if_icmp .ne 7, 3) := by decide +kernel
theorem dL_isStep_819 : decode cL_isStep 819 = .ok (.iconst 1, 1) := by decide +kernel
theorem dL_isStep_820 : decode cL_isStep 820 = .ok (.goto 4, 3) := by decide +kernel
theorem dL_isStep_823 : decode cL_isStep 823 = .ok (.iconst 0, 1) := by decide +kernel
theorem dL_isStep_824 : decode cL_isStep 824 = .ok (.ireturn, 1) := by decide +kernel
theorem dL_isStep_825 : decode cL_isStep 825 = .ok (.aload_n 0, 1) := by decide +kernel
theorem dL_isStep_826 : decode cL_isStep 826 = .ok (.invokevirtual 68, 3) := by decide +kernel
theorem dL_isStep_829 : decode cL_isStep 829 = .ok (.istore 9, 2) := by decide +kernel
theorem dL_isStep_831 : decode cL_isStep 831 = .ok (.iload 9, 2) := by decide +kernel
theorem dL_isStep_833 : decode cL_isStep 833 = .ok (.bipush (-4), 2) := by decide +kernel
theorem dL_isStep_835 : decode cL_isStep 835 = .ok (.if_icmp .ne 24, 3) := by decide +kernel
theorem dL_isStep_838 : decode cL_isStep 838 = .ok (.aload_n 0, 1) := by decide +kernel
theorem dL_isStep_839 : decode cL_isStep 839 = .ok (.iconst 3, 1) := by decide +kernel
theorem dL_isStep_840 : decode cL_isStep 840 = .ok (.invokevirtual 9, 3) := by decide +kernel
theorem dL_isStep_843 : decode cL_isStep 843 = .ok (.aload_n 0, 1) := by decide +kernel
theorem dL_isStep_844 : decode cL_isStep 844 = .ok (.iconst 1, 1) := by decide +kernel
theorem dL_isStep_845 : decode cL_isStep 845 = .ok (.invokevirtual 9, 3) := by decide +kernel
theorem dL_isStep_848 : decode cL_isStep 848 = .ok (.if_icmp .ge 7, 3) := by decide +kernel
theorem dL_isStep_851 : decode cL_isStep 851 = .ok (.iconst 1, 1) := by decide +kernel
theorem dL_isStep_852 : decode cL_isStep 852 = .ok (.goto 62, 3) := by decide +kernel
theorem dL_isStep_855 : decode cL_isStep 855 = .ok (.iconst 0, 1) := by decide +kernel
theorem dL_isStep_856 : decode cL_isStep 856 = .ok (.goto 58, 3) := by decide +kernel
theorem dL_isStep_859 : decode cL_isStep 859 = .ok (.aload_n 0, 1) := by decide +kernel
theorem dL_isStep_860 : decode cL_isStep 860 = .ok (.iconst 3, 1) := by decide +kernel
theorem dL_isStep_861 : decode cL_isStep 861 = .ok (.invokevirtual 9, 3) := by decide +kernel
theorem dL_isStep_864 : decode cL_isStep 864 = .ok (.aload_n 0, 1) := by decide +kernel
theorem dL_isStep_865 : decode cL_isStep 865 = .ok (.iconst 1, 1) := by decide +kernel
theorem dL_isStep_866 : decode cL_isStep 866 = .ok (.invokevirtual 9, 3) := by decide +kernel
theorem dL_isStep_869 : decode cL_isStep 869 = .ok (.if_icmp .ne 44, 3) := by decide +kernel
theorem dL_isStep_872 : decode cL_isStep 872 = .ok (.iload 9, 2) := by decide +kernel
theorem dL_isStep_874 : decode cL_isStep 874 = .ok (.bipush (-5), 2) := by decide +kernel
theorem dL_isStep_876 : decode cL_isStep 876 = .ok (.if_icmp .eq 14, 3) := by decide +kernel
theorem dL_isStep_879 : decode cL_isStep 879 = .ok (.iload 9, 2) := by decide +kernel
theorem dL_isStep_881 : decode cL_isStep 881 = .ok (.aload_n 0, 1) := by decide +kernel
theorem dL_isStep_882 : decode cL_isStep 882 = .ok (.bipush 9, 2) := by decide +kernel
theorem dL_isStep_884 : decode cL_isStep 884 = .ok (.invokevirtual 9, 3) := by decide +kernel
theorem dL_isStep_887 : decode cL_isStep 887 = .ok (.if_icmp .ne 26, 3) := by decide +kernel
theorem dL_isStep_890 : decode cL_isStep 890 = .ok (.aload_n 0, 1) := by decide +kernel
theorem dL_isStep_891 : decode cL_isStep 891 = .ok (.bipush 9, 2) := by decide +kernel
theorem dL_isStep_893 : decode cL_isStep 893 = .ok (.invokevirtual 9, 3) := by decide +kernel
theorem dL_isStep_896 : decode cL_isStep 896 = .ok (.aload_n 0, 1) := by decide +kernel
theorem dL_isStep_897 : decode cL_isStep 897 = .ok (.aload_n 0, 1) := by decide +kernel
theorem dL_isStep_898 : decode cL_isStep 898 = .ok (.bipush 10, 2) := by decide +kernel
theorem dL_isStep_900 : decode cL_isStep 900 = .ok (.invokevirtual 9, 3) := by decide +kernel
theorem dL_isStep_903 : decode cL_isStep 903 = .ok (.invokevirtual 42, 3) := by decide +kernel
theorem dL_isStep_906 : decode cL_isStep 906 = .ok (.if_icmp .ne 7, 3) := by decide +kernel
theorem dL_isStep_909 : decode cL_isStep 909 = .ok (.iconst 1, 1) := by decide +kernel
theorem dL_isStep_910 : decode cL_isStep 910 = .ok (.goto 4, 3) := by decide +kernel
theorem dL_isStep_913 : decode cL_isStep 913 = .ok (.iconst 0, 1) := by decide +kernel
theorem dL_isStep_914 : decode cL_isStep 914 = .ok (.ireturn, 1) := by decide +kernel
theorem dL_isStep_915 : decode cL_isStep 915 = .ok (.aload_n 0, 1) := by decide +kernel
theorem dL_isStep_916 : decode cL_isStep 916 = .ok (.bipush 15, 2) := by decide +kernel
theorem dL_isStep_918 : decode cL_isStep 918 = .ok (.invokevirtual 9, 3) := by decide +kernel
theorem dL_isStep_921 : decode cL_isStep 921 = .ok (.ifCond .eq 34, 3) := by decide +kernel
theorem dL_isStep_924 : decode cL_isStep 924 = .ok (.aload_n 0, 1) := by decide +kernel
theorem dL_isStep_925 : decode cL_isStep 925 = .ok (.invokevirtual 71, 3) := by decide +kernel
theorem dL_isStep_928 : decode cL_isStep 928 = .ok (.ifCond .lt 31, 3) := by decide +kernel
theorem dL_isStep_931 : decode cL_isStep 931 = .ok (.aload_n 0, 1) := by decide +kernel
theorem dL_isStep_932 : decode cL_isStep 932 = .ok (.iconst 0, 1) := by decide +kernel
theorem dL_isStep_933 : decode cL_isStep 933 = .ok (.aload_n 1, 1) := by decide +kernel
theorem dL_isStep_934 : decode cL_isStep 934 = .ok (.bipush 10, 2) := by decide +kernel
theorem dL_isStep_936 : decode cL_isStep 936 = .ok (.invokevirtual 9, 3) := by decide +kernel
theorem dL_isStep_939 : decode cL_isStep 939 = .ok (.invokevirtual 65, 3) := by decide +kernel
theorem dL_isStep_942 : decode cL_isStep 942 = .ok (.bipush (-2), 2) := by decide +kernel
theorem dL_isStep_944 : decode cL_isStep 944 = .ok (.if_icmp .eq 15, 3) := by decide +kernel
theorem dL_isStep_947 : decode cL_isStep 947 = .ok (.aload_n 0, 1) := by decide +kernel
theorem dL_isStep_948 : decode cL_isStep 948 = .ok (.aload_n 1, 1) := by decide +kernel
theorem dL_isStep_949 : decode cL_isStep 949 = .ok (.invokestatic 74, 3) := by decide +kernel
theorem dL_isStep_952 : decode cL_isStep 952 = .ok (.ifCond .eq 7, 3) := by decide +kernel
theorem dL_isStep_955 : decode cL_isStep 955 = .ok (.iconst 1, 1) := by decide +kernel
theorem dL_isStep_956 : decode cL_isStep 956 = .ok (.goto 4, 3) := by decide +kernel
theorem dL_isStep_959 : decode cL_isStep 959 = .ok (.iconst 0, 1) := by decide +kernel
theorem dL_isStep_960 : decode cL_isStep 960 = .ok (.ireturn, 1) := by decide +kernel
set_option maxRecDepth 20000 in
theorem ggL_areSettings_X7_count : GoodIn wsL_areSettings wsX7_count := goodIn_r _ [5, 6, 7, 8, 9, 10, 11, 12, 13, 14, 15, 16, 17, 18, 19, 20, 21, 22, 23, 24, 25, 26, 27, 28, 29, 30, 31, 32, 33, 34, 35, 36, 37, 38, 39, 40, 41, 42, 43, 44, 45, 46, 47, 48, 49, 50, 51, 52, 53, 54, 55, 56, 57, 58, 59, 60, 61, 62, 63, 64, 65, 66, 4, 67, 68, 69, 70, 71, 72, 73, 74, 75, 76, 77, 78, 79, 80, 81, 82, 83, 84, 85, 86, 87, 88, 89, 90, 91, 92, 93, 94, 95, 96, 97, 98, 99, 100, 101, 102, 103, 104, 105, 106, 107, 108, 109, 110, 111, 112, 113, 114, 115, 116, 117, 118, 119, 120, 121, 122, 123, 124, 125, 126, 127, 128, 129, 130, 131, 132, 133, 134, 135, 136, 137, 138, 139, 140, 141, 142, 143, 144, 145, 146, 147, 148, 149, 150, 151, 152, 153, 154, 155, 156, 157, 158, 159, 160, 161, 190, 191, 192, 193, 194, 195, 196, 197, 198, 199, 200, 201, 202, 203, 204, 205, 206, 207, 208, 209, 210, 211] (by decide +kernel) (by decide +kernel)
set_option maxRecDepth 20000 in
theorem gL_areSettings_X7_count : GoodIn wsL_areSettings (wsV RL 9 RX7 yX7_count wsX7_count) := goodIn_app (goodIn_of _ (by decide +kernel)) ggL_areSettings_X7_count
set_option maxRecDepth 20000 in
theorem ggL_areSettings_X7_set : GoodIn wsL_areSettings wsX7_set := goodIn_r _ [165, 7, 8, 166, 167, 4, 168, 149, 19, 20, 21, 22, 23, 24, 25, 26, 27, 28, 29, 169, 170, 171, 153, 172, 155, 173, 174, 175, 176, 177, 178, 179, 51, 52, 53, 180, 181, 182, 183, 184, 185, 186, 187, 188, 189, 190, 191, 192, 193, 194, 195, 196, 197, 198, 206, 207, 208, 209] (by decide +kernel) (by decide +kernel)
set_option maxRecDepth 20000 in
theorem gL_areSettings_X7_set : GoodIn wsL_areSettings (wsV RL 65 RX7 yX7_set wsX7_set) := goodIn_app (goodIn_of _ (by decide +kernel)) ggL_areSettings_X7_set
theorem dL_areSettings_0 : decode cL_areSettings 0 = .ok (.iconst 1, 1) := by decide +kernel
theorem dL_areSettings_1 : decode cL_areSettings 1 = .ok (.istore_n 2, 1) := by decide +kernel
theorem dL_areSettings_2 : decode cL_areSettings 2 = .ok (.iconst 1, 1) := by decide +kernel
theorem dL_areSettings_3 : decode cL_areSettings 3 = .ok (.istore_n 3, 1) := by decide +kernel
theorem dL_areSettings_4 : decode cL_areSettings 4 = .ok (.iload_n 3, 1) := by decide +kernel
theorem dL_areSettings_5 : decode cL_areSettings 5 = .ok (.iconst 5, 1) := by decide +kernel
theorem dL_areSettings_6 : decode cL_areSettings 6 = .ok (.if_icmp .ge 39, 3) := by decide +kernel
theorem dL_areSettings_9 : decode cL_areSettings 9 = .ok (.iload_n 2, 1) := by decide +kernel
theorem dL_areSettings_10 : decode cL_areSettings 10 = .ok (.ifCond .eq 27, 3) := by decide +kernel
theorem dL_areSettings_13 : decode cL_areSettings 13 = .ok (.aload_n 0, 1) := by decide +kernel
theorem dL_areSettings_14 : decode cL_areSettings 14 = .ok (.iload_n 3, 1) := by decide +kernel
theorem dL_areSettings_15 : decode cL_areSettings 15 = .ok (.aload_n 1, 1) := by decide +kernel
theorem dL_areSettings_16 : decode cL_areSettings 16 = .ok (.bipush 10, 2) := by decide +kernel
theorem dL_areSettings_18 : decode cL_areSettings 18 = .ok (.iload_n 3, 1) := by decide +kernel
theorem dL_areSettings_19 : decode cL_areSettings 19 = .ok (.iadd, 1) := by decide +kernel
theorem dL_areSettings_20 : decode cL_areSettings 20 = .ok (.invokevirtual 9, 3) := by decide +kernel
theorem dL_areSettings_23 : decode cL_areSettings 23 = .ok (.iconst 3, 1) := by decide +kernel
theorem dL_areSettings_24 : decode cL_areSettings 24 = .ok (.idiv, 1) := by decide +kernel
theorem dL_areSettings_25 : decode cL_areSettings 25 = .ok (.invokevirtual 65, 3) := by decide +kernel
theorem dL_areSettings_28 : decode cL_areSettings 28 = .ok (.bipush (-2), 2) := by decide +kernel
theorem dL_areSettings_30 : decode cL_areSettings 30 = .ok (.if_icmp .eq 7, 3) := by decide +kernel
theorem dL_areSettings_33 : decode cL_areSettings 33 = .ok (.iconst 1, 1) := by decide +kernel
theorem dL_areSettings_34 : decode cL_areSettings 34 = .ok (.goto 4, 3) := by decide +kernel
theorem dL_areSettings_37 : decode cL_areSettings 37 = .ok (.iconst 0, 1) := by decide +kernel
theorem dL_areSettings_38 : decode cL_areSettings 38 = .ok (.istore_n 2, 1) := by decide +kernel
theorem dL_areSettings_39 : decode cL_areSettings 39 = .ok (.iinc 3 1, 3) := by decide +kernel
theorem dL_areSettings_42 : decode cL_areSettings 42 = .ok (.goto (-38), 3) := by decide +kernel
theorem dL_areSettings_45 : decode cL_areSettings 45 = .ok (.iload_n 2, 1) := by decide +kernel
theorem dL_areSettings_46 : decode cL_areSettings 46 = .ok (.ireturn, 1) := by decide +kernel
set_option maxRecDepth 20000 in
theorem ggL_isWell_X7_count : GoodIn wsL_isWell wsX7_count := goodIn_r _ [5, 6, 7, 8, 9, 10, 11, 12, 13, 14, 15, 16, 17, 18, 19, 20, 21, 22, 23, 24, 25, 26, 27, 28, 29, 30, 31, 32, 33, 34, 35, 36, 37, 38, 39, 40, 41, 42, 43, 44, 45, 46, 47, 48, 49, 50, 51, 52, 53, 54, 55, 56, 57, 58, 59, 60, 61, 62, 63, 64, 65, 66, 4, 67, 68, 69, 70, 71, 72, 73, 74, 75, 76, 77, 78, 79, 80, 81, 82, 83, 84, 85, 86, 87, 88, 89, 90, 91, 92, 93, 94, 95, 96, 97, 98, 99, 100, 101, 102, 103, 104, 105, 106, 107, 108, 109, 110, 111, 112, 113, 114, 115, 116, 117, 118, 119, 120, 121, 122, 123, 124, 125, 126, 127, 128, 129, 130, 131, 132, 133, 134, 135, 136, 137, 138, 139, 140, 141, 142, 143, 144, 145, 146, 147, 148, 149, 150, 151, 152, 153, 154, 155, 156, 157, 158, 159, 160, 161, 323, 324, 325, 326, 327, 328, 329, 330, 331, 332, 333, 334, 335, 336, 337, 338, 339, 340, 341, 342, 343, 344] (by decide +kernel) (by decide +kernel)
set_option maxRecDepth 20000 in
theorem gL_isWell_X7_count : GoodIn wsL_isWell (wsV RL 9 RX7 yX7_count wsX7_count) := goodIn_app (goodIn_of _ (by decide +kernel)) ggL_isWell_X7_count
set_option maxRecDepth 20000 in
theorem ggL_isWell_X7_page : GoodIn wsL_isWell wsX7_page := goodIn_r _ [165, 6, 7, 10, 11, 12, 13, 14, 15, 16, 17, 18, 19, 20, 21, 22, 23, 24, 25, 26, 27, 28, 29, 30, 31, 32, 33, 34, 35, 36, 37, 38, 39, 40, 41, 42, 43, 44, 45, 46, 47, 48, 49, 50, 51, 52, 53, 54, 55, 56, 57, 58, 59, 60, 61, 62, 63, 64, 65, 66, 4, 67, 68, 69, 70, 166, 167, 168, 169, 170, 105, 106, 107, 91, 171, 101, 102, 103, 172, 173, 174, 175, 176, 134, 135, 177, 93, 94, 95, 323, 324, 325, 326, 327, 328, 329, 330, 331, 332, 333, 334, 335, 336, 337, 338, 339, 340] (by decide +kernel) (by decide +kernel)
set_option maxRecDepth 20000 in
theorem gL_isWell_X7_page : GoodIn wsL_isWell (wsV RL 77 RX7 yX7_page wsX7_page) := goodIn_app (goodIn_of _ (by decide +kernel)) ggL_isWell_X7_page
set_option maxRecDepth 20000 in
theorem ggL_isWell_X7_lot : GoodIn wsL_isWell wsX7_lot := goodIn_r _ [181, 7, 6, 182, 183, 184, 21, 185, 76, 31, 32, 33, 23, 24, 25, 26, 27, 28, 29, 10, 11, 12, 13, 14, 15, 16, 17, 18, 19, 20, 22, 30, 34, 35, 36, 37, 38, 39, 40, 41, 42, 43, 44, 45, 46, 47, 48, 49, 50, 51, 52, 53, 54, 55, 56, 57, 58, 59, 60, 61, 62, 63, 64, 65, 66, 4, 67, 68, 69, 70, 82, 186, 187, 188, 189, 190, 191, 192, 91, 193, 88, 89, 90, 83, 84, 85, 86, 87, 92, 93, 94, 95, 96, 97, 98, 99, 100, 101, 102, 103, 104, 105, 106, 107, 323, 324, 325, 326, 327, 328, 329, 330, 331, 339, 340, 332, 333, 334, 335, 336, 337, 338] (by decide +kernel) (by decide +kernel)
set_option maxRecDepth 20000 in
theorem gL_isWell_X7_lot : GoodIn wsL_isWell (wsV RL 22 RX7 yX7_lot wsX7_lot) := goodIn_app (goodIn_of _ (by decide +kernel)) ggL_isWell_X7_lot
