theorem dX3_weighEnds_41 : decode cX3_weighEnds 41 = .ok (.invokevirtual 89, 3) := by decide +kernel
theorem dX3_weighEnds_44 : decode cX3_weighEnds 44 = .ok (.imul, 1) := by decide +kernel
theorem dX3_weighEnds_45 : decode cX3_weighEnds 45 = .ok (.invokevirtual 92, 3) := by decide +kernel
theorem dX3_weighEnds_48 : decode cX3_weighEnds 48 = .ok (.iinc 2 1, 3) := by decide +kernel
theorem dX3_weighEnds_51 : decode cX3_weighEnds 51 = .ok (.goto (-41), 3) := by decide +kernel
theorem dX3_weighEnds_54 : decode cX3_weighEnds 54 = .ok (.return_, 1) := by decide +kernel
set_option maxRecDepth 20000 in
theorem ggX3_weigh_X0_mostPlace : GoodIn wsX3_weigh wsX0_mostPlace := goodIn_r _ [11, 12, 13, 14, 10, 15, 16, 17, 18, 19, 20, 21, 22, 23, 24, 25, 26, 84, 85] (by decide +kernel) (by decide +kernel)
set_option maxRecDepth 20000 in
theorem gX3_weigh_X0_mostPlace : GoodIn wsX3_weigh (wsV RX3 96 RX0 yX0_mostPlace wsX0_mostPlace) := goodIn_app (goodIn_of _ (by decide +kernel)) ggX3_weigh_X0_mostPlace
set_option maxRecDepth 20000 in
theorem ggX3_weigh_X3_costThrough : GoodIn wsX3_weigh wsX3_costThrough := goodIn_r _ [31, 2, 1, 3, 4, 5, 6, 32, 33, 34, 30, 35, 36, 37, 18, 19, 20, 21, 22, 38, 39, 40, 41, 13, 14, 10, 15, 16, 17, 42, 24, 25, 26, 43, 44, 45, 46, 47, 48, 49, 50, 51, 52, 53, 54, 55, 56, 57, 58, 59, 60, 61, 62, 63, 64, 65, 66, 67, 68, 69, 70, 71, 80, 81, 82, 83, 85, 84] (by decide +kernel) (by decide +kernel)
set_option maxRecDepth 20000 in
theorem gX3_weigh_X3_costThrough : GoodIn wsX3_weigh (wsV RX3 99 RX3 yX3_costThrough wsX3_costThrough) := goodIn_app (goodIn_of _ (by decide +kernel)) ggX3_weigh_X3_costThrough
set_option maxRecDepth 20000 in
theorem ggX3_weigh_X3_putLeast : GoodIn wsX3_weigh wsX3_putLeast := goodIn_r _ [75, 67, 76, 77, 78, 20, 79, 22, 80, 81, 82, 83, 85] (by decide +kernel) (by decide +kernel)
set_option maxRecDepth 20000 in
theorem gX3_weigh_X3_putLeast : GoodIn wsX3_weigh (wsV RX3 92 RX3 yX3_putLeast wsX3_putLeast) := goodIn_app (goodIn_of _ (by decide +kernel)) ggX3_weigh_X3_putLeast
theorem dX3_weigh_0 : decode cX3_weigh 0 = .ok (.iconst 0, 1) := by decide +kernel
theorem dX3_weigh_1 : decode cX3_weigh 1 = .ok (.istore_n 2, 1) := by decide +kernel
theorem dX3_weigh_2 : decode cX3_weigh 2 = .ok (.iload_n 2, 1) := by decide +kernel
theorem dX3_weigh_3 : decode cX3_weigh 3 = .ok (.iload_n 1, 1) := by decide +kernel
theorem dX3_weigh_4 : decode cX3_weigh 4 = .ok (.iconst 1, 1) := by decide +kernel
theorem dX3_weigh_5 : decode cX3_weigh 5 = .ok (.iadd, 1) := by decide +kernel
theorem dX3_weigh_6 : decode cX3_weigh 6 = .ok (.iconst 4, 1) := by decide +kernel
theorem dX3_weigh_7 : decode cX3_weigh 7 = .ok (.imul, 1) := by decide +kernel
theorem dX3_weigh_8 : decode cX3_weigh 8 = .ok (.if_icmp .ge 71, 3) := by decide +kernel
theorem dX3_weigh_11 : decode cX3_weigh 11 = .ok (.ldc 59, 2) := by decide +kernel
theorem dX3_weigh_13 : decode cX3_weigh 13 = .ok (.istore_n 3, 1) := by decide +kernel
theorem dX3_weigh_14 : decode cX3_weigh 14 = .ok (.iconst 0, 1) := by decide +kernel
theorem dX3_weigh_15 : decode cX3_weigh 15 = .ok (.istore 4, 2) := by decide +kernel
theorem dX3_weigh_17 : decode cX3_weigh 17 = .ok (.iload 4, 2) := by decide +kernel
theorem dX3_weigh_19 : decode cX3_weigh 19 = .ok (.iconst 1, 1) := by decide +kernel
theorem dX3_weigh_20 : decode cX3_weigh 20 = .ok (.if_icmp .gt 46, 3) := by decide +kernel
theorem dX3_weigh_23 : decode cX3_weigh 23 = .ok (.iconst 0, 1) := by decide +kernel
theorem dX3_weigh_24 : decode cX3_weigh 24 = .ok (.istore 5, 2) := by decide +kernel
theorem dX3_weigh_26 : decode cX3_weigh 26 = .ok (.iload 5, 2) := by decide +kernel
theorem dX3_weigh_28 : decode cX3_weigh 28 = .ok (.aload_n 0, 1) := by decide +kernel
theorem dX3_weigh_29 : decode cX3_weigh 29 = .ok (.getfield 14, 3) := by decide +kernel
theorem dX3_weigh_32 : decode cX3_weigh 32 = .ok (.iload_n 1, 1) := by decide +kernel
theorem dX3_weigh_33 : decode cX3_weigh 33 = .ok (.invokevirtual 96, 3) := by decide +kernel
theorem dX3_weigh_36 : decode cX3_weigh 36 = .ok (.if_icmp .gt 24, 3) := by decide +kernel
theorem dX3_weigh_39 : decode cX3_weigh 39 = .ok (.iload_n 3, 1) := by decide +kernel
theorem dX3_weigh_40 : decode cX3_weigh 40 = .ok (.aload_n 0, 1) := by decide +kernel
theorem dX3_weigh_41 : decode cX3_weigh 41 = .ok (.iload_n 1, 1) := by decide +kernel
theorem dX3_weigh_42 : decode cX3_weigh 42 = .ok (.iload_n 2, 1) := by decide +kernel
theorem dX3_weigh_43 : decode cX3_weigh 43 = .ok (.iload 4, 2) := by decide +kernel
theorem dX3_weigh_45 : decode cX3_weigh 45 = .ok (.iload 5, 2) := by decide +kernel
theorem dX3_weigh_47 : decode cX3_weigh 47 = .ok (.invokevirtual 99, 3) := by decide +kernel
theorem dX3_weigh_50 : decode cX3_weigh 50 = .ok (.invokestatic 102, 3) := by decide +kernel
theorem dX3_weigh_53 : decode cX3_weigh 53 = .ok (.istore_n 3, 1) := by decide +kernel
theorem dX3_weigh_54 : decode cX3_weigh 54 = .ok (.iinc 5 1, 3) := by decide +kernel
theorem dX3_weigh_57 : decode cX3_weigh 57 = .ok (.goto (-31), 3) := by decide +kernel
theorem dX3_weigh_60 : decode cX3_weigh 60 = .ok (.iinc 4 1, 3) := by decide +kernel
theorem dX3_weigh_63 : decode cX3_weigh 63 = .ok (.goto (-46), 3) := by decide +kernel
theorem dX3_weigh_66 : decode cX3_weigh 66 = .ok (.aload_n 0, 1) := by decide +kernel
theorem dX3_weigh_67 : decode cX3_weigh 67 = .ok (.iload_n 1, 1) := by decide +kernel
theorem dX3_weigh_68 : decode cX3_weigh 68 = .ok (.iload_n 2, 1) := by decide +kernel
theorem dX3_weigh_69 : decode cX3_weigh 69 = .ok (.iload_n 3, 1) := by decide +kernel
theorem dX3_weigh_70 : decode cX3_weigh 70 = .ok (.invokevirtual 92, 3) := by decide +kernel
theorem dX3_weigh_73 : decode cX3_weigh 73 = .ok (.iinc 2 1, 3) := by decide +kernel
theorem dX3_weigh_76 : decode cX3_weigh 76 = .ok (.goto (-74), 3) := by decide +kernel
theorem dX3_weigh_79 : decode cX3_weigh 79 = .ok (.return_, 1) := by decide +kernel
set_option maxRecDepth 20000 in
theorem ggX3_chooseFirst_X3_leastFrom : GoodIn wsX3_chooseFirst wsX3_leastFrom := goodIn_r _ [6, 7, 8, 9, 10, 11, 12, 13, 80, 81, 82, 83, 84] (by decide +kernel) (by decide +kernel)
set_option maxRecDepth 20000 in
theorem gX3_chooseFirst_X3_leastFrom : GoodIn wsX3_chooseFirst (wsV RX3 55 RX3 yX3_leastFrom wsX3_leastFrom) := goodIn_app (goodIn_of _ (by decide +kernel)) ggX3_chooseFirst_X3_leastFrom
set_option maxRecDepth 20000 in
theorem ggX3_chooseFirst_X0_mostPlace : GoodIn wsX3_chooseFirst wsX0_mostPlace := goodIn_r _ [18, 19, 20, 21, 17, 22, 23, 24, 9, 10, 11, 12, 13, 25, 26, 27, 28, 85, 84] (by decide +kernel) (by decide +kernel)
set_option maxRecDepth 20000 in
theorem gX3_chooseFirst_X0_mostPlace : GoodIn wsX3_chooseFirst (wsV RX3 96 RX0 yX0_mostPlace wsX0_mostPlace) := goodIn_app (goodIn_of _ (by decide +kernel)) ggX3_chooseFirst_X0_mostPlace
set_option maxRecDepth 20000 in
theorem ggX3_chooseFirst_X3_costThrough : GoodIn wsX3_chooseFirst wsX3_costThrough := goodIn_r _ [32, 1, 33, 34, 35, 36, 37, 38, 39, 40, 5, 41, 42, 8, 9, 10, 11, 12, 13, 43, 44, 45, 46, 20, 21, 17, 22, 23, 24, 47, 26, 27, 28, 48, 49, 50, 51, 52, 53, 54, 55, 56, 57, 58, 59, 60, 61, 62, 63, 64, 65, 66, 67, 2, 3, 4, 6, 7, 68, 69, 70, 71, 80, 81, 82, 83, 84, 85] (by decide +kernel) (by decide +kernel)
set_option maxRecDepth 20000 in
theorem gX3_chooseFirst_X3_costThrough : GoodIn wsX3_chooseFirst (wsV RX3 99 RX3 yX3_costThrough wsX3_costThrough) := goodIn_app (goodIn_of _ (by decide +kernel)) ggX3_chooseFirst_X3_costThrough
set_option maxRecDepth 20000 in
theorem ggX3_chooseFirst_X0_putChoice : GoodIn wsX3_chooseFirst wsX0_putChoice := goodIn_r _ [75, 23, 76, 77, 78, 11, 79, 13, 85, 84] (by decide +kernel) (by decide +kernel)
set_option maxRecDepth 20000 in
theorem gX3_chooseFirst_X0_putChoice : GoodIn wsX3_chooseFirst (wsV RX3 107 RX0 yX0_putChoice wsX0_putChoice) := goodIn_app (goodIn_of _ (by decide +kernel)) ggX3_chooseFirst_X0_putChoice
theorem dX3_chooseFirst_0 : decode cX3_chooseFirst 0 = .ok (.aload_n 0, 1) := by decide +kernel
theorem dX3_chooseFirst_1 : decode cX3_chooseFirst 1 = .ok (.iload_n 1, 1) := by decide +kernel
theorem dX3_chooseFirst_2 : decode cX3_chooseFirst 2 = .ok (.iload_n 2, 1) := by decide +kernel
theorem dX3_chooseFirst_3 : decode cX3_chooseFirst 3 = .ok (.invokevirtual 55, 3) := by decide +kernel
theorem dX3_chooseFirst_6 : decode cX3_chooseFirst 6 = .ok (.istore_n 3, 1) := by decide +kernel
theorem dX3_chooseFirst_7 : decode cX3_chooseFirst 7 = .ok (.iconst 0, 1) := by decide +kernel
theorem dX3_chooseFirst_8 : decode cX3_chooseFirst 8 = .ok (.istore 4, 2) := by decide +kernel
theorem dX3_chooseFirst_10 : decode cX3_chooseFirst 10 = .ok (.iload 4, 2) := by decide +kernel
theorem dX3_chooseFirst_12 : decode cX3_chooseFirst 12 = .ok (.iconst 1, 1) := by decide +kernel
theorem dX3_chooseFirst_13 : decode cX3_chooseFirst 13 = .ok (.if_icmp .gt 58, 3) := by decide +kernel
theorem dX3_chooseFirst_16 : decode cX3_chooseFirst 16 = .ok (.iconst 0, 1) := by decide +kernel
theorem dX3_chooseFirst_17 : decode cX3_chooseFirst 17 = .ok (.istore 5, 2) := by decide +kernel
theorem dX3_chooseFirst_19 : decode cX3_chooseFirst 19 = .ok (.iload 5, 2) := by decide +kernel
theorem dX3_chooseFirst_21 : decode cX3_chooseFirst 21 = .ok (.aload_n 0, 1) := by decide +kernel
theorem dX3_chooseFirst_22 : decode cX3_chooseFirst 22 = .ok (.getfield 14, 3) := by decide +kernel
theorem dX3_chooseFirst_25 : decode cX3_chooseFirst 25 = .ok (.iload_n 1, 1) := by decide +kernel
theorem dX3_chooseFirst_26 : decode cX3_chooseFirst 26 = .ok (.invokevirtual 96, 3) := by decide +kernel
theorem dX3_chooseFirst_29 : decode cX3_chooseFirst 29 = .ok (.if_icmp .gt 36, 3) := by decide +kernel
theorem dX3_chooseFirst_32 : decode cX3_chooseFirst 32 = .ok (.aload_n 0, 1) := by decide +kernel
theorem dX3_chooseFirst_33 : decode cX3_chooseFirst 33 = .ok (.iload_n 1, 1) := by decide +kernel
theorem dX3_chooseFirst_34 : decode cX3_chooseFirst 34 = .ok (.iload_n 2, 1) := by decide +kernel
theorem dX3_chooseFirst_35 : decode cX3_chooseFirst 35 = .ok (.iload 4, 2) := by decide +kernel
theorem dX3_chooseFirst_37 : decode cX3_chooseFirst 37 = .ok (.iload 5, 2) := by decide +kernel
theorem dX3_chooseFirst_39 : decode cX3_chooseFirst 39 = .ok (.invokevirtual 99, 3) := by decide +kernel
theorem dX3_chooseFirst_42 : decode cX3_chooseFirst 42 = .ok (.iload_n 3, 1) := by decide +kernel
theorem dX3_chooseFirst_43 : decode cX3_chooseFirst 43 = .ok (.if_icmp .ne 16, 3) := by decide +kernel
theorem dX3_chooseFirst_46 : decode cX3_chooseFirst 46 = .ok (.aload_n 0, 1) := by decide +kernel
theorem dX3_chooseFirst_47 : decode cX3_chooseFirst 47 = .ok (.getfield 14, 3) := by decide +kernel
theorem dX3_chooseFirst_50 : decode cX3_chooseFirst 50 = .ok (.iload_n 1, 1) := by decide +kernel
theorem dX3_chooseFirst_51 : decode cX3_chooseFirst 51 = .ok (.iload 4, 2) := by decide +kernel
theorem dX3_chooseFirst_53 : decode cX3_chooseFirst 53 = .ok (.iload 5, 2) := by decide +kernel
theorem dX3_chooseFirst_55 : decode cX3_chooseFirst 55 = .ok (.invokevirtual 107, 3) := by decide +kernel
theorem dX3_chooseFirst_58 : decode cX3_chooseFirst 58 = .ok (.return_, 1) := by decide +kernel
theorem dX3_chooseFirst_59 : decode cX3_chooseFirst 59 = .ok (.iinc 5 1, 3) := by decide +kernel
theorem dX3_chooseFirst_62 : decode cX3_chooseFirst 62 = .ok (.goto (-43), 3) := by decide +kernel
theorem dX3_chooseFirst_65 : decode cX3_chooseFirst 65 = .ok (.iinc 4 1, 3) := by decide +kernel
theorem dX3_chooseFirst_68 : decode cX3_chooseFirst 68 = .ok (.goto (-58), 3) := by decide +kernel
theorem dX3_chooseFirst_71 : decode cX3_chooseFirst 71 = .ok (.return_, 1) := by decide +kernel
set_option maxRecDepth 20000 in
theorem ggX3_costThrough_X3_pagesAhead : GoodIn wsX3_costThrough wsX3_pagesAhead := goodIn_r _ [11, 12, 13, 14, 15, 16, 17, 18, 19, 20, 10, 21, 62, 63, 64, 65, 66] (by decide +kernel) (by decide +kernel)
set_option maxRecDepth 20000 in
theorem gX3_costThrough_X3_pagesAhead : GoodIn wsX3_costThrough (wsV RX3 83 RX3 yX3_pagesAhead wsX3_pagesAhead) := goodIn_app (goodIn_of _ (by decide +kernel)) ggX3_costThrough_X3_pagesAhead
set_option maxRecDepth 20000 in
theorem ggX3_costThrough_X0_plate : GoodIn wsX3_costThrough wsX0_plate := goodIn_r _ [26, 27, 28, 14, 15, 16, 17, 18, 67, 66] (by decide +kernel) (by decide +kernel)
set_option maxRecDepth 20000 in
theorem gX3_costThrough_X0_plate : GoodIn wsX3_costThrough (wsV RX3 110 RX0 yX0_plate wsX0_plate) := goodIn_app (goodIn_of _ (by decide +kernel)) ggX3_costThrough_X0_plate
set_option maxRecDepth 20000 in
theorem ggX3_costThrough_X0_text : GoodIn wsX3_costThrough wsX0_text := goodIn_r _ [32, 27, 28, 14, 15, 16, 17, 18, 67, 66] (by decide +kernel) (by decide +kernel)
set_option maxRecDepth 20000 in
theorem gX3_costThrough_X0_text : GoodIn wsX3_costThrough (wsV RX3 113 RX0 yX0_text wsX0_text) := goodIn_app (goodIn_of _ (by decide +kernel)) ggX3_costThrough_X0_text
set_option maxRecDepth 20000 in
theorem ggX3_costThrough_X3_faces : GoodIn wsX3_costThrough wsX3_faces := goodIn_r _ [35] (by decide +kernel) (by decide +kernel)
set_option maxRecDepth 20000 in
theorem gX3_costThrough_X3_faces : GoodIn wsX3_costThrough (va_wsS RX3 116 yX3_faces wsX3_faces) := goodIn_app (goodIn_of _ (by decide +kernel)) ggX3_costThrough_X3_faces
set_option maxRecDepth 20000 in
theorem ggX3_costThrough_X3_standingBehind : GoodIn wsX3_costThrough wsX3_standingBehind := goodIn_r _ [39, 40, 1, 7, 8, 9, 10, 11, 12, 13, 14, 15, 16, 17, 18, 19, 20, 21, 41, 42, 43, 44, 45, 46, 47, 22, 23, 24, 25, 26, 27, 28, 48, 49, 50, 51, 52, 62, 63, 64, 65, 66, 67] (by decide +kernel) (by decide +kernel)
set_option maxRecDepth 20000 in
theorem gX3_costThrough_X3_standingBehind : GoodIn wsX3_costThrough (wsV RX3 70 RX3 yX3_standingBehind wsX3_standingBehind) := goodIn_app (goodIn_of _ (by decide +kernel)) ggX3_costThrough_X3_standingBehind
set_option maxRecDepth 20000 in
theorem ggX3_costThrough_X3_leastFrom : GoodIn wsX3_costThrough wsX3_leastFrom := goodIn_r _ [56, 57, 13, 14, 15, 16, 17, 18, 62, 63, 64, 65, 66] (by decide +kernel) (by decide +kernel)
set_option maxRecDepth 20000 in
theorem gX3_costThrough_X3_leastFrom : GoodIn wsX3_costThrough (wsV RX3 55 RX3 yX3_leastFrom wsX3_leastFrom) := goodIn_app (goodIn_of _ (by decide +kernel)) ggX3_costThrough_X3_leastFrom
set_option maxRecDepth 20000 in
theorem ggX3_costThrough_X0_setting : GoodIn wsX3_costThrough wsX0_setting := goodIn_r _ [61, 27, 28, 14, 15, 16, 17, 18, 67, 66] (by decide +kernel) (by decide +kernel)
set_option maxRecDepth 20000 in
theorem gX3_costThrough_X0_setting : GoodIn wsX3_costThrough (wsV RX3 120 RX0 yX0_setting wsX0_setting) := goodIn_app (goodIn_of _ (by decide +kernel)) ggX3_costThrough_X0_setting
set_option maxRecDepth 20000 in
theorem ggX3_costThrough_X3_sidesAt : GoodIn wsX3_costThrough wsX3_sidesAt := goodIn_r _ [44, 40, 45, 46, 47, 62, 63, 64, 65] (by decide +kernel) (by decide +kernel)
set_option maxRecDepth 20000 in
theorem gX3_costThrough_X3_sidesAt : GoodIn wsX3_costThrough (wsV RX3 123 RX3 yX3_sidesAt wsX3_sidesAt) := goodIn_app (goodIn_of _ (by decide +kernel)) ggX3_costThrough_X3_sidesAt
set_option maxRecDepth 20000 in
theorem ggX3_costThrough_X3_bitOf : GoodIn wsX3_costThrough wsX3_bitOf := goodIn_r _ [50, 51, 46, 52] (by decide +kernel) (by decide +kernel)
set_option maxRecDepth 20000 in
theorem gX3_costThrough_X3_bitOf : GoodIn wsX3_costThrough (va_wsS RX3 127 yX3_bitOf wsX3_bitOf) := goodIn_app (goodIn_of _ (by decide +kernel)) ggX3_costThrough_X3_bitOf
theorem dX3_costThrough_0 : decode cX3_costThrough 0 = .ok (.aload_n 0, 1) := by decide +kernel
theorem dX3_costThrough_1 : decode cX3_costThrough 1 = .ok (.iload_n 1, 1) := by decide +kernel
theorem dX3_costThrough_2 : decode cX3_costThrough 2 = .ok (.iload_n 2, 1) := by decide +kernel
theorem dX3_costThrough_3 : decode cX3_costThrough 3 = .ok (.invokevirtual 83, 3) := by decide +kernel
theorem dX3_costThrough_6 : decode cX3_costThrough 6 = .ok (.iconst 1, 1) := by decide +kernel
theorem dX3_costThrough_7 : decode cX3_costThrough 7 = .ok (.iadd, 1) := by decide +kernel
theorem dX3_costThrough_8 : decode cX3_costThrough 8 = .ok (.istore 5, 2) := by decide +kernel
theorem dX3_costThrough_10 : decode cX3_costThrough 10 = .ok (.iload 5, 2) := by decide +kernel
theorem dX3_costThrough_12 : decode cX3_costThrough 12 = .ok (.iload_n 3, 1) := by decide +kernel
theorem dX3_costThrough_13 : decode cX3_costThrough 13 = .ok (.iadd, 1) := by decide +kernel
theorem dX3_costThrough_14 : decode cX3_costThrough 14 = .ok (.iload 4, 2) := by decide +kernel
theorem dX3_costThrough_16 : decode cX3_costThrough 16 = .ok (.iadd, 1) := by decide +kernel
theorem dX3_costThrough_17 : decode cX3_costThrough 17 = .ok (.istore 6, 2) := by decide +kernel
theorem dX3_costThrough_19 : decode cX3_costThrough 19 = .ok (.aload_n 0, 1) := by decide +kernel
theorem dX3_costThrough_20 : decode cX3_costThrough 20 = .ok (.getfield 14, 3) := by decide +kernel
theorem dX3_costThrough_23 : decode cX3_costThrough 23 = .ok (.iload_n 1, 1) := by decide +kernel
theorem dX3_costThrough_24 : decode cX3_costThrough 24 = .ok (.invokevirtual 110, 3) := by decide +kernel
theorem dX3_costThrough_27 : decode cX3_costThrough 27 = .ok (.ifCond .eq 24, 3) := by decide +kernel
theorem dX3_costThrough_30 : decode cX3_costThrough 30 = .ok (.iload 6, 2) := by decide +kernel
theorem dX3_costThrough_32 : decode cX3_costThrough 32 = .ok (.iload 4, 2) := by decide +kernel
theorem dX3_costThrough_34 : decode cX3_costThrough 34 = .ok (.aload_n 0, 1) := by decide +kernel
theorem dX3_costThrough_35 : decode cX3_costThrough 35 = .ok (.getfield 14, 3) := by decide +kernel
theorem dX3_costThrough_38 : decode cX3_costThrough 38 = .ok (.iload_n 1, 1) := by decide +kernel
theorem dX3_costThrough_39 : decode cX3_costThrough 39 = .ok (.invokevirtual 113, 3) := by decide +kernel
theorem dX3_costThrough_42 : decode cX3_costThrough 42 = .ok (.invokestatic 116, 3) := by decide +kernel
theorem dX3_costThrough_45 : decode cX3_costThrough 45 = .ok (.ifCond .ne 6, 3) := by decide +kernel
theorem dX3_costThrough_48 : decode cX3_costThrough 48 = .ok (.ldc 59, 2) := by decide +kernel
theorem dX3_costThrough_50 : decode cX3_costThrough 50 = .ok (.ireturn, 1) := by decide +kernel
theorem dX3_costThrough_51 : decode cX3_costThrough 51 = .ok (.aload_n 0, 1) := by decide +kernel
theorem dX3_costThrough_52 : decode cX3_costThrough 52 = .ok (.iload_n 1, 1) := by decide +kernel
theorem dX3_costThrough_53 : decode cX3_costThrough 53 = .ok (.iconst 1, 1) := by decide +kernel
theorem dX3_costThrough_54 : decode cX3_costThrough 54 = .ok (.iadd, 1) := by decide +kernel
theorem dX3_costThrough_55 : decode cX3_costThrough 55 = .ok (.aload_n 0, 1) := by decide +kernel
theorem dX3_costThrough_56 : decode cX3_costThrough 56 = .ok (.iload_n 1, 1) := by decide +kernel
theorem dX3_costThrough_57 : decode cX3_costThrough 57 = .ok (.iload_n 2, 1) := by decide +kernel
theorem dX3_costThrough_58 : decode cX3_costThrough 58 = .ok (.iload_n 3, 1) := by decide +kernel
theorem dX3_costThrough_59 : decode cX3_costThrough 59 = .ok (.iload 4, 2) := by decide +kernel
theorem dX3_costThrough_61 : decode cX3_costThrough 61 = .ok (.invokevirtual 70, 3) := by decide +kernel
theorem dX3_costThrough_64 : decode cX3_costThrough 64 = .ok (.invokevirtual 55, 3) := by decide +kernel
theorem dX3_costThrough_67 : decode cX3_costThrough 67 = .ok (.iload_n 3, 1) := by decide +kernel
theorem dX3_costThrough_68 : decode cX3_costThrough 68 = .ok (.aload_n 0, 1) := by decide +kernel
theorem dX3_costThrough_69 : decode cX3_costThrough 69 = .ok (.getfield 14, 3) := by decide +kernel
theorem dX3_costThrough_72 : decode cX3_costThrough 72 = .ok (.iconst 3, 1) := by decide +kernel
theorem dX3_costThrough_73 : decode cX3_costThrough 73 = .ok (.invokevirtual 120, 3) := by decide +kernel
theorem dX3_costThrough_76 : decode cX3_costThrough 76 = .ok (.imul, 1) := by decide +kernel
theorem dX3_costThrough_77 : decode cX3_costThrough 77 = .ok (.iadd, 1) := by decide +kernel
theorem dX3_costThrough_78 : decode cX3_costThrough 78 = .ok (.istore 7, 2) := by decide +kernel
theorem dX3_costThrough_80 : decode cX3_costThrough 80 = .ok (.aload_n 0, 1) := by decide +kernel
theorem dX3_costThrough_81 : decode cX3_costThrough 81 = .ok (.getfield 14, 3) := by decide +kernel
theorem dX3_costThrough_84 : decode cX3_costThrough 84 = .ok (.iload_n 1, 1) := by decide +kernel
theorem dX3_costThrough_85 : decode cX3_costThrough 85 = .ok (.invokevirtual 110, 3) := by decide +kernel
theorem dX3_costThrough_88 : decode cX3_costThrough 88 = .ok (.iconst 2, 1) := by decide +kernel
theorem dX3_costThrough_89 : decode cX3_costThrough 89 = .ok (.if_icmp .ne 34, 3) := by decide +kernel
theorem dX3_costThrough_92 : decode cX3_costThrough 92 = .ok (.aload_n 0, 1) := by decide +kernel
theorem dX3_costThrough_93 : decode cX3_costThrough 93 = .ok (.iload 5, 2) := by decide +kernel
theorem dX3_costThrough_95 : decode cX3_costThrough 95 = .ok (.iload_n 2, 1) := by decide +kernel
theorem dX3_costThrough_96 : decode cX3_costThrough 96 = .ok (.iload 6, 2) := by decide +kernel
theorem dX3_costThrough_98 : decode cX3_costThrough 98 = .ok (.invokevirtual 123, 3) := by decide +kernel
theorem dX3_costThrough_101 : decode cX3_costThrough 101 = .ok (.iload 6, 2) := by decide +kernel
theorem dX3_costThrough_103 : decode cX3_costThrough 103 = .ok (.invokestatic 127, 3) := by decide +kernel
theorem dX3_costThrough_106 : decode cX3_costThrough 106 = .ok (.iand, 1) := by decide +kernel
theorem dX3_costThrough_107 : decode cX3_costThrough 107 = .ok (.ifCond .ne 16, 3) := by decide +kernel
theorem dX3_costThrough_110 : decode cX3_costThrough 110 = .ok (.iload 7, 2) := by decide +kernel
theorem dX3_costThrough_112 : decode cX3_costThrough 112 = .ok (.aload_n 0, 1) := by decide +kernel
theorem dX3_costThrough_113 : decode cX3_costThrough 113 = .ok (.getfield 14, 3) := by decide +kernel
theorem dX3_costThrough_116 : decode cX3_costThrough 116 = .ok (.iconst 2, 1) := by decide +kernel
theorem dX3_costThrough_117 : decode cX3_costThrough 117 = .ok (.invokevirtual 120, 3) := by decide +kernel
theorem dX3_costThrough_120 : decode cX3_costThrough 120 = .ok (.iadd, 1) := by decide +kernel
theorem dX3_costThrough_121 : decode cX3_costThrough 121 = .ok (.istore 7, 2) := by decide +kernel
theorem dX3_costThrough_123 : decode cX3_costThrough 123 = .ok (.iload 7, 2) := by decide +kernel
theorem dX3_costThrough_125 : decode cX3_costThrough 125 = .ok (.ldc 59, 2) := by decide +kernel
theorem dX3_costThrough_127 : decode cX3_costThrough 127 = .ok (.invokestatic 102, 3) := by decide +kernel
theorem dX3_costThrough_130 : decode cX3_costThrough 130 = .ok (.ireturn, 1) := by decide +kernel
theorem dX3_faces_0 : decode cX3_faces 0 = .ok (.iload_n 0, 1) := by decide +kernel
theorem dX3_faces_1 : decode cX3_faces 1 = .ok (.iconst 1, 1) := by decide +kernel
theorem dX3_faces_2 : decode cX3_faces 2 = .ok (.iand, 1) := by decide +kernel
theorem dX3_faces_3 : decode cX3_faces 3 = .ok (.ifCond .ne 16, 3) := by decide +kernel
theorem dX3_faces_6 : decode cX3_faces 6 = .ok (.iload_n 1, 1) := by decide +kernel
theorem dX3_faces_7 : decode cX3_faces 7 = .ok (.iload_n 2, 1) := by decide +kernel
theorem dX3_faces_8 : decode cX3_faces 8 = .ok (.if_icmp .ge 7, 3) := by decide +kernel
theorem dX3_faces_11 : decode cX3_faces 11 = .ok (.iconst 1, 1) := by decide +kernel
theorem dX3_faces_12 : decode cX3_faces 12 = .ok (.goto 16, 3) := by decide +kernel
theorem dX3_faces_15 : decode cX3_faces 15 = .ok (.iconst 0, 1) := by decide +kernel
theorem dX3_faces_16 : decode cX3_faces 16 = .ok (.goto 12, 3) := by decide +kernel
theorem dX3_faces_19 : decode cX3_faces 19 = .ok (.iload_n 1, 1) := by decide +kernel
theorem dX3_faces_20 : decode cX3_faces 20 = .ok (.ifCond .le 7, 3) := by decide +kernel
theorem dX3_faces_23 : decode cX3_faces 23 = .ok (.iconst 1, 1) := by decide +kernel
theorem dX3_faces_24 : decode cX3_faces 24 = .ok (.goto 4, 3) := by decide +kernel
theorem dX3_faces_27 : decode cX3_faces 27 = .ok (.iconst 0, 1) := by decide +kernel
theorem dX3_faces_28 : decode cX3_faces 28 = .ok (.ireturn, 1) := by decide +kernel
set_option maxRecDepth 20000 in
theorem ggX3_standingBehind_X3_pagesAhead : GoodIn wsX3_standingBehind wsX3_pagesAhead := goodIn_r _ [7, 8, 9, 10, 11, 12, 13, 14, 15, 16, 6, 17, 37, 38, 39, 40, 41] (by decide +kernel) (by decide +kernel)
set_option maxRecDepth 20000 in
theorem gX3_standingBehind_X3_pagesAhead : GoodIn wsX3_standingBehind (wsV RX3 83 RX3 yX3_pagesAhead wsX3_pagesAhead) := goodIn_app (goodIn_of _ (by decide +kernel)) ggX3_standingBehind_X3_pagesAhead
set_option maxRecDepth 20000 in
theorem ggX3_standingBehind_X3_sidesAt : GoodIn wsX3_standingBehind wsX3_sidesAt := goodIn_r _ [21, 1, 22, 23, 24, 37, 38, 39, 40] (by decide +kernel) (by decide +kernel)
set_option maxRecDepth 20000 in
theorem gX3_standingBehind_X3_sidesAt : GoodIn wsX3_standingBehind (wsV RX3 123 RX3 yX3_sidesAt wsX3_sidesAt) := goodIn_app (goodIn_of _ (by decide +kernel)) ggX3_standingBehind_X3_sidesAt
set_option maxRecDepth 20000 in
theorem ggX3_standingBehind_X7_gatheringOfPage : GoodIn wsX3_standingBehind wsX7_gatheringOfPage := goodIn_r _ [24] (by decide +kernel) (by decide +kernel)
set_option maxRecDepth 20000 in
theorem gX3_standingBehind_X7_gatheringOfPage_n130 : GoodIn wsX3_standingBehind (wsX7_gatheringOfPage) := ggX3_standingBehind_X7_gatheringOfPage
set_option maxRecDepth 20000 in
theorem ggX3_standingBehind_X0_plate : GoodIn wsX3_standingBehind wsX0_plate := goodIn_r _ [29, 30, 31, 10, 11, 12, 13, 14, 42, 41] (by decide +kernel) (by decide +kernel)
set_option maxRecDepth 20000 in
theorem gX3_standingBehind_X0_plate : GoodIn wsX3_standingBehind (wsV RX3 110 RX0 yX0_plate wsX0_plate) := goodIn_app (goodIn_of _ (by decide +kernel)) ggX3_standingBehind_X0_plate
set_option maxRecDepth 20000 in
theorem ggX3_standingBehind_X3_bitOf : GoodIn wsX3_standingBehind wsX3_bitOf := goodIn_r _ [34, 35, 23, 36] (by decide +kernel) (by decide +kernel)
set_option maxRecDepth 20000 in
theorem gX3_standingBehind_X3_bitOf : GoodIn wsX3_standingBehind (va_wsS RX3 127 yX3_bitOf wsX3_bitOf) := goodIn_app (goodIn_of _ (by decide +kernel)) ggX3_standingBehind_X3_bitOf
set_option maxRecDepth 20000 in
theorem ggX3_standingBehind_X3_blanksIn : GoodIn wsX3_standingBehind wsX3_blanksIn := goodIn_r _ [17] (by decide +kernel) (by decide +kernel)
set_option maxRecDepth 20000 in
theorem gX3_standingBehind_X3_blanksIn : GoodIn wsX3_standingBehind (va_wsS RX3 133 yX3_blanksIn wsX3_blanksIn) := goodIn_app (goodIn_of _ (by decide +kernel)) ggX3_standingBehind_X3_blanksIn
theorem dX3_standingBehind_0 : decode cX3_standingBehind 0 = .ok (.aload_n 0, 1) := by decide +kernel
theorem dX3_standingBehind_1 : decode cX3_standingBehind 1 = .ok (.iload_n 1, 1) := by decide +kernel
theorem dX3_standingBehind_2 : decode cX3_standingBehind 2 = .ok (.iload_n 2, 1) := by decide +kernel
theorem dX3_standingBehind_3 : decode cX3_standingBehind 3 = .ok (.invokevirtual 83, 3) := by decide +kernel
theorem dX3_standingBehind_6 : decode cX3_standingBehind 6 = .ok (.iconst 1, 1) := by decide +kernel
theorem dX3_standingBehind_7 : decode cX3_standingBehind 7 = .ok (.iadd, 1) := by decide +kernel
theorem dX3_standingBehind_8 : decode cX3_standingBehind 8 = .ok (.istore 5, 2) := by decide +kernel
theorem dX3_standingBehind_10 : decode cX3_standingBehind 10 = .ok (.iload 5, 2) := by decide +kernel
theorem dX3_standingBehind_12 : decode cX3_standingBehind 12 = .ok (.iload_n 3, 1) := by decide +kernel
theorem dX3_standingBehind_13 : decode cX3_standingBehind 13 = .ok (.iadd, 1) := by decide +kernel
theorem dX3_standingBehind_14 : decode cX3_standingBehind 14 = .ok (.iload 4, 2) := by decide +kernel
theorem dX3_standingBehind_16 : decode cX3_standingBehind 16 = .ok (.iadd, 1) := by decide +kernel
theorem dX3_standingBehind_17 : decode cX3_standingBehind 17 = .ok (.istore 6, 2) := by decide +kernel
theorem dX3_standingBehind_19 : decode cX3_standingBehind 19 = .ok (.aload_n 0, 1) := by decide +kernel
theorem dX3_standingBehind_20 : decode cX3_standingBehind 20 = .ok (.iload_n 1, 1) := by decide +kernel
theorem dX3_standingBehind_21 : decode cX3_standingBehind 21 = .ok (.iconst 1, 1) := by decide +kernel
theorem dX3_standingBehind_22 : decode cX3_standingBehind 22 = .ok (.iadd, 1) := by decide +kernel
theorem dX3_standingBehind_23 : decode cX3_standingBehind 23 = .ok (.iload_n 2, 1) := by decide +kernel
theorem dX3_standingBehind_24 : decode cX3_standingBehind 24 = .ok (.invokevirtual 83, 3) := by decide +kernel
theorem dX3_standingBehind_27 : decode cX3_standingBehind 27 = .ok (.iload_n 3, 1) := by decide +kernel
theorem dX3_standingBehind_28 : decode cX3_standingBehind 28 = .ok (.iadd, 1) := by decide +kernel
theorem dX3_standingBehind_29 : decode cX3_standingBehind 29 = .ok (.iconst 1, 1) := by decide +kernel
theorem dX3_standingBehind_30 : decode cX3_standingBehind 30 = .ok (.iadd, 1) := by decide +kernel
theorem dX3_standingBehind_31 : decode cX3_standingBehind 31 = .ok (.istore 7, 2) := by decide +kernel
theorem dX3_standingBehind_33 : decode cX3_standingBehind 33 = .ok (.aload_n 0, 1) := by decide +kernel
theorem dX3_standingBehind_34 : decode cX3_standingBehind 34 = .ok (.iload 5, 2) := by decide +kernel
theorem dX3_standingBehind_36 : decode cX3_standingBehind 36 = .ok (.iload_n 2, 1) := by decide +kernel
theorem dX3_standingBehind_37 : decode cX3_standingBehind 37 = .ok (.iload 7, 2) := by decide +kernel
theorem dX3_standingBehind_39 : decode cX3_standingBehind 39 = .ok (.invokevirtual 123, 3) := by decide +kernel
theorem dX3_standingBehind_42 : decode cX3_standingBehind 42 = .ok (.istore 8, 2) := by decide +kernel
theorem dX3_standingBehind_44 : decode cX3_standingBehind 44 = .ok (.iload 6, 2) := by decide +kernel
theorem dX3_standingBehind_46 : decode cX3_standingBehind 46 = .ok (.aload_n 0, 1) := by decide +kernel
theorem dX3_standingBehind_47 : decode cX3_standingBehind 47 = .ok (.getfield 30, 3) := by decide +kernel
theorem dX3_standingBehind_50 : decode cX3_standingBehind 50 = .ok (.invokestatic 130, 3) := by decide +kernel
theorem dX3_standingBehind_53 : decode cX3_standingBehind 53 = .ok (.iload 7, 2) := by decide +kernel
theorem dX3_standingBehind_55 : decode cX3_standingBehind 55 = .ok (.aload_n 0, 1) := by decide +kernel
theorem dX3_standingBehind_56 : decode cX3_standingBehind 56 = .ok (.getfield 30, 3) := by decide +kernel
theorem dX3_standingBehind_59 : decode cX3_standingBehind 59 = .ok (.invokestatic 130, 3) := by decide +kernel
theorem dX3_standingBehind_62 : decode cX3_standingBehind 62 = .ok (.if_icmp .ne 7, 3) := by decide +kernel
theorem dX3_standingBehind_65 : decode cX3_standingBehind 65 = .ok (.iconst 1, 1) := by decide +kernel
theorem dX3_standingBehind_66 : decode cX3_standingBehind 66 = .ok (.goto 4, 3) := by decide +kernel
theorem dX3_standingBehind_69 : decode cX3_standingBehind 69 = .ok (.iconst 0, 1) := by decide +kernel
theorem dX3_standingBehind_70 : decode cX3_standingBehind 70 = .ok (.istore 9, 2) := by decide +kernel
theorem dX3_standingBehind_72 : decode cX3_standingBehind 72 = .ok (.aload_n 0, 1) := by decide +kernel
theorem dX3_standingBehind_73 : decode cX3_standingBehind 73 = .ok (.getfield 14, 3) := by decide +kernel
theorem dX3_standingBehind_76 : decode cX3_standingBehind 76 = .ok (.iload_n 1, 1) := by decide +kernel
theorem dX3_standingBehind_77 : decode cX3_standingBehind 77 = .ok (.invokevirtual 110, 3) := by decide +kernel
theorem dX3_standingBehind_80 : decode cX3_standingBehind 80 = .ok (.iconst 2, 1) := by decide +kernel
theorem dX3_standingBehind_81 : decode cX3_standingBehind 81 = .ok (.if_icmp .ne 18, 3) := by decide +kernel
theorem dX3_standingBehind_84 : decode cX3_standingBehind 84 = .ok (.iload 9, 2) := by decide +kernel
theorem dX3_standingBehind_86 : decode cX3_standingBehind 86 = .ok (.ifCond .eq 13, 3) := by decide +kernel
theorem dX3_standingBehind_89 : decode cX3_standingBehind 89 = .ok (.iload 8, 2) := by decide +kernel
theorem dX3_standingBehind_91 : decode cX3_standingBehind 91 = .ok (.iload 6, 2) := by decide +kernel
theorem dX3_standingBehind_93 : decode cX3_standingBehind 93 = .ok (.invokestatic 127, 3) := by decide +kernel
theorem dX3_standingBehind_96 : decode cX3_standingBehind 96 = .ok (.ior, 1) := by decide +kernel
theorem dX3_standingBehind_97 : decode cX3_standingBehind 97 = .ok (.istore 8, 2) := by decide +kernel
theorem dX3_standingBehind_99 : decode cX3_standingBehind 99 = .ok (.iload_n 2, 1) := by decide +kernel
theorem dX3_standingBehind_100 : decode cX3_standingBehind 100 = .ok (.invokestatic 133, 3) := by decide +kernel
theorem dX3_standingBehind_103 : decode cX3_standingBehind 103 = .ok (.iload_n 3, 1) := by decide +kernel
theorem dX3_standingBehind_104 : decode cX3_standingBehind 104 = .ok (.iadd, 1) := by decide +kernel
theorem dX3_standingBehind_105 : decode cX3_standingBehind 105 = .ok (.iconst 4, 1) := by decide +kernel
theorem dX3_standingBehind_106 : decode cX3_standingBehind 106 = .ok (.imul, 1) := by decide +kernel
theorem dX3_standingBehind_107 : decode cX3_standingBehind 107 = .ok (.iload 8, 2) := by decide +kernel
theorem dX3_standingBehind_109 : decode cX3_standingBehind 109 = .ok (.iadd, 1) := by decide +kernel
theorem dX3_standingBehind_110 : decode cX3_standingBehind 110 = .ok (.ireturn, 1) := by decide +kernel
set_option maxRecDepth 20000 in
theorem ggX3_sidesAt_X7_gatheringOfPage : GoodIn wsX3_sidesAt wsX7_gatheringOfPage := goodIn_r _ [4] (by decide +kernel) (by decide +kernel)
set_option maxRecDepth 20000 in
theorem gX3_sidesAt_X7_gatheringOfPage_n130 : GoodIn wsX3_sidesAt (wsX7_gatheringOfPage) := ggX3_sidesAt_X7_gatheringOfPage
theorem dX3_sidesAt_0 : decode cX3_sidesAt 0 = .ok (.iload_n 1, 1) := by decide +kernel
theorem dX3_sidesAt_1 : decode cX3_sidesAt 1 = .ok (.aload_n 0, 1) := by decide +kernel
theorem dX3_sidesAt_2 : decode cX3_sidesAt 2 = .ok (.getfield 30, 3) := by decide +kernel
theorem dX3_sidesAt_5 : decode cX3_sidesAt 5 = .ok (.invokestatic 130, 3) := by decide +kernel
theorem dX3_sidesAt_8 : decode cX3_sidesAt 8 = .ok (.iload_n 3, 1) := by decide +kernel
theorem dX3_sidesAt_9 : decode cX3_sidesAt 9 = .ok (.aload_n 0, 1) := by decide +kernel
theorem dX3_sidesAt_10 : decode cX3_sidesAt 10 = .ok (.getfield 30, 3) := by decide +kernel
theorem dX3_sidesAt_13 : decode cX3_sidesAt 13 = .ok (.invokestatic 130, 3) := by decide +kernel
theorem dX3_sidesAt_16 : decode cX3_sidesAt 16 = .ok (.if_icmp .ne 7, 3) := by decide +kernel
theorem dX3_sidesAt_19 : decode cX3_sidesAt 19 = .ok (.iconst 1, 1) := by decide +kernel
theorem dX3_sidesAt_20 : decode cX3_sidesAt 20 = .ok (.goto 4, 3) := by decide +kernel
theorem dX3_sidesAt_23 : decode cX3_sidesAt 23 = .ok (.iconst 0, 1) := by decide +kernel
theorem dX3_sidesAt_24 : decode cX3_sidesAt 24 = .ok (.istore 4, 2) := by decide +kernel
theorem dX3_sidesAt_26 : decode cX3_sidesAt 26 = .ok (.iload 4, 2) := by decide +kernel
theorem dX3_sidesAt_28 : decode cX3_sidesAt 28 = .ok (.ifCond .eq 9, 3) := by decide +kernel
theorem dX3_sidesAt_31 : decode cX3_sidesAt 31 = .ok (.iload_n 2, 1) := by decide +kernel
theorem dX3_sidesAt_32 : decode cX3_sidesAt 32 = .ok (.iconst 3, 1) := by decide +kernel
theorem dX3_sidesAt_33 : decode cX3_sidesAt 33 = .ok (.iand, 1) := by decide +kernel
theorem dX3_sidesAt_34 : decode cX3_sidesAt 34 = .ok (.goto 4, 3) := by decide +kernel
theorem dX3_sidesAt_37 : decode cX3_sidesAt 37 = .ok (.iconst 0, 1) := by decide +kernel
theorem dX3_sidesAt_38 : decode cX3_sidesAt 38 = .ok (.ireturn, 1) := by decide +kernel
set_option maxRecDepth 20000 in
theorem ggX3_bitOf_X7_sideOfPage : GoodIn wsX3_bitOf wsX7_sideOfPage := goodIn_r _ [3] (by decide +kernel) (by decide +kernel)
set_option maxRecDepth 20000 in
theorem gX3_bitOf_X7_sideOfPage_n136 : GoodIn wsX3_bitOf (wsX7_sideOfPage) := ggX3_bitOf_X7_sideOfPage
theorem dX3_bitOf_0 : decode cX3_bitOf 0 = .ok (.iload_n 0, 1) := by decide +kernel
theorem dX3_bitOf_1 : decode cX3_bitOf 1 = .ok (.invokestatic 136, 3) := by decide +kernel
theorem dX3_bitOf_4 : decode cX3_bitOf 4 = .ok (.ifCond .ne 7, 3) := by decide +kernel
theorem dX3_bitOf_7 : decode cX3_bitOf 7 = .ok (.iconst 1, 1) := by decide +kernel
theorem dX3_bitOf_8 : decode cX3_bitOf 8 = .ok (.goto 4, 3) := by decide +kernel
theorem dX3_bitOf_11 : decode cX3_bitOf 11 = .ok (.iconst 2, 1) := by decide +kernel
theorem dX3_bitOf_12 : decode cX3_bitOf 12 = .ok (.ireturn, 1) := by decide +kernel
theorem dX3_blanksIn_0 : decode cX3_blanksIn 0 = .ok (.iload_n 0, 1) := by decide +kernel
theorem dX3_blanksIn_1 : decode cX3_blanksIn 1 = .ok (.iconst 4, 1) := by decide +kernel
theorem dX3_blanksIn_2 : decode cX3_blanksIn 2 = .ok (.idiv, 1) := by decide +kernel
theorem dX3_blanksIn_3 : decode cX3_blanksIn 3 = .ok (.ireturn, 1) := by decide +kernel
set_option maxRecDepth 20000 in
theorem ggX3_pagesAhead_X5_at : GoodIn wsX3_pagesAhead wsX5_at := goodIn_r _ [6, 7, 16] (by decide +kernel) (by decide +kernel)
set_option maxRecDepth 20000 in
theorem gX3_pagesAhead_X5_at : GoodIn wsX3_pagesAhead (wsV RX3 77 RX5 yX5_at wsX5_at) := goodIn_app (goodIn_of _ (by decide +kernel)) ggX3_pagesAhead_X5_at
set_option maxRecDepth 20000 in
theorem ggX3_pagesAhead_X3_blanksIn : GoodIn wsX3_pagesAhead wsX3_blanksIn := goodIn_r _ [11] (by decide +kernel) (by decide +kernel)
set_option maxRecDepth 20000 in
theorem gX3_pagesAhead_X3_blanksIn : GoodIn wsX3_pagesAhead (va_wsS RX3 133 yX3_blanksIn wsX3_blanksIn) := goodIn_app (goodIn_of _ (by decide +kernel)) ggX3_pagesAhead_X3_blanksIn
theorem dX3_pagesAhead_0 : decode cX3_pagesAhead 0 = .ok (.aload_n 0, 1) := by decide +kernel
theorem dX3_pagesAhead_1 : decode cX3_pagesAhead 1 = .ok (.getfield 23, 3) := by decide +kernel
theorem dX3_pagesAhead_4 : decode cX3_pagesAhead 4 = .ok (.iload_n 1, 1) := by decide +kernel
theorem dX3_pagesAhead_5 : decode cX3_pagesAhead 5 = .ok (.invokevirtual 77, 3) := by decide +kernel
theorem dX3_pagesAhead_8 : decode cX3_pagesAhead 8 = .ok (.iload_n 2, 1) := by decide +kernel
theorem dX3_pagesAhead_9 : decode cX3_pagesAhead 9 = .ok (.invokestatic 133, 3) := by decide +kernel
theorem dX3_pagesAhead_12 : decode cX3_pagesAhead 12 = .ok (.iadd, 1) := by decide +kernel
theorem dX3_pagesAhead_13 : decode cX3_pagesAhead 13 = .ok (.ireturn, 1) := by decide +kernel
set_option maxRecDepth 20000 in
theorem ggX3_leastFrom_X5_at : GoodIn wsX3_leastFrom wsX5_at := goodIn_r _ [6, 7, 12] (by decide +kernel) (by decide +kernel)
set_option maxRecDepth 20000 in
theorem gX3_leastFrom_X5_at : GoodIn wsX3_leastFrom (wsV RX3 77 RX5 yX5_at wsX5_at) := goodIn_app (goodIn_of _ (by decide +kernel)) ggX3_leastFrom_X5_at
theorem dX3_leastFrom_0 : decode cX3_leastFrom 0 = .ok (.aload_n 0, 1) := by decide +kernel
theorem dX3_leastFrom_1 : decode cX3_leastFrom 1 = .ok (.getfield 27, 3) := by decide +kernel
theorem dX3_leastFrom_4 : decode cX3_leastFrom 4 = .ok (.iload_n 1, 1) := by decide +kernel
theorem dX3_leastFrom_5 : decode cX3_leastFrom 5 = .ok (.bipush 52, 2) := by decide +kernel
theorem dX3_leastFrom_7 : decode cX3_leastFrom 7 = .ok (.imul, 1) := by decide +kernel
theorem dX3_leastFrom_8 : decode cX3_leastFrom 8 = .ok (.iload_n 2, 1) := by decide +kernel
theorem dX3_leastFrom_9 : decode cX3_leastFrom 9 = .ok (.iadd, 1) := by decide +kernel
theorem dX3_leastFrom_10 : decode cX3_leastFrom 10 = .ok (.invokevirtual 77, 3) := by decide +kernel
theorem dX3_leastFrom_13 : decode cX3_leastFrom 13 = .ok (.ireturn, 1) := by decide +kernel
set_option maxRecDepth 20000 in
theorem ggX3_putLeast_X5_put : GoodIn wsX3_putLeast wsX5_put := goodIn_r _ [6, 7, 12] (by decide +kernel) (by decide +kernel)
set_option maxRecDepth 20000 in
theorem gX3_putLeast_X5_put : GoodIn wsX3_putLeast (wsV RX3 74 RX5 yX5_put wsX5_put) := goodIn_app (goodIn_of _ (by decide +kernel)) ggX3_putLeast_X5_put
theorem dX3_putLeast_0 : decode cX3_putLeast 0 = .ok (.aload_n 0, 1) := by decide +kernel
theorem dX3_putLeast_1 : decode cX3_putLeast 1 = .ok (.getfield 27, 3) := by decide +kernel
theorem dX3_putLeast_4 : decode cX3_putLeast 4 = .ok (.iload_n 1, 1) := by decide +kernel
theorem dX3_putLeast_5 : decode cX3_putLeast 5 = .ok (.bipush 52, 2) := by decide +kernel
theorem dX3_putLeast_7 : decode cX3_putLeast 7 = .ok (.imul, 1) := by decide +kernel
theorem dX3_putLeast_8 : decode cX3_putLeast 8 = .ok (.iload_n 2, 1) := by decide +kernel
theorem dX3_putLeast_9 : decode cX3_putLeast 9 = .ok (.iadd, 1) := by decide +kernel
theorem dX3_putLeast_10 : decode cX3_putLeast 10 = .ok (.iload_n 3, 1) := by decide +kernel
theorem dX3_putLeast_11 : decode cX3_putLeast 11 = .ok (.invokevirtual 74, 3) := by decide +kernel
theorem dX3_putLeast_14 : decode cX3_putLeast 14 = .ok (.return_, 1) := by decide +kernel
set_option maxRecDepth 20000 in
theorem ggX4_init_X0_init : GoodIn wsX4_init wsX0_init := goodIn_r _ [12, 13, 2, 3, 14, 15, 16, 17, 18, 19, 20, 21, 22, 23, 24, 25, 26, 27, 32, 28] (by decide +kernel) (by decide +kernel)
set_option maxRecDepth 20000 in
theorem gX4_init_X0_init : GoodIn wsX4_init (wsX0_init) := ggX4_init_X0_init
theorem dX4_init_0 : decode cX4_init 0 = .ok (.aload_n 0, 1) := by decide +kernel
theorem dX4_init_1 : decode cX4_init 1 = .ok (.invokespecial 3, 3) := by decide +kernel
theorem dX4_init_4 : decode cX4_init 4 = .ok (.aload_n 0, 1) := by decide +kernel
theorem dX4_init_5 : decode cX4_init 5 = .ok (.new 9, 3) := by decide +kernel
theorem dX4_init_8 : decode cX4_init 8 = .ok (.dup, 1) := by decide +kernel
theorem dX4_init_9 : decode cX4_init 9 = .ok (.invokespecial 11, 3) := by decide +kernel
theorem dX4_init_12 : decode cX4_init 12 = .ok (.putfield 12, 3) := by decide +kernel
theorem dX4_init_15 : decode cX4_init 15 = .ok (.aload_n 0, 1) := by decide +kernel
theorem dX4_init_16 : decode cX4_init 16 = .ok (.iconst 0, 1) := by decide +kernel
theorem dX4_init_17 : decode cX4_init 17 = .ok (.putfield 18, 3) := by decide +kernel
theorem dX4_init_20 : decode cX4_init 20 = .ok (.aload_n 0, 1) := by decide +kernel
theorem dX4_init_21 : decode cX4_init 21 = .ok (.iconst 0, 1) := by decide +kernel
theorem dX4_init_22 : decode cX4_init 22 = .ok (.putfield 22, 3) := by decide +kernel
theorem dX4_init_25 : decode cX4_init 25 = .ok (.return_, 1) := by decide +kernel
theorem dX4_catalogue_0 : decode cX4_catalogue 0 = .ok (.aload_n 0, 1) := by decide +kernel
theorem dX4_catalogue_1 : decode cX4_catalogue 1 = .ok (.getfield 12, 3) := by decide +kernel
theorem dX4_catalogue_4 : decode cX4_catalogue 4 = .ok (.areturn, 1) := by decide +kernel
theorem dX4_lotsRead_0 : decode cX4_lotsRead 0 = .ok (.aload_n 0, 1) := by decide +kernel
theorem dX4_lotsRead_1 : decode cX4_lotsRead 1 = .ok (.getfield 22, 3) := by decide +kernel
theorem dX4_lotsRead_4 : decode cX4_lotsRead 4 = .ok (.ireturn, 1) := by decide +kernel
set_option maxRecDepth 20000 in
theorem ggX4_faultOf_X0_empty : GoodIn wsX4_faultOf wsX0_empty := goodIn_r _ [8, 9, 10, 11, 12, 13, 14, 15, 63, 64] (by decide +kernel) (by decide +kernel)
set_option maxRecDepth 20000 in
theorem gX4_faultOf_X0_empty : GoodIn wsX4_faultOf (wsV RX4 25 RX0 yX0_empty wsX0_empty) := goodIn_app (goodIn_of _ (by decide +kernel)) ggX4_faultOf_X0_empty
set_option maxRecDepth 20000 in
theorem ggX4_faultOf_X4_readLot : GoodIn wsX4_faultOf wsX4_readLot := goodIn_r _ [20, 3, 1, 2, 21, 22, 23, 24, 25, 26, 27, 28, 29, 30, 13, 31, 15, 32, 33, 34, 35, 36, 37, 19, 38, 39, 40, 41, 7, 42, 9, 43, 44, 45, 46, 47, 48, 49, 50, 51, 10, 11, 12, 14, 52, 53, 54, 55, 60, 61, 62, 65, 66, 64, 63] (by decide +kernel) (by decide +kernel)
set_option maxRecDepth 20000 in
theorem gX4_faultOf_X4_readLot : GoodIn wsX4_faultOf (wsV RX4 28 RX4 yX4_readLot wsX4_readLot) := goodIn_app (goodIn_of _ (by decide +kernel)) ggX4_faultOf_X4_readLot
set_option maxRecDepth 20000 in
theorem ggX4_faultOf_X6_length : GoodIn wsX4_faultOf wsX6_length := goodIn_r _ [59, 26, 65, 66] (by decide +kernel) (by decide +kernel)
set_option maxRecDepth 20000 in
theorem gX4_faultOf_X6_length : GoodIn wsX4_faultOf (wsV RX4 32 RX6 yX6_length wsX6_length) := goodIn_app (goodIn_of _ (by decide +kernel)) ggX4_faultOf_X6_length
set_option maxRecDepth 20000 in
theorem ggX4_faultOf_X4_takes : GoodIn wsX4_faultOf wsX4_takes := goodIn_r _ [38, 3, 21, 22, 23, 24, 25, 26, 27, 28, 29, 30, 13, 31, 15, 60, 61, 62, 65, 66, 64] (by decide +kernel) (by decide +kernel)
set_option maxRecDepth 20000 in
theorem gX4_faultOf_X4_takes : GoodIn wsX4_faultOf (wsV RX4 38 RX4 yX4_takes wsX4_takes) := goodIn_app (goodIn_of _ (by decide +kernel)) ggX4_faultOf_X4_takes
theorem dX4_faultOf_0 : decode cX4_faultOf 0 = .ok (.aload_n 0, 1) := by decide +kernel
theorem dX4_faultOf_1 : decode cX4_faultOf 1 = .ok (.getfield 12, 3) := by decide +kernel
theorem dX4_faultOf_4 : decode cX4_faultOf 4 = .ok (.invokevirtual 25, 3) := by decide +kernel
theorem dX4_faultOf_7 : decode cX4_faultOf 7 = .ok (.aload_n 0, 1) := by decide +kernel
theorem dX4_faultOf_8 : decode cX4_faultOf 8 = .ok (.iconst 0, 1) := by decide +kernel
theorem dX4_faultOf_9 : decode cX4_faultOf 9 = .ok (.putfield 22, 3) := by decide +kernel
theorem dX4_faultOf_12 : decode cX4_faultOf 12 = .ok (.aload_n 0, 1) := by decide +kernel
theorem dX4_faultOf_13 : decode cX4_faultOf 13 = .ok (.iconst 0, 1) := by decide +kernel
theorem dX4_faultOf_14 : decode cX4_faultOf 14 = .ok (.putfield 18, 3) := by decide +kernel
theorem dX4_faultOf_17 : decode cX4_faultOf 17 = .ok (.iconst 0, 1) := by decide +kernel
theorem dX4_faultOf_18 : decode cX4_faultOf 18 = .ok (.istore_n 2, 1) := by decide +kernel
theorem dX4_faultOf_19 : decode cX4_faultOf 19 = .ok (.iload_n 2, 1) := by decide +kernel
theorem dX4_faultOf_20 : decode cX4_faultOf 20 = .ok (.bipush 60, 2) := by decide +kernel
theorem dX4_faultOf_22 : decode cX4_faultOf 22 = .ok (.if_icmp .gt 50, 3) := by decide +kernel
theorem dX4_faultOf_25 : decode cX4_faultOf 25 = .ok (.aload_n 0, 1) := by decide +kernel
theorem dX4_faultOf_26 : decode cX4_faultOf 26 = .ok (.aload_n 1, 1) := by decide +kernel
theorem dX4_faultOf_27 : decode cX4_faultOf 27 = .ok (.invokevirtual 28, 3) := by decide +kernel
theorem dX4_faultOf_30 : decode cX4_faultOf 30 = .ok (.ifCond .ne 8, 3) := by decide +kernel
theorem dX4_faultOf_33 : decode cX4_faultOf 33 = .ok (.aload_n 0, 1) := by decide +kernel
theorem dX4_faultOf_34 : decode cX4_faultOf 34 = .ok (.getfield 18, 3) := by decide +kernel
theorem dX4_faultOf_37 : decode cX4_faultOf 37 = .ok (.ireturn, 1) := by decide +kernel
theorem dX4_faultOf_38 : decode cX4_faultOf 38 = .ok (.aload_n 0, 1) := by decide +kernel
theorem dX4_faultOf_39 : decode cX4_faultOf 39 = .ok (.getfield 18, 3) := by decide +kernel
theorem dX4_faultOf_42 : decode cX4_faultOf 42 = .ok (.aload_n 1, 1) := by decide +kernel
theorem dX4_faultOf_43 : decode cX4_faultOf 43 = .ok (.invokevirtual 32, 3) := by decide +kernel
theorem dX4_faultOf_46 : decode cX4_faultOf 46 = .ok (.if_icmp .ne 5, 3) := by decide +kernel
theorem dX4_faultOf_49 : decode cX4_faultOf 49 = .ok (.iconst (-1), 1) := by decide +kernel
theorem dX4_faultOf_50 : decode cX4_faultOf 50 = .ok (.ireturn, 1) := by decide +kernel
theorem dX4_faultOf_51 : decode cX4_faultOf 51 = .ok (.aload_n 0, 1) := by decide +kernel
theorem dX4_faultOf_52 : decode cX4_faultOf 52 = .ok (.aload_n 1, 1) := by decide +kernel
theorem dX4_faultOf_53 : decode cX4_faultOf 53 = .ok (.bipush 44, 2) := by decide +kernel
theorem dX4_faultOf_55 : decode cX4_faultOf 55 = .ok (.invokevirtual 38, 3) := by decide +kernel
theorem dX4_faultOf_58 : decode cX4_faultOf 58 = .ok (.ifCond .ne 8, 3) := by decide +kernel
theorem dX4_faultOf_61 : decode cX4_faultOf 61 = .ok (.aload_n 0, 1) := by decide +kernel
theorem dX4_faultOf_62 : decode cX4_faultOf 62 = .ok (.getfield 18, 3) := by decide +kernel
theorem dX4_faultOf_65 : decode cX4_faultOf 65 = .ok (.ireturn, 1) := by decide +kernel
theorem dX4_faultOf_66 : decode cX4_faultOf 66 = .ok (.iinc 2 1, 3) := by decide +kernel
theorem dX4_faultOf_69 : decode cX4_faultOf 69 = .ok (.goto (-50), 3) := by decide +kernel
theorem dX4_faultOf_72 : decode cX4_faultOf 72 = .ok (.aload_n 0, 1) := by decide +kernel
theorem dX4_faultOf_73 : decode cX4_faultOf 73 = .ok (.getfield 18, 3) := by decide +kernel
theorem dX4_faultOf_76 : decode cX4_faultOf 76 = .ok (.ireturn, 1) := by decide +kernel
set_option maxRecDepth 20000 in
theorem ggX4_readLot_X6_at : GoodIn wsX4_readLot wsX6_at := goodIn_r _ [8, 9, 10, 11, 12, 13, 14, 15, 16, 51, 52, 53] (by decide +kernel) (by decide +kernel)
set_option maxRecDepth 20000 in
theorem gX4_readLot_X6_at : GoodIn wsX4_readLot (wsV RX4 42 RX6 yX6_at wsX6_at) := goodIn_app (goodIn_of _ (by decide +kernel)) ggX4_readLot_X6_at
set_option maxRecDepth 20000 in
theorem ggX4_readLot_X7_isText : GoodIn wsX4_readLot wsX7_isText := goodIn_r _ [19] (by decide +kernel) (by decide +kernel)
set_option maxRecDepth 20000 in
theorem gX4_readLot_X7_isText_n45 : GoodIn wsX4_readLot (wsX7_isText) := ggX4_readLot_X7_isText
set_option maxRecDepth 20000 in
theorem ggX4_readLot_X4_takes : GoodIn wsX4_readLot wsX4_takes := goodIn_r _ [24, 1, 4, 5, 6, 7, 8, 9, 10, 11, 12, 13, 14, 15, 16, 48, 49, 50, 51, 52, 53] (by decide +kernel) (by decide +kernel)
set_option maxRecDepth 20000 in
theorem gX4_readLot_X4_takes : GoodIn wsX4_readLot (wsV RX4 38 RX4 yX4_takes wsX4_takes) := goodIn_app (goodIn_of _ (by decide +kernel)) ggX4_readLot_X4_takes
set_option maxRecDepth 20000 in
theorem ggX4_readLot_X0_append : GoodIn wsX4_readLot wsX0_append := goodIn_r _ [29, 30, 31, 32, 33, 28, 34, 35, 12, 13, 14, 15, 16, 36, 37, 38, 39, 40, 41, 42, 43, 44, 45, 46, 47, 54, 53] (by decide +kernel) (by decide +kernel)
set_option maxRecDepth 20000 in
theorem gX4_readLot_X0_append : GoodIn wsX4_readLot (wsV RX4 49 RX0 yX0_append wsX0_append) := goodIn_app (goodIn_of _ (by decide +kernel)) ggX4_readLot_X0_append
theorem dX4_readLot_0 : decode cX4_readLot 0 = .ok (.aload_n 1, 1) := by decide +kernel
theorem dX4_readLot_1 : decode cX4_readLot 1 = .ok (.aload_n 0, 1) := by decide +kernel
theorem dX4_readLot_2 : decode cX4_readLot 2 = .ok (.getfield 18, 3) := by decide +kernel
theorem dX4_readLot_5 : decode cX4_readLot 5 = .ok (.invokevirtual 42, 3) := by decide +kernel
theorem dX4_readLot_8 : decode cX4_readLot 8 = .ok (.bipush 48, 2) := by decide +kernel
theorem dX4_readLot_10 : decode cX4_readLot 10 = .ok (.isub, 1) := by decide +kernel
theorem dX4_readLot_11 : decode cX4_readLot 11 = .ok (.istore_n 2, 1) := by decide +kernel
theorem dX4_readLot_12 : decode cX4_readLot 12 = .ok (.iload_n 2, 1) := by decide +kernel
theorem dX4_readLot_13 : decode cX4_readLot 13 = .ok (.invokestatic 45, 3) := by decide +kernel
theorem dX4_readLot_16 : decode cX4_readLot 16 = .ok (.ifCond .ne 5, 3) := by decide +kernel
theorem dX4_readLot_19 : decode cX4_readLot 19 = .ok (.iconst 0, 1) := by decide +kernel
theorem dX4_readLot_20 : decode cX4_readLot 20 = .ok (.ireturn, 1) := by decide +kernel
theorem dX4_readLot_21 : decode cX4_readLot 21 = .ok (.aload_n 0, 1) := by decide +kernel
theorem dX4_readLot_22 : decode cX4_readLot 22 = .ok (.dup, 1) := by decide +kernel
theorem dX4_readLot_23 : decode cX4_readLot 23 = .ok (.getfield 18, 3) := by decide +kernel
theorem dX4_readLot_26 : decode cX4_readLot 26 = .ok (.iconst 1, 1) := by decide +kernel
theorem dX4_readLot_27 : decode cX4_readLot 27 = .ok (.iadd, 1) := by decide +kernel
theorem dX4_readLot_28 : decode cX4_readLot 28 = .ok (.putfield 18, 3) := by decide +kernel
theorem dX4_readLot_31 : decode cX4_readLot 31 = .ok (.aload_n 0, 1) := by decide +kernel
theorem dX4_readLot_32 : decode cX4_readLot 32 = .ok (.aload_n 1, 1) := by decide +kernel
theorem dX4_readLot_33 : decode cX4_readLot 33 = .ok (.bipush 98, 2) := by decide +kernel
theorem dX4_readLot_35 : decode cX4_readLot 35 = .ok (.invokevirtual 38, 3) := by decide +kernel
theorem dX4_readLot_38 : decode cX4_readLot 38 = .ok (.ifCond .eq 7, 3) := by decide +kernel
theorem dX4_readLot_41 : decode cX4_readLot 41 = .ok (.iconst 1, 1) := by decide +kernel
theorem dX4_readLot_42 : decode cX4_readLot 42 = .ok (.goto 18, 3) := by decide +kernel
theorem dX4_readLot_45 : decode cX4_readLot 45 = .ok (.aload_n 0, 1) := by decide +kernel
theorem dX4_readLot_46 : decode cX4_readLot 46 = .ok (.aload_n 1, 1) := by decide +kernel
theorem dX4_readLot_47 : decode cX4_readLot 47 = .ok (.bipush 99, 2) := by decide +kernel
theorem dX4_readLot_49 : decode cX4_readLot 49 = .ok (.invokevirtual 38, 3) := by decide +kernel
theorem dX4_readLot_52 : decode cX4_readLot 52 = .ok (.ifCond .eq 7, 3) := by decide +kernel
theorem dX4_readLot_55 : decode cX4_readLot 55 = .ok (.iconst 2, 1) := by decide +kernel
theorem dX4_readLot_56 : decode cX4_readLot 56 = .ok (.goto 4, 3) := by decide +kernel
theorem dX4_readLot_59 : decode cX4_readLot 59 = .ok (.iconst 0, 1) := by decide +kernel
theorem dX4_readLot_60 : decode cX4_readLot 60 = .ok (.istore_n 3, 1) := by decide +kernel
theorem dX4_readLot_61 : decode cX4_readLot 61 = .ok (.iconst 0, 1) := by decide +kernel
theorem dX4_readLot_62 : decode cX4_readLot 62 = .ok (.istore 4, 2) := by decide +kernel
theorem dX4_readLot_64 : decode cX4_readLot 64 = .ok (.iload_n 3, 1) := by decide +kernel
theorem dX4_readLot_65 : decode cX4_readLot 65 = .ok (.ifCond .eq 49, 3) := by decide +kernel
theorem dX4_readLot_68 : decode cX4_readLot 68 = .ok (.aload_n 0, 1) := by decide +kernel
theorem dX4_readLot_69 : decode cX4_readLot 69 = .ok (.aload_n 1, 1) := by decide +kernel
theorem dX4_readLot_70 : decode cX4_readLot 70 = .ok (.bipush 64, 2) := by decide +kernel
theorem dX4_readLot_72 : decode cX4_readLot 72 = .ok (.invokevirtual 38, 3) := by decide +kernel
theorem dX4_readLot_75 : decode cX4_readLot 75 = .ok (.ifCond .eq 39, 3) := by decide +kernel
theorem dX4_readLot_78 : decode cX4_readLot 78 = .ok (.aload_n 1, 1) := by decide +kernel
theorem dX4_readLot_79 : decode cX4_readLot 79 = .ok (.aload_n 0, 1) := by decide +kernel
theorem dX4_readLot_80 : decode cX4_readLot 80 = .ok (.getfield 18, 3) := by decide +kernel
theorem dX4_readLot_83 : decode cX4_readLot 83 = .ok (.invokevirtual 42, 3) := by decide +kernel
theorem dX4_readLot_86 : decode cX4_readLot 86 = .ok (.bipush 48, 2) := by decide +kernel
theorem dX4_readLot_88 : decode cX4_readLot 88 = .ok (.isub, 1) := by decide +kernel
theorem dX4_readLot_89 : decode cX4_readLot 89 = .ok (.istore 4, 2) := by decide +kernel
theorem dX4_readLot_91 : decode cX4_readLot 91 = .ok (.iload 4, 2) := by decide +kernel
theorem dX4_readLot_93 : decode cX4_readLot 93 = .ok (.ifCond .lt 9, 3) := by decide +kernel
theorem dX4_readLot_96 : decode cX4_readLot 96 = .ok (.iload 4, 2) := by decide +kernel
theorem dX4_readLot_98 : decode cX4_readLot 98 = .ok (.iload_n 2, 1) := by decide +kernel
theorem dX4_readLot_99 : decode cX4_readLot 99 = .ok (.if_icmp .le 5, 3) := by decide +kernel
theorem dX4_readLot_102 : decode cX4_readLot 102 = .ok (.iconst 0, 1) := by decide +kernel
theorem dX4_readLot_103 : decode cX4_readLot 103 = .ok (.ireturn, 1) := by decide +kernel
theorem dX4_readLot_104 : decode cX4_readLot 104 = .ok (.aload_n 0, 1) := by decide +kernel
theorem dX4_readLot_105 : decode cX4_readLot 105 = .ok (.dup, 1) := by decide +kernel
theorem dX4_readLot_106 : decode cX4_readLot 106 = .ok (.getfield 18, 3) := by decide +kernel
theorem dX4_readLot_109 : decode cX4_readLot 109 = .ok (.iconst 1, 1) := by decide +kernel
theorem dX4_readLot_110 : decode cX4_readLot 110 = .ok (.iadd, 1) := by decide +kernel
theorem dX4_readLot_111 : decode cX4_readLot 111 = .ok (.putfield 18, 3) := by decide +kernel
theorem dX4_readLot_114 : decode cX4_readLot 114 = .ok (.aload_n 0, 1) := by decide +kernel
theorem dX4_readLot_115 : decode cX4_readLot 115 = .ok (.aload_n 1, 1) := by decide +kernel
theorem dX4_readLot_116 : decode cX4_readLot 116 = .ok (.bipush 43, 2) := by decide +kernel
theorem dX4_readLot_118 : decode cX4_readLot 118 = .ok (.invokevirtual 38, 3) := by decide +kernel
theorem dX4_readLot_121 : decode cX4_readLot 121 = .ok (.ifCond .eq 7, 3) := by decide +kernel
theorem dX4_readLot_124 : decode cX4_readLot 124 = .ok (.iconst 1, 1) := by decide +kernel
theorem dX4_readLot_125 : decode cX4_readLot 125 = .ok (.goto 4, 3) := by decide +kernel
theorem dX4_readLot_128 : decode cX4_readLot 128 = .ok (.iconst 0, 1) := by decide +kernel
theorem dX4_readLot_129 : decode cX4_readLot 129 = .ok (.istore 5, 2) := by decide +kernel
theorem dX4_readLot_131 : decode cX4_readLot 131 = .ok (.aload_n 0, 1) := by decide +kernel
theorem dX4_readLot_132 : decode cX4_readLot 132 = .ok (.getfield 12, 3) := by decide +kernel
theorem dX4_readLot_135 : decode cX4_readLot 135 = .ok (.iload_n 2, 1) := by decide +kernel
theorem dX4_readLot_136 : decode cX4_readLot 136 = .ok (.iload_n 3, 1) := by decide +kernel
theorem dX4_readLot_137 : decode cX4_readLot 137 = .ok (.iload 5, 2) := by decide +kernel
theorem dX4_readLot_139 : decode cX4_readLot 139 = .ok (.iload 4, 2) := by decide +kernel
theorem dX4_readLot_141 : decode cX4_readLot 141 = .ok (.invokevirtual 49, 3) := by decide +kernel
theorem dX4_readLot_144 : decode cX4_readLot 144 = .ok (.aload_n 0, 1) := by decide +kernel
theorem dX4_readLot_145 : decode cX4_readLot 145 = .ok (.dup, 1) := by decide +kernel
theorem dX4_readLot_146 : decode cX4_readLot 146 = .ok (.getfield 22, 3) := by decide +kernel
theorem dX4_readLot_149 : decode cX4_readLot 149 = .ok (.iconst 1, 1) := by decide +kernel
theorem dX4_readLot_150 : decode cX4_readLot 150 = .ok (.iadd, 1) := by decide +kernel
theorem dX4_readLot_151 : decode cX4_readLot 151 = .ok (.putfield 22, 3) := by decide +kernel
theorem dX4_readLot_154 : decode cX4_readLot 154 = .ok (.iconst 1, 1) := by decide +kernel
theorem dX4_readLot_155 : decode cX4_readLot 155 = .ok (.ireturn, 1) := by decide +kernel
set_option maxRecDepth 20000 in
theorem ggX4_takes_X6_at : GoodIn wsX4_takes wsX6_at := goodIn_r _ [6, 7, 8, 9, 10, 11, 12, 13, 14, 18, 19, 20] (by decide +kernel) (by decide +kernel)
set_option maxRecDepth 20000 in
theorem gX4_takes_X6_at : GoodIn wsX4_takes (wsV RX4 42 RX6 yX6_at wsX6_at) := goodIn_app (goodIn_of _ (by decide +kernel)) ggX4_takes_X6_at
theorem dX4_takes_0 : decode cX4_takes 0 = .ok (.aload_n 1, 1) := by decide +kernel
theorem dX4_takes_1 : decode cX4_takes 1 = .ok (.aload_n 0, 1) := by decide +kernel
theorem dX4_takes_2 : decode cX4_takes 2 = .ok (.getfield 18, 3) := by decide +kernel
theorem dX4_takes_5 : decode cX4_takes 5 = .ok (.invokevirtual 42, 3) := by decide +kernel
theorem dX4_takes_8 : decode cX4_takes 8 = .ok (.iload_n 2, 1) := by decide +kernel
theorem dX4_takes_9 : decode cX4_takes 9 = .ok (.if_icmp .eq 5, 3) := by decide +kernel
theorem dX4_takes_12 : decode cX4_takes 12 = .ok (.iconst 0, 1) := by decide +kernel
theorem dX4_takes_13 : decode cX4_takes 13 = .ok (.ireturn, 1) := by decide +kernel
theorem dX4_takes_14 : decode cX4_takes 14 = .ok (.aload_n 0, 1) := by decide +kernel
theorem dX4_takes_15 : decode cX4_takes 15 = .ok (.dup, 1) := by decide +kernel
theorem dX4_takes_16 : decode cX4_takes 16 = .ok (.getfield 18, 3) := by decide +kernel
theorem dX4_takes_19 : decode cX4_takes 19 = .ok (.iconst 1, 1) := by decide +kernel
theorem dX4_takes_20 : decode cX4_takes 20 = .ok (.iadd, 1) := by decide +kernel
theorem dX4_takes_21 : decode cX4_takes 21 = .ok (.putfield 18, 3) := by decide +kernel
theorem dX4_takes_24 : decode cX4_takes 24 = .ok (.iconst 1, 1) := by decide +kernel
theorem dX4_takes_25 : decode cX4_takes 25 = .ok (.ireturn, 1) := by decide +kernel
theorem dX5_init_0 : decode cX5_init 0 = .ok (.aload_n 0, 1) := by decide +kernel
theorem dX5_init_1 : decode cX5_init 1 = .ok (.invokespecial 1, 3) := by decide +kernel
theorem dX5_init_4 : decode cX5_init 4 = .ok (.aload_n 0, 1) := by decide +kernel
theorem dX5_init_5 : decode cX5_init 5 = .ok (.iload_n 1, 1) := by decide +kernel
theorem dX5_init_6 : decode cX5_init 6 = .ok (.ifCond .ge 7, 3) := by decide +kernel
theorem dX5_init_9 : decode cX5_init 9 = .ok (.iconst 0, 1) := by decide +kernel
theorem dX5_init_10 : decode cX5_init 10 = .ok (.goto 4, 3) := by decide +kernel
theorem dX5_init_13 : decode cX5_init 13 = .ok (.iload_n 1, 1) := by decide +kernel
theorem dX5_init_14 : decode cX5_init 14 = .ok (.newarray .int, 2) := by decide +kernel
theorem dX5_init_16 : decode cX5_init 16 = .ok (.putfield 7, 3) := by decide +kernel
theorem dX5_init_19 : decode cX5_init 19 = .ok (.return_, 1) := by decide +kernel
theorem dX5_at_0 : decode cX5_at 0 = .ok (.iload_n 1, 1) := by decide +kernel
theorem dX5_at_1 : decode cX5_at 1 = .ok (.ifCond .lt 21, 3) := by decide +kernel
theorem dX5_at_4 : decode cX5_at 4 = .ok (.iload_n 1, 1) := by decide +kernel
theorem dX5_at_5 : decode cX5_at 5 = .ok (.aload_n 0, 1) := by decide +kernel
theorem dX5_at_6 : decode cX5_at 6 = .ok (.getfield 7, 3) := by decide +kernel
theorem dX5_at_9 : decode cX5_at 9 = .ok (.arraylength, 1) := by decide +kernel
theorem dX5_at_10 : decode cX5_at 10 = .ok (.if_icmp .ge 12, 3) := by decide +kernel
theorem dX5_at_13 : decode cX5_at 13 = .ok (.aload_n 0, 1) := by decide +kernel
theorem dX5_at_14 : decode cX5_at 14 = .ok (.getfield 7, 3) := by decide +kernel
theorem dX5_at_17 : decode cX5_at 17 = .ok (.iload_n 1, 1) := by decide +kernel
theorem dX5_at_18 : decode cX5_at 18 = .ok (.iaload, 1) := by decide +kernel
theorem dX5_at_19 : decode cX5_at 19 = .ok (.goto 4, 3) := by decide +kernel
theorem dX5_at_22 : decode cX5_at 22 = .ok (.iconst 0, 1) := by decide +kernel
theorem dX5_at_23 : decode cX5_at 23 = .ok (.ireturn, 1) := by decide +kernel
theorem dX5_put_0 : decode cX5_put 0 = .ok (.iload_n 1, 1) := by decide +kernel
theorem dX5_put_1 : decode cX5_put 1 = .ok (.ifCond .lt 19, 3) := by decide +kernel
theorem dX5_put_4 : decode cX5_put 4 = .ok (.iload_n 1, 1) := by decide +kernel
theorem dX5_put_5 : decode cX5_put 5 = .ok (.aload_n 0, 1) := by decide +kernel
theorem dX5_put_6 : decode cX5_put 6 = .ok (.getfield 7, 3) := by decide +kernel
theorem dX5_put_9 : decode cX5_put 9 = .ok (.arraylength, 1) := by decide +kernel
theorem dX5_put_10 : decode cX5_put 10 = .ok (.if_icmp .ge 10, 3) := by decide +kernel
theorem dX5_put_13 : decode cX5_put 13 = .ok (.aload_n 0, 1) := by decide +kernel
theorem dX5_put_14 : decode cX5_put 14 = .ok (.getfield 7, 3) := by decide +kernel
theorem dX5_put_17 : decode cX5_put 17 = .ok (.iload_n 1, 1) := by decide +kernel
theorem dX5_put_18 : decode cX5_put 18 = .ok (.iload_n 2, 1) := by decide +kernel
theorem dX5_put_19 : decode cX5_put 19 = .ok (.iastore, 1) := by decide +kernel
theorem dX5_put_20 : decode cX5_put 20 = .ok (.return_, 1) := by decide +kernel
set_option maxRecDepth 20000 in
theorem ggX5_copy_X5_at : GoodIn wsX5_copy wsX5_at := goodIn_r _ [5, 6, 11] (by decide +kernel) (by decide +kernel)
set_option maxRecDepth 20000 in
theorem gX5_copy_X5_at : GoodIn wsX5_copy (wsV RX5 13 RX5 yX5_at wsX5_at) := goodIn_app (goodIn_of _ (by decide +kernel)) ggX5_copy_X5_at
set_option maxRecDepth 20000 in
theorem ggX5_copy_X5_put : GoodIn wsX5_copy wsX5_put := goodIn_r _ [10, 6, 11] (by decide +kernel) (by decide +kernel)
set_option maxRecDepth 20000 in
theorem gX5_copy_X5_put : GoodIn wsX5_copy (wsV RX5 17 RX5 yX5_put wsX5_put) := goodIn_app (goodIn_of _ (by decide +kernel)) ggX5_copy_X5_put
theorem dX5_copy_0 : decode cX5_copy 0 = .ok (.iconst 0, 1) := by decide +kernel
theorem dX5_copy_1 : decode cX5_copy 1 = .ok (.istore 5, 2) := by decide +kernel
theorem dX5_copy_3 : decode cX5_copy 3 = .ok (.iload 5, 2) := by decide +kernel
theorem dX5_copy_5 : decode cX5_copy 5 = .ok (.iload 4, 2) := by decide +kernel
theorem dX5_copy_7 : decode cX5_copy 7 = .ok (.if_icmp .ge 25, 3) := by decide +kernel
theorem dX5_copy_10 : decode cX5_copy 10 = .ok (.aload_n 0, 1) := by decide +kernel
theorem dX5_copy_11 : decode cX5_copy 11 = .ok (.iload_n 1, 1) := by decide +kernel
theorem dX5_copy_12 : decode cX5_copy 12 = .ok (.iload 5, 2) := by decide +kernel
theorem dX5_copy_14 : decode cX5_copy 14 = .ok (.iadd, 1) := by decide +kernel
theorem dX5_copy_15 : decode cX5_copy 15 = .ok (.aload_n 2, 1) := by decide +kernel
theorem dX5_copy_16 : decode cX5_copy 16 = .ok (.iload_n 3, 1) := by decide +kernel
theorem dX5_copy_17 : decode cX5_copy 17 = .ok (.iload 5, 2) := by decide +kernel
theorem dX5_copy_19 : decode cX5_copy 19 = .ok (.iadd, 1) := by decide +kernel
theorem dX5_copy_20 : decode cX5_copy 20 = .ok (.invokevirtual 13, 3) := by decide +kernel
theorem dX5_copy_23 : decode cX5_copy 23 = .ok (.invokevirtual 17, 3) := by decide +kernel
theorem dX5_copy_26 : decode cX5_copy 26 = .ok (.iinc 5 1, 3) := by decide +kernel
theorem dX5_copy_29 : decode cX5_copy 29 = .ok (.goto (-26), 3) := by decide +kernel
theorem dX5_copy_32 : decode cX5_copy 32 = .ok (.return_, 1) := by decide +kernel
set_option maxRecDepth 20000 in
theorem ggX6_init_X5_init : GoodIn wsX6_init wsX5_init := goodIn_r _ [11, 12, 2, 3, 13, 14, 15] (by decide +kernel) (by decide +kernel)
set_option maxRecDepth 20000 in
theorem gX6_init_X5_init : GoodIn wsX6_init (wsX5_init) := ggX6_init_X5_init
theorem dX6_init_0 : decode cX6_init 0 = .ok (.aload_n 0, 1) := by decide +kernel
theorem dX6_init_1 : decode cX6_init 1 = .ok (.invokespecial 3, 3) := by decide +kernel
theorem dX6_init_4 : decode cX6_init 4 = .ok (.aload_n 0, 1) := by decide +kernel
theorem dX6_init_5 : decode cX6_init 5 = .ok (.new 9, 3) := by decide +kernel
theorem dX6_init_8 : decode cX6_init 8 = .ok (.dup, 1) := by decide +kernel
theorem dX6_init_9 : decode cX6_init 9 = .ok (.bipush 60, 2) := by decide +kernel
theorem dX6_init_11 : decode cX6_init 11 = .ok (.invokespecial 11, 3) := by decide +kernel
theorem dX6_init_14 : decode cX6_init 14 = .ok (.putfield 14, 3) := by decide +kernel
theorem dX6_init_17 : decode cX6_init 17 = .ok (.aload_n 0, 1) := by decide +kernel
theorem dX6_init_18 : decode cX6_init 18 = .ok (.iconst 0, 1) := by decide +kernel
theorem dX6_init_19 : decode cX6_init 19 = .ok (.putfield 20, 3) := by decide +kernel
theorem dX6_init_22 : decode cX6_init 22 = .ok (.return_, 1) := by decide +kernel
theorem dX6_length_0 : decode cX6_length 0 = .ok (.aload_n 0, 1) := by decide +kernel
theorem dX6_length_1 : decode cX6_length 1 = .ok (.getfield 20, 3) := by decide +kernel
theorem dX6_length_4 : decode cX6_length 4 = .ok (.ireturn, 1) := by decide +kernel
set_option maxRecDepth 20000 in
theorem ggX6_append_X5_put : GoodIn wsX6_append wsX5_put := goodIn_r _ [7, 8, 11] (by decide +kernel) (by decide +kernel)
set_option maxRecDepth 20000 in
theorem gX6_append_X5_put : GoodIn wsX6_append (wsV RX6 24 RX5 yX5_put wsX5_put) := goodIn_app (goodIn_of _ (by decide +kernel)) ggX6_append_X5_put
theorem dX6_append_0 : decode cX6_append 0 = .ok (.aload_n 0, 1) := by decide +kernel
theorem dX6_append_1 : decode cX6_append 1 = .ok (.getfield 14, 3) := by decide +kernel
theorem dX6_append_4 : decode cX6_append 4 = .ok (.aload_n 0, 1) := by decide +kernel
theorem dX6_append_5 : decode cX6_append 5 = .ok (.getfield 20, 3) := by decide +kernel
theorem dX6_append_8 : decode cX6_append 8 = .ok (.iload_n 1, 1) := by decide +kernel
theorem dX6_append_9 : decode cX6_append 9 = .ok (.invokevirtual 24, 3) := by decide +kernel
theorem dX6_append_12 : decode cX6_append 12 = .ok (.aload_n 0, 1) := by decide +kernel
theorem dX6_append_13 : decode cX6_append 13 = .ok (.dup, 1) := by decide +kernel
theorem dX6_append_14 : decode cX6_append 14 = .ok (.getfield 20, 3) := by decide +kernel
theorem dX6_append_17 : decode cX6_append 17 = .ok (.iconst 1, 1) := by decide +kernel
theorem dX6_append_18 : decode cX6_append 18 = .ok (.iadd, 1) := by decide +kernel
theorem dX6_append_19 : decode cX6_append 19 = .ok (.putfield 20, 3) := by decide +kernel
theorem dX6_append_22 : decode cX6_append 22 = .ok (.return_, 1) := by decide +kernel
theorem dX6_empty_0 : decode cX6_empty 0 = .ok (.aload_n 0, 1) := by decide +kernel
theorem dX6_empty_1 : decode cX6_empty 1 = .ok (.iconst 0, 1) := by decide +kernel
theorem dX6_empty_2 : decode cX6_empty 2 = .ok (.putfield 20, 3) := by decide +kernel
theorem dX6_empty_5 : decode cX6_empty 5 = .ok (.return_, 1) := by decide +kernel
set_option maxRecDepth 20000 in
theorem ggX6_at_X5_at : GoodIn wsX6_at wsX5_at := goodIn_r _ [7, 8, 11] (by decide +kernel) (by decide +kernel)
set_option maxRecDepth 20000 in
theorem gX6_at_X5_at : GoodIn wsX6_at (wsV RX6 28 RX5 yX5_at wsX5_at) := goodIn_app (goodIn_of _ (by decide +kernel)) ggX6_at_X5_at
theorem dX6_at_0 : decode cX6_at 0 = .ok (.iload_n 1, 1) := by decide +kernel
theorem dX6_at_1 : decode cX6_at 1 = .ok (.ifCond .lt 22, 3) := by decide +kernel
theorem dX6_at_4 : decode cX6_at 4 = .ok (.iload_n 1, 1) := by decide +kernel
theorem dX6_at_5 : decode cX6_at 5 = .ok (.aload_n 0, 1) := by decide +kernel
theorem dX6_at_6 : decode cX6_at 6 = .ok (.getfield 20, 3) := by decide +kernel
theorem dX6_at_9 : decode cX6_at 9 = .ok (.if_icmp .ge 14, 3) := by decide +kernel
theorem dX6_at_12 : decode cX6_at 12 = .ok (.aload_n 0, 1) := by decide +kernel
theorem dX6_at_13 : decode cX6_at 13 = .ok (.getfield 14, 3) := by decide +kernel
theorem dX6_at_16 : decode cX6_at 16 = .ok (.iload_n 1, 1) := by decide +kernel
theorem dX6_at_17 : decode cX6_at 17 = .ok (.invokevirtual 28, 3) := by decide +kernel
theorem dX6_at_20 : decode cX6_at 20 = .ok (.goto 4, 3) := by decide +kernel
theorem dX6_at_23 : decode cX6_at 23 = .ok (.iconst (-1), 1) := by decide +kernel
theorem dX6_at_24 : decode cX6_at 24 = .ok (.ireturn, 1) := by decide +kernel
set_option maxRecDepth 20000 in
theorem ggX7_init_X0_init : GoodIn wsX7_init wsX0_init := goodIn_r _ [33, 34, 2, 3, 35, 36, 37, 38, 39, 40, 41, 42, 43, 44, 45, 46, 47, 48, 127, 99] (by decide +kernel) (by decide +kernel)
set_option maxRecDepth 20000 in
theorem gX7_init_X0_init : GoodIn wsX7_init (wsX0_init) := ggX7_init_X0_init
set_option maxRecDepth 20000 in
theorem ggX7_init_X1_init : GoodIn wsX7_init wsX1_init := goodIn_r _ [51, 52, 2, 3, 53, 36, 37, 54, 55, 56, 40, 41, 42, 43, 44, 127, 109, 110] (by decide +kernel) (by decide +kernel)
set_option maxRecDepth 20000 in
theorem gX7_init_X1_init : GoodIn wsX7_init (wsX1_init) := ggX7_init_X1_init
set_option maxRecDepth 20000 in
theorem ggX7_init_X6_init : GoodIn wsX7_init wsX6_init := goodIn_r _ [59, 60, 2, 3, 61, 36, 37, 62, 63, 64, 40, 41, 42, 43, 44, 127, 111, 112] (by decide +kernel) (by decide +kernel)
set_option maxRecDepth 20000 in
theorem gX7_init_X6_init : GoodIn wsX7_init (wsX6_init) := ggX7_init_X6_init
set_option maxRecDepth 20000 in
theorem ggX7_init_X4_init : GoodIn wsX7_init wsX4_init := goodIn_r _ [67, 68, 2, 3, 69, 5, 6, 70, 71, 72, 73, 32, 33, 34, 35, 36, 37, 38, 39, 40, 41, 42, 43, 44, 45, 46, 47, 48, 99, 113, 114, 115, 127] (by decide +kernel) (by decide +kernel)
set_option maxRecDepth 20000 in
theorem gX7_init_X4_init : GoodIn wsX7_init (wsX4_init) := ggX7_init_X4_init
set_option maxRecDepth 20000 in
theorem ggX7_init_X2_init : GoodIn wsX7_init wsX2_init := goodIn_r _ [76, 77, 2, 3, 78, 36, 37, 79, 80, 81, 82, 83, 84, 85, 86, 40, 41, 42, 43, 44, 127, 116, 117, 118, 119, 120, 121, 122] (by decide +kernel) (by decide +kernel)
set_option maxRecDepth 20000 in
theorem gX7_init_X2_init : GoodIn wsX7_init (wsX2_init) := ggX7_init_X2_init
set_option maxRecDepth 20000 in
theorem ggX7_init_X3_init : GoodIn wsX7_init wsX3_init := goodIn_r _ [89, 90, 2, 3, 91, 5, 6, 92, 93, 36, 37, 94, 95, 96, 97, 32, 33, 34, 35, 38, 39, 40, 41, 42, 43, 44, 45, 46, 47, 48, 98, 99, 123, 124, 125, 126, 127] (by decide +kernel) (by decide +kernel)
set_option maxRecDepth 20000 in
theorem gX7_init_X3_init : GoodIn wsX7_init (wsX3_init) := ggX7_init_X3_init
theorem dX7_init_0 : decode cX7_init 0 = .ok (.aload_n 0, 1) := by decide +kernel
theorem dX7_init_1 : decode cX7_init 1 = .ok (.invokespecial 1, 3) := by decide +kernel
theorem dX7_init_4 : decode cX7_init 4 = .ok (.aload_n 0, 1) := by decide +kernel
theorem dX7_init_5 : decode cX7_init 5 = .ok (.new 7, 3) := by decide +kernel
theorem dX7_init_8 : decode cX7_init 8 = .ok (.dup, 1) := by decide +kernel
theorem dX7_init_9 : decode cX7_init 9 = .ok (.invokespecial 9, 3) := by decide +kernel
theorem dX7_init_12 : decode cX7_init 12 = .ok (.putfield 10, 3) := by decide +kernel
theorem dX7_init_15 : decode cX7_init 15 = .ok (.aload_n 0, 1) := by decide +kernel
theorem dX7_init_16 : decode cX7_init 16 = .ok (.new 7, 3) := by decide +kernel
theorem dX7_init_19 : decode cX7_init 19 = .ok (.dup, 1) := by decide +kernel
theorem dX7_init_20 : decode cX7_init 20 = .ok (.invokespecial 9, 3) := by decide +kernel
theorem dX7_init_23 : decode cX7_init 23 = .ok (.putfield 16, 3) := by decide +kernel
theorem dX7_init_26 : decode cX7_init 26 = .ok (.aload_n 0, 1) := by decide +kernel
theorem dX7_init_27 : decode cX7_init 27 = .ok (.new 7, 3) := by decide +kernel
theorem dX7_init_30 : decode cX7_init 30 = .ok (.dup, 1) := by decide +kernel
theorem dX7_init_31 : decode cX7_init 31 = .ok (.invokespecial 9, 3) := by decide +kernel
theorem dX7_init_34 : decode cX7_init 34 = .ok (.putfield 19, 3) := by decide +kernel
theorem dX7_init_37 : decode cX7_init 37 = .ok (.aload_n 0, 1) := by decide +kernel
theorem dX7_init_38 : decode cX7_init 38 = .ok (.iconst 0, 1) := by decide +kernel
theorem dX7_init_39 : decode cX7_init 39 = .ok (.putfield 22, 3) := by decide +kernel
theorem dX7_init_42 : decode cX7_init 42 = .ok (.aload_n 0, 1) := by decide +kernel
theorem dX7_init_43 : decode cX7_init 43 = .ok (.new 26, 3) := by decide +kernel
theorem dX7_init_46 : decode cX7_init 46 = .ok (.dup, 1) := by decide +kernel
theorem dX7_init_47 : decode cX7_init 47 = .ok (.invokespecial 28, 3) := by decide +kernel
theorem dX7_init_50 : decode cX7_init 50 = .ok (.putfield 29, 3) := by decide +kernel
theorem dX7_init_53 : decode cX7_init 53 = .ok (.aload_n 0, 1) := by decide +kernel
theorem dX7_init_54 : decode cX7_init 54 = .ok (.new 33, 3) := by decide +kernel
theorem dX7_init_57 : decode cX7_init 57 = .ok (.dup, 1) := by decide +kernel
theorem dX7_init_58 : decode cX7_init 58 = .ok (.invokespecial 35, 3) := by decide +kernel
theorem dX7_init_61 : decode cX7_init 61 = .ok (.putfield 36, 3) := by decide +kernel
theorem dX7_init_64 : decode cX7_init 64 = .ok (.aload_n 0, 1) := by decide +kernel
theorem dX7_init_65 : decode cX7_init 65 = .ok (.new 40, 3) := by decide +kernel
theorem dX7_init_68 : decode cX7_init 68 = .ok (.dup, 1) := by decide +kernel
theorem dX7_init_69 : decode cX7_init 69 = .ok (.invokespecial 42, 3) := by decide +kernel
theorem dX7_init_72 : decode cX7_init 72 = .ok (.putfield 43, 3) := by decide +kernel
theorem dX7_init_75 : decode cX7_init 75 = .ok (.aload_n 0, 1) := by decide +kernel
theorem dX7_init_76 : decode cX7_init 76 = .ok (.new 47, 3) := by decide +kernel
theorem dX7_init_79 : decode cX7_init 79 = .ok (.dup, 1) := by decide +kernel
theorem dX7_init_80 : decode cX7_init 80 = .ok (.invokespecial 49, 3) := by decide +kernel
theorem dX7_init_83 : decode cX7_init 83 = .ok (.putfield 50, 3) := by decide +kernel
theorem dX7_init_86 : decode cX7_init 86 = .ok (.aload_n 0, 1) := by decide +kernel
theorem dX7_init_87 : decode cX7_init 87 = .ok (.new 54, 3) := by decide +kernel
theorem dX7_init_90 : decode cX7_init 90 = .ok (.dup, 1) := by decide +kernel
theorem dX7_init_91 : decode cX7_init 91 = .ok (.invokespecial 56, 3) := by decide +kernel
theorem dX7_init_94 : decode cX7_init 94 = .ok (.putfield 57, 3) := by decide +kernel
theorem dX7_init_97 : decode cX7_init 97 = .ok (.return_, 1) := by decide +kernel
set_option maxRecDepth 20000 in
theorem ggX7_add_X7_isText : GoodIn wsX7_add wsX7_isText := goodIn_r _ [6] (by decide +kernel) (by decide +kernel)
set_option maxRecDepth 20000 in
theorem gX7_add_X7_isText : GoodIn wsX7_add (va_wsS RX7 61 yX7_isText wsX7_isText) := goodIn_app (goodIn_of _ (by decide +kernel)) ggX7_add_X7_isText
set_option maxRecDepth 20000 in
theorem ggX7_add_X7_isPlate : GoodIn wsX7_add wsX7_isPlate := goodIn_r _ [9] (by decide +kernel) (by decide +kernel)
set_option maxRecDepth 20000 in
theorem gX7_add_X7_isPlate : GoodIn wsX7_add (va_wsS RX7 65 yX7_isPlate wsX7_isPlate) := goodIn_app (goodIn_of _ (by decide +kernel)) ggX7_add_X7_isPlate
set_option maxRecDepth 20000 in
theorem ggX7_add_X0_lots : GoodIn wsX7_add wsX0_lots := goodIn_r _ [14, 15, 16, 17, 18, 19, 20, 21, 66, 67] (by decide +kernel) (by decide +kernel)
set_option maxRecDepth 20000 in
theorem gX7_add_X0_lots : GoodIn wsX7_add (wsV RX7 68 RX0 yX0_lots wsX0_lots) := goodIn_app (goodIn_of _ (by decide +kernel)) ggX7_add_X0_lots
set_option maxRecDepth 20000 in
theorem ggX7_add_X1_record : GoodIn wsX7_add wsX1_record := goodIn_r _ [26, 27, 28, 29, 30, 31, 19, 32, 33, 17, 18, 20, 21, 34, 35, 36, 37, 38, 39, 40, 13, 41, 15, 42, 68, 69, 67, 66] (by decide +kernel) (by decide +kernel)
set_option maxRecDepth 20000 in
theorem gX7_add_X1_record : GoodIn wsX7_add (wsV RX7 72 RX1 yX1_record wsX1_record) := goodIn_app (goodIn_of _ (by decide +kernel)) ggX7_add_X1_record
set_option maxRecDepth 20000 in
theorem ggX7_add_X0_append : GoodIn wsX7_add wsX0_append := goodIn_r _ [46, 15, 47, 11, 12, 13, 14, 16, 17, 18, 19, 20, 21, 48, 49, 50, 51, 52, 35, 36, 37, 53, 54, 55, 56, 66, 67] (by decide +kernel) (by decide +kernel)
set_option maxRecDepth 20000 in
theorem gX7_add_X0_append : GoodIn wsX7_add (wsV RX7 76 RX0 yX0_append wsX0_append) := goodIn_app (goodIn_of _ (by decide +kernel)) ggX7_add_X0_append
theorem dX7_add_0 : decode cX7_add 0 = .ok (.iload_n 1, 1) := by decide +kernel
theorem dX7_add_1 : decode cX7_add 1 = .ok (.invokestatic 61, 3) := by decide +kernel
theorem dX7_add_4 : decode cX7_add 4 = .ok (.ifCond .eq 10, 3) := by decide +kernel
theorem dX7_add_7 : decode cX7_add 7 = .ok (.iload_n 2, 1) := by decide +kernel
theorem dX7_add_8 : decode cX7_add 8 = .ok (.invokestatic 65, 3) := by decide +kernel
theorem dX7_add_11 : decode cX7_add 11 = .ok (.ifCond .ne 6, 3) := by decide +kernel
theorem dX7_add_14 : decode cX7_add 14 = .ok (.bipush (-2), 2) := by decide +kernel
theorem dX7_add_16 : decode cX7_add 16 = .ok (.ireturn, 1) := by decide +kernel
theorem dX7_add_17 : decode cX7_add 17 = .ok (.aload_n 0, 1) := by decide +kernel
theorem dX7_add_18 : decode cX7_add 18 = .ok (.getfield 10, 3) := by decide +kernel
theorem dX7_add_21 : decode cX7_add 21 = .ok (.invokevirtual 68, 3) := by decide +kernel
theorem dX7_add_24 : decode cX7_add 24 = .ok (.bipush 12, 2) := by decide +kernel
theorem dX7_add_26 : decode cX7_add 26 = .ok (.if_icmp .lt 6, 3) := by decide +kernel
theorem dX7_add_29 : decode cX7_add 29 = .ok (.bipush (-3), 2) := by decide +kernel
theorem dX7_add_31 : decode cX7_add 31 = .ok (.ireturn, 1) := by decide +kernel
theorem dX7_add_32 : decode cX7_add 32 = .ok (.aload_n 0, 1) := by decide +kernel
theorem dX7_add_33 : decode cX7_add 33 = .ok (.getfield 29, 3) := by decide +kernel
theorem dX7_add_36 : decode cX7_add 36 = .ok (.aload_n 0, 1) := by decide +kernel
theorem dX7_add_37 : decode cX7_add 37 = .ok (.getfield 10, 3) := by decide +kernel
theorem dX7_add_40 : decode cX7_add 40 = .ok (.invokevirtual 72, 3) := by decide +kernel
theorem dX7_add_43 : decode cX7_add 43 = .ok (.aload_n 0, 1) := by decide +kernel
theorem dX7_add_44 : decode cX7_add 44 = .ok (.getfield 10, 3) := by decide +kernel
theorem dX7_add_47 : decode cX7_add 47 = .ok (.iload_n 1, 1) := by decide +kernel
theorem dX7_add_48 : decode cX7_add 48 = .ok (.iload_n 2, 1) := by decide +kernel
theorem dX7_add_49 : decode cX7_add 49 = .ok (.iconst 0, 1) := by decide +kernel
theorem dX7_add_50 : decode cX7_add 50 = .ok (.iconst 0, 1) := by decide +kernel
theorem dX7_add_51 : decode cX7_add 51 = .ok (.invokevirtual 76, 3) := by decide +kernel
theorem dX7_add_54 : decode cX7_add 54 = .ok (.aload_n 0, 1) := by decide +kernel
theorem dX7_add_55 : decode cX7_add 55 = .ok (.getfield 10, 3) := by decide +kernel
theorem dX7_add_58 : decode cX7_add 58 = .ok (.invokevirtual 68, 3) := by decide +kernel
theorem dX7_add_61 : decode cX7_add 61 = .ok (.iconst 1, 1) := by decide +kernel
theorem dX7_add_62 : decode cX7_add 62 = .ok (.isub, 1) := by decide +kernel
theorem dX7_add_63 : decode cX7_add 63 = .ok (.ireturn, 1) := by decide +kernel
set_option maxRecDepth 20000 in
theorem ggX7_load_X4_faultOf : GoodIn wsX7_load wsX4_faultOf := goodIn_r _ [9, 10, 11, 12, 13, 14, 15, 16, 17, 18, 19, 20, 21, 22, 23, 24, 25, 26, 27, 8, 28, 29, 30, 31, 32, 33, 34, 35, 36, 37, 38, 39, 40, 41, 42, 43, 44, 45, 46, 47, 48, 49, 50, 51, 52, 53, 54, 55, 56, 57, 58, 59, 60, 61, 62, 63, 64, 65, 66, 67, 108, 109, 110, 111, 112, 113, 114] (by decide +kernel) (by decide +kernel)
set_option maxRecDepth 20000 in
theorem gX7_load_X4_faultOf : GoodIn wsX7_load (wsV RX7 80 RX4 yX4_faultOf wsX4_faultOf) := goodIn_app (goodIn_of _ (by decide +kernel)) ggX7_load_X4_faultOf
set_option maxRecDepth 20000 in
theorem ggX7_load_X4_lotsRead : GoodIn wsX7_load wsX4_lotsRead := goodIn_r _ [71, 11, 108, 109, 110] (by decide +kernel) (by decide +kernel)
set_option maxRecDepth 20000 in
theorem gX7_load_X4_lotsRead : GoodIn wsX7_load (wsV RX7 84 RX4 yX4_lotsRead wsX4_lotsRead) := goodIn_app (goodIn_of _ (by decide +kernel)) ggX7_load_X4_lotsRead
set_option maxRecDepth 20000 in
theorem ggX7_load_X1_record : GoodIn wsX7_load wsX1_record := goodIn_r _ [76, 77, 78, 79, 80, 81, 22, 82, 83, 37, 38, 39, 24, 84, 20, 21, 23, 85, 86, 87, 16, 88, 18, 89, 115, 116, 112, 111] (by decide +kernel) (by decide +kernel)
set_option maxRecDepth 20000 in
theorem gX7_load_X1_record : GoodIn wsX7_load (wsV RX7 72 RX1 yX1_record wsX1_record) := goodIn_app (goodIn_of _ (by decide +kernel)) ggX7_load_X1_record
set_option maxRecDepth 20000 in
theorem ggX7_load_X4_catalogue : GoodIn wsX7_load wsX4_catalogue := goodIn_r _ [93, 10, 108, 109, 110] (by decide +kernel) (by decide +kernel)
set_option maxRecDepth 20000 in
theorem gX7_load_X4_catalogue : GoodIn wsX7_load (wsV RX7 87 RX4 yX4_catalogue wsX4_catalogue) := goodIn_app (goodIn_of _ (by decide +kernel)) ggX7_load_X4_catalogue
set_option maxRecDepth 20000 in
theorem ggX7_load_X0_takeLots : GoodIn wsX7_load wsX0_takeLots := goodIn_r _ [97, 18, 89, 80, 81, 22, 82, 83, 37, 38, 39, 24, 84, 20, 21, 23, 111, 112] (by decide +kernel) (by decide +kernel)
set_option maxRecDepth 20000 in
theorem gX7_load_X0_takeLots : GoodIn wsX7_load (wsV RX7 91 RX0 yX0_takeLots wsX0_takeLots) := goodIn_app (goodIn_of _ (by decide +kernel)) ggX7_load_X0_takeLots
set_option maxRecDepth 20000 in
theorem ggX7_load_X0_lots : GoodIn wsX7_load wsX0_lots := goodIn_r _ [54, 18, 55, 37, 38, 22, 39, 24, 111, 112] (by decide +kernel) (by decide +kernel)
set_option maxRecDepth 20000 in
theorem gX7_load_X0_lots : GoodIn wsX7_load (wsV RX7 68 RX0 yX0_lots wsX0_lots) := goodIn_app (goodIn_of _ (by decide +kernel)) ggX7_load_X0_lots
theorem dX7_load_0 : decode cX7_load 0 = .ok (.aload_n 0, 1) := by decide +kernel
theorem dX7_load_1 : decode cX7_load 1 = .ok (.getfield 43, 3) := by decide +kernel
theorem dX7_load_4 : decode cX7_load 4 = .ok (.aload_n 0, 1) := by decide +kernel
theorem dX7_load_5 : decode cX7_load 5 = .ok (.getfield 36, 3) := by decide +kernel
theorem dX7_load_8 : decode cX7_load 8 = .ok (.invokevirtual 80, 3) := by decide +kernel
theorem dX7_load_11 : decode cX7_load 11 = .ok (.istore_n 1, 1) := by decide +kernel
theorem dX7_load_12 : decode cX7_load 12 = .ok (.iload_n 1, 1) := by decide +kernel
theorem dX7_load_13 : decode cX7_load 13 = .ok (.iconst (-1), 1) := by decide +kernel
theorem dX7_load_14 : decode cX7_load 14 = .ok (.if_icmp .eq 8, 3) := by decide +kernel
theorem dX7_load_17 : decode cX7_load 17 = .ok (.bipush (-100), 2) := by decide +kernel
theorem dX7_load_19 : decode cX7_load 19 = .ok (.iload_n 1, 1) := by decide +kernel
theorem dX7_load_20 : decode cX7_load 20 = .ok (.isub, 1) := by decide +kernel
theorem dX7_load_21 : decode cX7_load 21 = .ok (.ireturn, 1) := by decide +kernel
theorem dX7_load_22 : decode cX7_load 22 = .ok (.aload_n 0, 1) := by decide +kernel
theorem dX7_load_23 : decode cX7_load 23 = .ok (.getfield 43, 3) := by decide +kernel
theorem dX7_load_26 : decode cX7_load 26 = .ok (.invokevirtual 84, 3) := by decide +kernel
theorem dX7_load_29 : decode cX7_load 29 = .ok (.bipush 12, 2) := by decide +kernel
theorem dX7_load_31 : decode cX7_load 31 = .ok (.if_icmp .le 6, 3) := by decide +kernel
theorem dX7_load_34 : decode cX7_load 34 = .ok (.bipush (-3), 2) := by decide +kernel
theorem dX7_load_36 : decode cX7_load 36 = .ok (.ireturn, 1) := by decide +kernel
theorem dX7_load_37 : decode cX7_load 37 = .ok (.aload_n 0, 1) := by decide +kernel
theorem dX7_load_38 : decode cX7_load 38 = .ok (.getfield 29, 3) := by decide +kernel
theorem dX7_load_41 : decode cX7_load 41 = .ok (.aload_n 0, 1) := by decide +kernel
theorem dX7_load_42 : decode cX7_load 42 = .ok (.getfield 10, 3) := by decide +kernel
theorem dX7_load_45 : decode cX7_load 45 = .ok (.invokevirtual 72, 3) := by decide +kernel
theorem dX7_load_48 : decode cX7_load 48 = .ok (.aload_n 0, 1) := by decide +kernel
theorem dX7_load_49 : decode cX7_load 49 = .ok (.getfield 10, 3) := by decide +kernel
theorem dX7_load_52 : decode cX7_load 52 = .ok (.aload_n 0, 1) := by decide +kernel
theorem dX7_load_53 : decode cX7_load 53 = .ok (.getfield 43, 3) := by decide +kernel
theorem dX7_load_56 : decode cX7_load 56 = .ok (.invokevirtual 87, 3) := by decide +kernel
theorem dX7_load_59 : decode cX7_load 59 = .ok (.invokevirtual 91, 3) := by decide +kernel
theorem dX7_load_62 : decode cX7_load 62 = .ok (.aload_n 0, 1) := by decide +kernel
theorem dX7_load_63 : decode cX7_load 63 = .ok (.getfield 10, 3) := by decide +kernel
theorem dX7_load_66 : decode cX7_load 66 = .ok (.invokevirtual 68, 3) := by decide +kernel
theorem dX7_load_69 : decode cX7_load 69 = .ok (.ireturn, 1) := by decide +kernel
set_option maxRecDepth 20000 in
theorem ggX7_remove_X0_has : GoodIn wsX7_remove wsX0_has := goodIn_r _ [7, 8, 9, 10, 6, 11, 12, 13, 14, 15, 16, 17, 18, 87, 88] (by decide +kernel) (by decide +kernel)
set_option maxRecDepth 20000 in
theorem gX7_remove_X0_has : GoodIn wsX7_remove (wsV RX7 94 RX0 yX0_has wsX0_has) := goodIn_app (goodIn_of _ (by decide +kernel)) ggX7_remove_X0_has
set_option maxRecDepth 20000 in
theorem ggX7_remove_X1_record : GoodIn wsX7_remove wsX1_record := goodIn_r _ [23, 24, 25, 26, 27, 28, 16, 29, 30, 14, 15, 17, 18, 31, 32, 33, 34, 35, 36, 37, 6, 38, 12, 39, 89, 90, 88, 87] (by decide +kernel) (by decide +kernel)
set_option maxRecDepth 20000 in
theorem gX7_remove_X1_record : GoodIn wsX7_remove (wsV RX7 72 RX1 yX1_record wsX1_record) := goodIn_app (goodIn_of _ (by decide +kernel)) ggX7_remove_X1_record
set_option maxRecDepth 20000 in
theorem ggX7_remove_X0_drop : GoodIn wsX7_remove wsX0_drop := goodIn_r _ [43, 12, 8, 9, 10, 6, 11, 13, 14, 15, 16, 17, 18, 44, 45, 46, 47, 48, 49, 50, 51, 52, 53, 54, 55, 56, 57, 58, 59, 60, 61, 62, 63, 64, 65, 66, 67, 68, 69, 70, 71, 72, 32, 33, 34, 73, 74, 75, 76, 87, 88] (by decide +kernel) (by decide +kernel)
set_option maxRecDepth 20000 in
theorem gX7_remove_X0_drop : GoodIn wsX7_remove (wsV RX7 97 RX0 yX0_drop wsX0_drop) := goodIn_app (goodIn_of _ (by decide +kernel)) ggX7_remove_X0_drop
set_option maxRecDepth 20000 in
theorem ggX7_remove_X0_lots : GoodIn wsX7_remove wsX0_lots := goodIn_r _ [11, 12, 13, 14, 15, 16, 17, 18, 87, 88] (by decide +kernel) (by decide +kernel)
set_option maxRecDepth 20000 in
theorem gX7_remove_X0_lots : GoodIn wsX7_remove (wsV RX7 68 RX0 yX0_lots wsX0_lots) := goodIn_app (goodIn_of _ (by decide +kernel)) ggX7_remove_X0_lots
theorem dX7_remove_0 : decode cX7_remove 0 = .ok (.aload_n 0, 1) := by decide +kernel
theorem dX7_remove_1 : decode cX7_remove 1 = .ok (.getfield 10, 3) := by decide +kernel
theorem dX7_remove_4 : decode cX7_remove 4 = .ok (.iload_n 1, 1) := by decide +kernel
theorem dX7_remove_5 : decode cX7_remove 5 = .ok (.invokevirtual 94, 3) := by decide +kernel
theorem dX7_remove_8 : decode cX7_remove 8 = .ok (.ifCond .ne 5, 3) := by decide +kernel
theorem dX7_remove_11 : decode cX7_remove 11 = .ok (.iconst (-1), 1) := by decide +kernel
theorem dX7_remove_12 : decode cX7_remove 12 = .ok (.ireturn, 1) := by decide +kernel
theorem dX7_remove_13 : decode cX7_remove 13 = .ok (.aload_n 0, 1) := by decide +kernel
theorem dX7_remove_14 : decode cX7_remove 14 = .ok (.getfield 29, 3) := by decide +kernel
theorem dX7_remove_17 : decode cX7_remove 17 = .ok (.aload_n 0, 1) := by decide +kernel
theorem dX7_remove_18 : decode cX7_remove 18 = .ok (.getfield 10, 3) := by decide +kernel
theorem dX7_remove_21 : decode cX7_remove 21 = .ok (.invokevirtual 72, 3) := by decide +kernel
theorem dX7_remove_24 : decode cX7_remove 24 = .ok (.aload_n 0, 1) := by decide +kernel
theorem dX7_remove_25 : decode cX7_remove 25 = .ok (.getfield 10, 3) := by decide +kernel
theorem dX7_remove_28 : decode cX7_remove 28 = .ok (.iload_n 1, 1) := by decide +kernel
theorem dX7_remove_29 : decode cX7_remove 29 = .ok (.invokevirtual 97, 3) := by decide +kernel
theorem dX7_remove_32 : decode cX7_remove 32 = .ok (.aload_n 0, 1) := by decide +kernel
theorem dX7_remove_33 : decode cX7_remove 33 = .ok (.getfield 10, 3) := by decide +kernel
theorem dX7_remove_36 : decode cX7_remove 36 = .ok (.invokevirtual 68, 3) := by decide +kernel
theorem dX7_remove_39 : decode cX7_remove 39 = .ok (.ireturn, 1) := by decide +kernel
set_option maxRecDepth 20000 in
theorem ggX7_change_X0_has : GoodIn wsX7_change wsX0_has := goodIn_r _ [11, 12, 13, 14, 10, 15, 16, 17, 18, 19, 20, 21, 22, 96, 97] (by decide +kernel) (by decide +kernel)
set_option maxRecDepth 20000 in
theorem gX7_change_X0_has : GoodIn wsX7_change (wsV RX7 94 RX0 yX0_has wsX0_has) := goodIn_app (goodIn_of _ (by decide +kernel)) ggX7_change_X0_has
set_option maxRecDepth 20000 in
theorem ggX7_change_X7_isText : GoodIn wsX7_change wsX7_isText := goodIn_r _ [26] (by decide +kernel) (by decide +kernel)
set_option maxRecDepth 20000 in
theorem gX7_change_X7_isText : GoodIn wsX7_change (va_wsS RX7 61 yX7_isText wsX7_isText) := goodIn_app (goodIn_of _ (by decide +kernel)) ggX7_change_X7_isText
set_option maxRecDepth 20000 in
theorem ggX7_change_X7_isPlate : GoodIn wsX7_change wsX7_isPlate := goodIn_r _ [29] (by decide +kernel) (by decide +kernel)
set_option maxRecDepth 20000 in
theorem gX7_change_X7_isPlate : GoodIn wsX7_change (va_wsS RX7 65 yX7_isPlate wsX7_isPlate) := goodIn_app (goodIn_of _ (by decide +kernel)) ggX7_change_X7_isPlate
set_option maxRecDepth 20000 in
theorem ggX7_change_X0_text : GoodIn wsX7_change wsX0_text := goodIn_r _ [33, 16, 17, 18, 19, 20, 21, 22, 96, 97] (by decide +kernel) (by decide +kernel)
set_option maxRecDepth 20000 in
theorem gX7_change_X0_text : GoodIn wsX7_change (wsV RX7 101 RX0 yX0_text wsX0_text) := goodIn_app (goodIn_of _ (by decide +kernel)) ggX7_change_X0_text
set_option maxRecDepth 20000 in
theorem ggX7_change_X0_plate : GoodIn wsX7_change wsX0_plate := goodIn_r _ [37, 16, 17, 18, 19, 20, 21, 22, 96, 97] (by decide +kernel) (by decide +kernel)
set_option maxRecDepth 20000 in
theorem gX7_change_X0_plate : GoodIn wsX7_change (wsV RX7 105 RX0 yX0_plate wsX0_plate) := goodIn_app (goodIn_of _ (by decide +kernel)) ggX7_change_X0_plate
set_option maxRecDepth 20000 in
theorem ggX7_change_X1_record : GoodIn wsX7_change wsX1_record := goodIn_r _ [42, 43, 44, 45, 46, 47, 20, 48, 49, 18, 19, 21, 22, 50, 51, 52, 53, 54, 55, 56, 10, 57, 16, 58, 98, 99, 97, 96] (by decide +kernel) (by decide +kernel)
set_option maxRecDepth 20000 in
theorem gX7_change_X1_record : GoodIn wsX7_change (wsV RX7 72 RX1 yX1_record wsX1_record) := goodIn_app (goodIn_of _ (by decide +kernel)) ggX7_change_X1_record
set_option maxRecDepth 20000 in
theorem ggX7_change_X0_place : GoodIn wsX7_change wsX0_place := goodIn_r _ [62, 16, 17, 18, 19, 20, 21, 22, 96, 97] (by decide +kernel) (by decide +kernel)
set_option maxRecDepth 20000 in
theorem gX7_change_X0_place : GoodIn wsX7_change (wsV RX7 108 RX0 yX0_place wsX0_place) := goodIn_app (goodIn_of _ (by decide +kernel)) ggX7_change_X0_place
set_option maxRecDepth 20000 in
theorem ggX7_change_X0_blank : GoodIn wsX7_change wsX0_blank := goodIn_r _ [66, 16, 17, 18, 19, 20, 21, 22, 96, 97] (by decide +kernel) (by decide +kernel)
set_option maxRecDepth 20000 in
theorem gX7_change_X0_blank : GoodIn wsX7_change (wsV RX7 117 RX0 yX0_blank wsX0_blank) := goodIn_app (goodIn_of _ (by decide +kernel)) ggX7_change_X0_blank
set_option maxRecDepth 20000 in
theorem ggX7_change_X0_putLot : GoodIn wsX7_change wsX0_putLot := goodIn_r _ [70, 16, 71, 51, 52, 20, 53, 22, 72, 73, 74, 10, 75, 96, 97] (by decide +kernel) (by decide +kernel)
set_option maxRecDepth 20000 in
theorem gX7_change_X0_putLot : GoodIn wsX7_change (wsV RX7 120 RX0 yX0_putLot wsX0_putLot) := goodIn_app (goodIn_of _ (by decide +kernel)) ggX7_change_X0_putLot
set_option maxRecDepth 20000 in
theorem ggX7_change_X0_pages : GoodIn wsX7_change wsX0_pages := goodIn_r _ [79, 12, 13, 14, 10, 15, 16, 17, 18, 19, 20, 21, 22, 80, 64, 65, 66, 81, 82, 83, 84, 85, 31, 32, 33, 86, 35, 36, 37, 96, 97] (by decide +kernel) (by decide +kernel)
set_option maxRecDepth 20000 in
theorem gX7_change_X0_pages : GoodIn wsX7_change (wsV RX7 124 RX0 yX0_pages wsX0_pages) := goodIn_app (goodIn_of _ (by decide +kernel)) ggX7_change_X0_pages
theorem dX7_change_0 : decode cX7_change 0 = .ok (.aload_n 0, 1) := by decide +kernel
theorem dX7_change_1 : decode cX7_change 1 = .ok (.getfield 10, 3) := by decide +kernel
theorem dX7_change_4 : decode cX7_change 4 = .ok (.iload_n 1, 1) := by decide +kernel
theorem dX7_change_5 : decode cX7_change 5 = .ok (.invokevirtual 94, 3) := by decide +kernel
theorem dX7_change_8 : decode cX7_change 8 = .ok (.ifCond .ne 5, 3) := by decide +kernel
theorem dX7_change_11 : decode cX7_change 11 = .ok (.iconst (-1), 1) := by decide +kernel
theorem dX7_change_12 : decode cX7_change 12 = .ok (.ireturn, 1) := by decide +kernel
theorem dX7_change_13 : decode cX7_change 13 = .ok (.iload_n 2, 1) := by decide +kernel
theorem dX7_change_14 : decode cX7_change 14 = .ok (.invokestatic 61, 3) := by decide +kernel
theorem dX7_change_17 : decode cX7_change 17 = .ok (.ifCond .eq 10, 3) := by decide +kernel
theorem dX7_change_20 : decode cX7_change 20 = .ok (.iload_n 3, 1) := by decide +kernel
theorem dX7_change_21 : decode cX7_change 21 = .ok (.invokestatic 65, 3) := by decide +kernel
theorem dX7_change_24 : decode cX7_change 24 = .ok (.ifCond .ne 6, 3) := by decide +kernel
theorem dX7_change_27 : decode cX7_change 27 = .ok (.bipush (-2), 2) := by decide +kernel
theorem dX7_change_29 : decode cX7_change 29 = .ok (.ireturn, 1) := by decide +kernel
theorem dX7_change_30 : decode cX7_change 30 = .ok (.aload_n 0, 1) := by decide +kernel
theorem dX7_change_31 : decode cX7_change 31 = .ok (.getfield 10, 3) := by decide +kernel
theorem dX7_change_34 : decode cX7_change 34 = .ok (.iload_n 1, 1) := by decide +kernel
theorem dX7_change_35 : decode cX7_change 35 = .ok (.invokevirtual 101, 3) := by decide +kernel
theorem dX7_change_38 : decode cX7_change 38 = .ok (.iload_n 2, 1) := by decide +kernel
theorem dX7_change_39 : decode cX7_change 39 = .ok (.if_icmp .ne 18, 3) := by decide +kernel
theorem dX7_change_42 : decode cX7_change 42 = .ok (.aload_n 0, 1) := by decide +kernel
theorem dX7_change_43 : decode cX7_change 43 = .ok (.getfield 10, 3) := by decide +kernel
theorem dX7_change_46 : decode cX7_change 46 = .ok (.iload_n 1, 1) := by decide +kernel
theorem dX7_change_47 : decode cX7_change 47 = .ok (.invokevirtual 105, 3) := by decide +kernel
theorem dX7_change_50 : decode cX7_change 50 = .ok (.iload_n 3, 1) := by decide +kernel
theorem dX7_change_51 : decode cX7_change 51 = .ok (.if_icmp .ne 6, 3) := by decide +kernel
theorem dX7_change_54 : decode cX7_change 54 = .ok (.bipush (-5), 2) := by decide +kernel
theorem dX7_change_56 : decode cX7_change 56 = .ok (.ireturn, 1) := by decide +kernel
theorem dX7_change_57 : decode cX7_change 57 = .ok (.aload_n 0, 1) := by decide +kernel
theorem dX7_change_58 : decode cX7_change 58 = .ok (.getfield 29, 3) := by decide +kernel
theorem dX7_change_61 : decode cX7_change 61 = .ok (.aload_n 0, 1) := by decide +kernel
theorem dX7_change_62 : decode cX7_change 62 = .ok (.getfield 10, 3) := by decide +kernel
theorem dX7_change_65 : decode cX7_change 65 = .ok (.invokevirtual 72, 3) := by decide +kernel
theorem dX7_change_68 : decode cX7_change 68 = .ok (.iload_n 3, 1) := by decide +kernel
theorem dX7_change_69 : decode cX7_change 69 = .ok (.ifCond .ne 7, 3) := by decide +kernel
theorem dX7_change_72 : decode cX7_change 72 = .ok (.iconst 0, 1) := by decide +kernel
theorem dX7_change_73 : decode cX7_change 73 = .ok (.goto 15, 3) := by decide +kernel
theorem dX7_change_76 : decode cX7_change 76 = .ok (.aload_n 0, 1) := by decide +kernel
theorem dX7_change_77 : decode cX7_change 77 = .ok (.getfield 10, 3) := by decide +kernel
theorem dX7_change_80 : decode cX7_change 80 = .ok (.iload_n 1, 1) := by decide +kernel
theorem dX7_change_81 : decode cX7_change 81 = .ok (.invokevirtual 108, 3) := by decide +kernel
theorem dX7_change_84 : decode cX7_change 84 = .ok (.iload_n 2, 1) := by decide +kernel
theorem dX7_change_85 : decode cX7_change 85 = .ok (.invokestatic 111, 3) := by decide +kernel
theorem dX7_change_88 : decode cX7_change 88 = .ok (.istore 4, 2) := by decide +kernel
theorem dX7_change_90 : decode cX7_change 90 = .ok (.aload_n 0, 1) := by decide +kernel
theorem dX7_change_91 : decode cX7_change 91 = .ok (.getfield 10, 3) := by decide +kernel
theorem dX7_change_94 : decode cX7_change 94 = .ok (.iload_n 1, 1) := by decide +kernel
theorem dX7_change_95 : decode cX7_change 95 = .ok (.iload_n 2, 1) := by decide +kernel
theorem dX7_change_96 : decode cX7_change 96 = .ok (.iload_n 3, 1) := by decide +kernel
theorem dX7_change_97 : decode cX7_change 97 = .ok (.aload_n 0, 1) := by decide +kernel
theorem dX7_change_98 : decode cX7_change 98 = .ok (.getfield 10, 3) := by decide +kernel
theorem dX7_change_101 : decode cX7_change 101 = .ok (.iload_n 1, 1) := by decide +kernel
theorem dX7_change_102 : decode cX7_change 102 = .ok (.invokevirtual 117, 3) := by decide +kernel
theorem dX7_change_105 : decode cX7_change 105 = .ok (.iload 4, 2) := by decide +kernel
theorem dX7_change_107 : decode cX7_change 107 = .ok (.invokevirtual 120, 3) := by decide +kernel
theorem dX7_change_110 : decode cX7_change 110 = .ok (.aload_n 0, 1) := by decide +kernel
theorem dX7_change_111 : decode cX7_change 111 = .ok (.getfield 10, 3) := by decide +kernel
theorem dX7_change_114 : decode cX7_change 114 = .ok (.invokevirtual 124, 3) := by decide +kernel
theorem dX7_change_117 : decode cX7_change 117 = .ok (.ireturn, 1) := by decide +kernel
set_option maxRecDepth 20000 in
theorem ggX7_move_X0_has : GoodIn wsX7_move wsX0_has := goodIn_r _ [7, 8, 9, 10, 6, 11, 12, 13, 14, 15, 16, 17, 18, 152, 153] (by decide +kernel) (by decide +kernel)
set_option maxRecDepth 20000 in
theorem gX7_move_X0_has : GoodIn wsX7_move (wsV RX7 94 RX0 yX0_has wsX0_has) := goodIn_app (goodIn_of _ (by decide +kernel)) ggX7_move_X0_has
set_option maxRecDepth 20000 in
theorem ggX7_move_X1_record : GoodIn wsX7_move wsX1_record := goodIn_r _ [23, 24, 25, 26, 27, 28, 16, 29, 30, 14, 15, 17, 18, 31, 32, 33, 34, 35, 36, 37, 6, 38, 12, 39, 154, 155, 153, 152] (by decide +kernel) (by decide +kernel)
set_option maxRecDepth 20000 in
theorem gX7_move_X1_record : GoodIn wsX7_move (wsV RX7 72 RX1 yX1_record wsX1_record) := goodIn_app (goodIn_of _ (by decide +kernel)) ggX7_move_X1_record
set_option maxRecDepth 20000 in
theorem ggX7_move_X0_shift : GoodIn wsX7_move wsX0_shift := goodIn_r _ [43, 44, 45, 46, 6, 47, 12, 13, 14, 15, 16, 17, 18, 48, 49, 50, 51, 52, 53, 54, 55, 56, 57, 58, 59, 60, 61, 62, 63, 64, 65, 66, 67, 68, 32, 33, 34, 69, 70, 71, 72, 152, 153] (by decide +kernel) (by decide +kernel)
set_option maxRecDepth 20000 in
theorem gX7_move_X0_shift : GoodIn wsX7_move (wsV RX7 127 RX0 yX0_shift wsX0_shift) := goodIn_app (goodIn_of _ (by decide +kernel)) ggX7_move_X0_shift
set_option maxRecDepth 20000 in
theorem ggX7_move_X7_costOf : GoodIn wsX7_move wsX7_costOf := goodIn_r _ [77, 78, 79, 80, 81, 82, 83, 84, 85, 86, 87, 88, 89, 6, 90, 12, 13, 14, 15, 16, 17, 18, 91, 9, 10, 11, 92, 93, 94, 95, 96, 97, 98, 53, 54, 55, 99, 100, 101, 102, 103, 104, 105, 32, 33, 34, 106, 45, 46, 47, 107, 49, 50, 51, 108, 57, 58, 59, 109, 76, 110, 111, 112, 113, 114, 115, 116, 117, 118, 119, 120, 121, 122, 123, 124, 125, 126, 127, 128, 129, 130, 131, 132, 133, 134, 135, 136, 137, 138, 139, 140, 141, 142, 8, 52, 143, 144, 145, 146, 147, 148, 149, 150, 151, 156, 157, 158, 159, 160, 161, 162, 152, 153] (by decide +kernel) (by decide +kernel)
set_option maxRecDepth 20000 in
theorem gX7_move_X7_costOf : GoodIn wsX7_move (wsV RX7 131 RX7 yX7_costOf wsX7_costOf) := goodIn_app (goodIn_of _ (by decide +kernel)) ggX7_move_X7_costOf
theorem dX7_move_0 : decode cX7_move 0 = .ok (.aload_n 0, 1) := by decide +kernel
theorem dX7_move_1 : decode cX7_move 1 = .ok (.getfield 10, 3) := by decide +kernel
theorem dX7_move_4 : decode cX7_move 4 = .ok (.iload_n 1, 1) := by decide +kernel
theorem dX7_move_5 : decode cX7_move 5 = .ok (.invokevirtual 94, 3) := by decide +kernel
theorem dX7_move_8 : decode cX7_move 8 = .ok (.ifCond .eq 14, 3) := by decide +kernel
theorem dX7_move_11 : decode cX7_move 11 = .ok (.aload_n 0, 1) := by decide +kernel
theorem dX7_move_12 : decode cX7_move 12 = .ok (.getfield 10, 3) := by decide +kernel
theorem dX7_move_15 : decode cX7_move 15 = .ok (.iload_n 2, 1) := by decide +kernel
theorem dX7_move_16 : decode cX7_move 16 = .ok (.invokevirtual 94, 3) := by decide +kernel
theorem dX7_move_19 : decode cX7_move 19 = .ok (.ifCond .ne 5, 3) := by decide +kernel
theorem dX7_move_22 : decode cX7_move 22 = .ok (.iconst (-1), 1) := by decide +kernel
theorem dX7_move_23 : decode cX7_move 23 = .ok (.ireturn, 1) := by decide +kernel
theorem dX7_move_24 : decode cX7_move 24 = .ok (.iload_n 1, 1) := by decide +kernel
theorem dX7_move_25 : decode cX7_move 25 = .ok (.iload_n 2, 1) := by decide +kernel
theorem dX7_move_26 : decode cX7_move 26 = .ok (.if_icmp .ne 6, 3) := by decide +kernel
theorem dX7_move_29 : decode cX7_move 29 = .ok (.bipush (-5), 2) := by decide +kernel
theorem dX7_move_31 : decode cX7_move 31 = .ok (.ireturn, 1) := by decide +kernel
theorem dX7_move_32 : decode cX7_move 32 = .ok (.aload_n 0, 1) := by decide +kernel
theorem dX7_move_33 : decode cX7_move 33 = .ok (.getfield 29, 3) := by decide +kernel
theorem dX7_move_36 : decode cX7_move 36 = .ok (.aload_n 0, 1) := by decide +kernel
theorem dX7_move_37 : decode cX7_move 37 = .ok (.getfield 10, 3) := by decide +kernel
theorem dX7_move_40 : decode cX7_move 40 = .ok (.invokevirtual 72, 3) := by decide +kernel
theorem dX7_move_43 : decode cX7_move 43 = .ok (.aload_n 0, 1) := by decide +kernel
theorem dX7_move_44 : decode cX7_move 44 = .ok (.getfield 10, 3) := by decide +kernel
theorem dX7_move_47 : decode cX7_move 47 = .ok (.iload_n 1, 1) := by decide +kernel
theorem dX7_move_48 : decode cX7_move 48 = .ok (.iload_n 2, 1) := by decide +kernel
theorem dX7_move_49 : decode cX7_move 49 = .ok (.invokevirtual 127, 3) := by decide +kernel
theorem dX7_move_52 : decode cX7_move 52 = .ok (.aload_n 0, 1) := by decide +kernel
theorem dX7_move_53 : decode cX7_move 53 = .ok (.aload_n 0, 1) := by decide +kernel
theorem dX7_move_54 : decode cX7_move 54 = .ok (.getfield 10, 3) := by decide +kernel
theorem dX7_move_57 : decode cX7_move 57 = .ok (.invokevirtual 131, 3) := by decide +kernel
theorem dX7_move_60 : decode cX7_move 60 = .ok (.ireturn, 1) := by decide +kernel
set_option maxRecDepth 20000 in
theorem ggX7_choose_X0_has : GoodIn wsX7_choose wsX0_has := goodIn_r _ [7, 8, 9, 10, 6, 11, 12, 13, 14, 15, 16, 17, 18, 149, 150] (by decide +kernel) (by decide +kernel)
set_option maxRecDepth 20000 in
theorem gX7_choose_X0_has : GoodIn wsX7_choose (wsV RX7 94 RX0 yX0_has wsX0_has) := goodIn_app (goodIn_of _ (by decide +kernel)) ggX7_choose_X0_has
set_option maxRecDepth 20000 in
theorem ggX7_choose_X0_allows : GoodIn wsX7_choose wsX0_allows := goodIn_r _ [22, 23, 24, 25, 6, 26, 27, 28, 29, 30, 12, 13, 14, 15, 16, 17, 18, 31, 32, 33, 34, 149, 150] (by decide +kernel) (by decide +kernel)
set_option maxRecDepth 20000 in
theorem gX7_choose_X0_allows : GoodIn wsX7_choose (wsV RX7 135 RX0 yX0_allows wsX0_allows) := goodIn_app (goodIn_of _ (by decide +kernel)) ggX7_choose_X0_allows
set_option maxRecDepth 20000 in
theorem ggX7_choose_X0_blank : GoodIn wsX7_choose wsX0_blank := goodIn_r _ [38, 12, 13, 14, 15, 16, 17, 18, 149, 150] (by decide +kernel) (by decide +kernel)
set_option maxRecDepth 20000 in
theorem gX7_choose_X0_blank : GoodIn wsX7_choose (wsV RX7 117 RX0 yX0_blank wsX0_blank) := goodIn_app (goodIn_of _ (by decide +kernel)) ggX7_choose_X0_blank
set_option maxRecDepth 20000 in
theorem ggX7_choose_X0_place : GoodIn wsX7_choose wsX0_place := goodIn_r _ [42, 12, 13, 14, 15, 16, 17, 18, 149, 150] (by decide +kernel) (by decide +kernel)
set_option maxRecDepth 20000 in
theorem gX7_choose_X0_place : GoodIn wsX7_choose (wsV RX7 108 RX0 yX0_place wsX0_place) := goodIn_app (goodIn_of _ (by decide +kernel)) ggX7_choose_X0_place
set_option maxRecDepth 20000 in
theorem ggX7_choose_X1_record : GoodIn wsX7_choose wsX1_record := goodIn_r _ [47, 48, 49, 50, 51, 52, 16, 53, 54, 14, 15, 17, 18, 55, 56, 57, 58, 59, 60, 61, 6, 62, 12, 63, 151, 152, 150, 149] (by decide +kernel) (by decide +kernel)
set_option maxRecDepth 20000 in
theorem gX7_choose_X1_record : GoodIn wsX7_choose (wsV RX7 72 RX1 yX1_record wsX1_record) := goodIn_app (goodIn_of _ (by decide +kernel)) ggX7_choose_X1_record
set_option maxRecDepth 20000 in
theorem ggX7_choose_X0_putChoice : GoodIn wsX7_choose wsX0_putChoice := goodIn_r _ [67, 12, 68, 56, 57, 16, 58, 18, 149, 150] (by decide +kernel) (by decide +kernel)
set_option maxRecDepth 20000 in
theorem gX7_choose_X0_putChoice : GoodIn wsX7_choose (wsV RX7 139 RX0 yX0_putChoice wsX0_putChoice) := goodIn_app (goodIn_of _ (by decide +kernel)) ggX7_choose_X0_putChoice
set_option maxRecDepth 20000 in
theorem ggX7_choose_X7_costOf : GoodIn wsX7_choose wsX7_costOf := goodIn_r _ [73, 74, 75, 76, 77, 78, 79, 80, 81, 82, 83, 84, 85, 6, 86, 12, 13, 14, 15, 16, 17, 18, 87, 9, 10, 11, 88, 89, 90, 91, 92, 93, 94, 36, 37, 38, 95, 96, 97, 98, 99, 100, 101, 56, 57, 58, 102, 32, 33, 34, 103, 28, 29, 30, 104, 40, 41, 42, 105, 72, 106, 107, 108, 109, 110, 111, 112, 113, 114, 115, 116, 117, 118, 119, 120, 121, 122, 123, 124, 125, 126, 127, 128, 129, 130, 131, 132, 133, 134, 135, 136, 137, 138, 8, 139, 140, 141, 142, 143, 144, 145, 146, 147, 148, 153, 154, 155, 156, 157, 158, 159, 149, 150] (by decide +kernel) (by decide +kernel)
set_option maxRecDepth 20000 in
theorem gX7_choose_X7_costOf : GoodIn wsX7_choose (wsV RX7 131 RX7 yX7_costOf wsX7_costOf) := goodIn_app (goodIn_of _ (by decide +kernel)) ggX7_choose_X7_costOf
theorem dX7_choose_0 : decode cX7_choose 0 = .ok (.aload_n 0, 1) := by decide +kernel
theorem dX7_choose_1 : decode cX7_choose 1 = .ok (.getfield 10, 3) := by decide +kernel
theorem dX7_choose_4 : decode cX7_choose 4 = .ok (.iload_n 1, 1) := by decide +kernel
theorem dX7_choose_5 : decode cX7_choose 5 = .ok (.invokevirtual 94, 3) := by decide +kernel
theorem dX7_choose_8 : decode cX7_choose 8 = .ok (.ifCond .ne 5, 3) := by decide +kernel
theorem dX7_choose_11 : decode cX7_choose 11 = .ok (.iconst (-1), 1) := by decide +kernel
theorem dX7_choose_12 : decode cX7_choose 12 = .ok (.ireturn, 1) := by decide +kernel
theorem dX7_choose_13 : decode cX7_choose 13 = .ok (.aload_n 0, 1) := by decide +kernel
theorem dX7_choose_14 : decode cX7_choose 14 = .ok (.getfield 10, 3) := by decide +kernel
theorem dX7_choose_17 : decode cX7_choose 17 = .ok (.iload_n 1, 1) := by decide +kernel
theorem dX7_choose_18 : decode cX7_choose 18 = .ok (.iload_n 3, 1) := by decide +kernel
theorem dX7_choose_19 : decode cX7_choose 19 = .ok (.invokevirtual 135, 3) := by decide +kernel
theorem dX7_choose_22 : decode cX7_choose 22 = .ok (.ifCond .ne 6, 3) := by decide +kernel
theorem dX7_choose_25 : decode cX7_choose 25 = .ok (.bipush (-2), 2) := by decide +kernel
theorem dX7_choose_27 : decode cX7_choose 27 = .ok (.ireturn, 1) := by decide +kernel
theorem dX7_choose_28 : decode cX7_choose 28 = .ok (.iload_n 2, 1) := by decide +kernel
theorem dX7_choose_29 : decode cX7_choose 29 = .ok (.ifCond .eq 7, 3) := by decide +kernel
theorem dX7_choose_32 : decode cX7_choose 32 = .ok (.iconst 1, 1) := by decide +kernel
theorem dX7_choose_33 : decode cX7_choose 33 = .ok (.goto 4, 3) := by decide +kernel
theorem dX7_choose_36 : decode cX7_choose 36 = .ok (.iconst 0, 1) := by decide +kernel
theorem dX7_choose_37 : decode cX7_choose 37 = .ok (.istore 4, 2) := by decide +kernel
theorem dX7_choose_39 : decode cX7_choose 39 = .ok (.aload_n 0, 1) := by decide +kernel
theorem dX7_choose_40 : decode cX7_choose 40 = .ok (.getfield 10, 3) := by decide +kernel
theorem dX7_choose_43 : decode cX7_choose 43 = .ok (.iload_n 1, 1) := by decide +kernel
theorem dX7_choose_44 : decode cX7_choose 44 = .ok (.invokevirtual 117, 3) := by decide +kernel
theorem dX7_choose_47 : decode cX7_choose 47 = .ok (.iload 4, 2) := by decide +kernel
theorem dX7_choose_49 : decode cX7_choose 49 = .ok (.if_icmp .ne 18, 3) := by decide +kernel
theorem dX7_choose_52 : decode cX7_choose 52 = .ok (.aload_n 0, 1) := by decide +kernel
theorem dX7_choose_53 : decode cX7_choose 53 = .ok (.getfield 10, 3) := by decide +kernel
theorem dX7_choose_56 : decode cX7_choose 56 = .ok (.iload_n 1, 1) := by decide +kernel
theorem dX7_choose_57 : decode cX7_choose 57 = .ok (.invokevirtual 108, 3) := by decide +kernel
theorem dX7_choose_60 : decode cX7_choose 60 = .ok (.iload_n 3, 1) := by decide +kernel
theorem dX7_choose_61 : decode cX7_choose 61 = .ok (.if_icmp .ne 6, 3) := by decide +kernel
theorem dX7_choose_64 : decode cX7_choose 64 = .ok (.bipush (-5), 2) := by decide +kernel
theorem dX7_choose_66 : decode cX7_choose 66 = .ok (.ireturn, 1) := by decide +kernel
theorem dX7_choose_67 : decode cX7_choose 67 = .ok (.aload_n 0, 1) := by decide +kernel
theorem dX7_choose_68 : decode cX7_choose 68 = .ok (.getfield 29, 3) := by decide +kernel
theorem dX7_choose_71 : decode cX7_choose 71 = .ok (.aload_n 0, 1) := by decide +kernel
theorem dX7_choose_72 : decode cX7_choose 72 = .ok (.getfield 10, 3) := by decide +kernel
theorem dX7_choose_75 : decode cX7_choose 75 = .ok (.invokevirtual 72, 3) := by decide +kernel
theorem dX7_choose_78 : decode cX7_choose 78 = .ok (.aload_n 0, 1) := by decide +kernel
theorem dX7_choose_79 : decode cX7_choose 79 = .ok (.getfield 10, 3) := by decide +kernel
theorem dX7_choose_82 : decode cX7_choose 82 = .ok (.iload_n 1, 1) := by decide +kernel
theorem dX7_choose_83 : decode cX7_choose 83 = .ok (.iload 4, 2) := by decide +kernel
theorem dX7_choose_85 : decode cX7_choose 85 = .ok (.iload_n 3, 1) := by decide +kernel
theorem dX7_choose_86 : decode cX7_choose 86 = .ok (.invokevirtual 139, 3) := by decide +kernel
theorem dX7_choose_89 : decode cX7_choose 89 = .ok (.aload_n 0, 1) := by decide +kernel
theorem dX7_choose_90 : decode cX7_choose 90 = .ok (.aload_n 0, 1) := by decide +kernel
theorem dX7_choose_91 : decode cX7_choose 91 = .ok (.getfield 10, 3) := by decide +kernel
theorem dX7_choose_94 : decode cX7_choose 94 = .ok (.invokevirtual 131, 3) := by decide +kernel
theorem dX7_choose_97 : decode cX7_choose 97 = .ok (.ireturn, 1) := by decide +kernel
set_option maxRecDepth 20000 in
theorem ggX7_plan_X0_setting : GoodIn wsX7_plan wsX0_setting := goodIn_r _ [8, 9, 10, 11, 12, 13, 14, 15, 236, 237] (by decide +kernel) (by decide +kernel)
set_option maxRecDepth 20000 in
theorem gX7_plan_X0_setting : GoodIn wsX7_plan (wsV RX7 143 RX0 yX0_setting wsX0_setting) := goodIn_app (goodIn_of _ (by decide +kernel)) ggX7_plan_X0_setting
set_option maxRecDepth 20000 in
theorem ggX7_plan_X3_solve : GoodIn wsX7_plan wsX3_solve := goodIn_r _ [20, 21, 22, 23, 24, 25, 26, 7, 27, 9, 28, 29, 30, 13, 31, 32, 11, 12, 14, 15, 33, 34, 35, 36, 37, 38, 39, 40, 41, 42, 43, 44, 19, 45, 46, 47, 48, 49, 50, 51, 10, 52, 53, 54, 55, 56, 57, 58, 59, 60, 61, 62, 63, 64, 65, 66, 67, 68, 69, 70, 71, 72, 73, 74, 75, 76, 77, 78, 79, 80, 81, 82, 83, 84, 85, 86, 5, 6, 8, 87, 88, 89, 90, 91, 92, 93, 94, 95, 96, 97, 98, 99, 100, 101, 102, 103, 104, 105, 106, 107, 108, 109, 110, 111, 112, 113, 114, 115, 116, 117, 118, 119, 120, 121, 122, 123, 124, 125, 126, 127, 128, 129, 130, 131, 132, 133, 134, 135, 136, 137, 138, 139, 140, 141, 142, 143, 144, 145, 146, 238, 239, 240, 241, 236, 237] (by decide +kernel) (by decide +kernel)
set_option maxRecDepth 20000 in
theorem gX7_plan_X3_solve : GoodIn wsX7_plan (wsV RX7 146 RX3 yX3_solve wsX3_solve) := goodIn_app (goodIn_of _ (by decide +kernel)) ggX7_plan_X3_solve
set_option maxRecDepth 20000 in
theorem ggX7_plan_X3_chosen : GoodIn wsX7_plan wsX3_chosen := goodIn_r _ [150, 22, 238, 239, 240, 241] (by decide +kernel) (by decide +kernel)
set_option maxRecDepth 20000 in
theorem gX7_plan_X3_chosen : GoodIn wsX7_plan (wsV RX7 150 RX3 yX3_chosen wsX3_chosen) := goodIn_app (goodIn_of _ (by decide +kernel)) ggX7_plan_X3_chosen
set_option maxRecDepth 20000 in
theorem ggX7_plan_X0_sameLots : GoodIn wsX7_plan wsX0_sameLots := goodIn_r _ [154, 9, 155, 49, 50, 7, 51, 10, 11, 12, 13, 14, 15, 236, 237] (by decide +kernel) (by decide +kernel)
set_option maxRecDepth 20000 in
theorem gX7_plan_X0_sameLots : GoodIn wsX7_plan (wsV RX7 153 RX0 yX0_sameLots wsX0_sameLots) := goodIn_app (goodIn_of _ (by decide +kernel)) ggX7_plan_X0_sameLots
set_option maxRecDepth 20000 in
theorem ggX7_plan_X1_record : GoodIn wsX7_plan wsX1_record := goodIn_r _ [160, 161, 162, 163, 29, 30, 13, 31, 32, 11, 12, 14, 15, 33, 34, 35, 36, 164, 165, 166, 7, 167, 9, 28, 242, 243, 237, 236] (by decide +kernel) (by decide +kernel)
set_option maxRecDepth 20000 in
theorem gX7_plan_X1_record : GoodIn wsX7_plan (wsV RX7 72 RX1 yX1_record wsX1_record) := goodIn_app (goodIn_of _ (by decide +kernel)) ggX7_plan_X1_record
set_option maxRecDepth 20000 in
theorem ggX7_plan_X0_takeLots : GoodIn wsX7_plan wsX0_takeLots := goodIn_r _ [171, 9, 28, 29, 30, 13, 31, 32, 11, 12, 14, 15, 33, 34, 35, 36, 236, 237] (by decide +kernel) (by decide +kernel)
set_option maxRecDepth 20000 in
theorem gX7_plan_X0_takeLots : GoodIn wsX7_plan (wsV RX7 91 RX0 yX0_takeLots wsX0_takeLots) := goodIn_app (goodIn_of _ (by decide +kernel)) ggX7_plan_X0_takeLots
set_option maxRecDepth 20000 in
theorem ggX7_plan_X7_costOf : GoodIn wsX7_plan wsX7_costOf := goodIn_r _ [175, 176, 177, 178, 179, 180, 181, 182, 183, 184, 185, 5, 6, 7, 8, 9, 10, 11, 12, 13, 14, 15, 186, 49, 50, 51, 187, 188, 189, 190, 191, 192, 193, 140, 141, 142, 194, 195, 196, 197, 198, 199, 200, 34, 35, 36, 201, 58, 59, 60, 202, 62, 63, 64, 203, 144, 145, 146, 76, 77, 78, 79, 80, 81, 204, 205, 206, 207, 208, 83, 84, 85, 86, 209, 210, 211, 212, 213, 214, 215, 216, 124, 125, 217, 218, 219, 220, 221, 4, 222, 223, 224, 225, 155, 226, 227, 228, 229, 230, 231, 232, 233, 234, 235, 244, 245, 246, 247, 248, 249, 250, 236, 237] (by decide +kernel) (by decide +kernel)
set_option maxRecDepth 20000 in
theorem gX7_plan_X7_costOf : GoodIn wsX7_plan (wsV RX7 131 RX7 yX7_costOf wsX7_costOf) := goodIn_app (goodIn_of _ (by decide +kernel)) ggX7_plan_X7_costOf
theorem dX7_plan_0 : decode cX7_plan 0 = .ok (.aload_n 0, 1) := by decide +kernel
theorem dX7_plan_1 : decode cX7_plan 1 = .ok (.getfield 57, 3) := by decide +kernel
theorem dX7_plan_4 : decode cX7_plan 4 = .ok (.aload_n 0, 1) := by decide +kernel
theorem dX7_plan_5 : decode cX7_plan 5 = .ok (.getfield 10, 3) := by decide +kernel
theorem dX7_plan_8 : decode cX7_plan 8 = .ok (.aload_n 0, 1) := by decide +kernel
theorem dX7_plan_9 : decode cX7_plan 9 = .ok (.getfield 10, 3) := by decide +kernel
theorem dX7_plan_12 : decode cX7_plan 12 = .ok (.iconst 0, 1) := by decide +kernel
theorem dX7_plan_13 : decode cX7_plan 13 = .ok (.invokevirtual 143, 3) := by decide +kernel
theorem dX7_plan_16 : decode cX7_plan 16 = .ok (.invokevirtual 146, 3) := by decide +kernel
theorem dX7_plan_19 : decode cX7_plan 19 = .ok (.ifCond .ne 6, 3) := by decide +kernel
theorem dX7_plan_22 : decode cX7_plan 22 = .ok (.bipush (-4), 2) := by decide +kernel
theorem dX7_plan_24 : decode cX7_plan 24 = .ok (.ireturn, 1) := by decide +kernel
theorem dX7_plan_25 : decode cX7_plan 25 = .ok (.aload_n 0, 1) := by decide +kernel
theorem dX7_plan_26 : decode cX7_plan 26 = .ok (.getfield 10, 3) := by decide +kernel
theorem dX7_plan_29 : decode cX7_plan 29 = .ok (.aload_n 0, 1) := by decide +kernel
theorem dX7_plan_30 : decode cX7_plan 30 = .ok (.getfield 57, 3) := by decide +kernel
theorem dX7_plan_33 : decode cX7_plan 33 = .ok (.invokevirtual 150, 3) := by decide +kernel
theorem dX7_plan_36 : decode cX7_plan 36 = .ok (.invokevirtual 153, 3) := by decide +kernel
theorem dX7_plan_39 : decode cX7_plan 39 = .ok (.ifCond .eq 6, 3) := by decide +kernel
theorem dX7_plan_42 : decode cX7_plan 42 = .ok (.bipush (-5), 2) := by decide +kernel
theorem dX7_plan_44 : decode cX7_plan 44 = .ok (.ireturn, 1) := by decide +kernel
theorem dX7_plan_45 : decode cX7_plan 45 = .ok (.aload_n 0, 1) := by decide +kernel
theorem dX7_plan_46 : decode cX7_plan 46 = .ok (.getfield 29, 3) := by decide +kernel
theorem dX7_plan_49 : decode cX7_plan 49 = .ok (.aload_n 0, 1) := by decide +kernel
theorem dX7_plan_50 : decode cX7_plan 50 = .ok (.getfield 10, 3) := by decide +kernel
theorem dX7_plan_53 : decode cX7_plan 53 = .ok (.invokevirtual 72, 3) := by decide +kernel
theorem dX7_plan_56 : decode cX7_plan 56 = .ok (.aload_n 0, 1) := by decide +kernel
theorem dX7_plan_57 : decode cX7_plan 57 = .ok (.getfield 10, 3) := by decide +kernel
theorem dX7_plan_60 : decode cX7_plan 60 = .ok (.aload_n 0, 1) := by decide +kernel
theorem dX7_plan_61 : decode cX7_plan 61 = .ok (.getfield 57, 3) := by decide +kernel
theorem dX7_plan_64 : decode cX7_plan 64 = .ok (.invokevirtual 150, 3) := by decide +kernel
theorem dX7_plan_67 : decode cX7_plan 67 = .ok (.invokevirtual 91, 3) := by decide +kernel
theorem dX7_plan_70 : decode cX7_plan 70 = .ok (.aload_n 0, 1) := by decide +kernel
theorem dX7_plan_71 : decode cX7_plan 71 = .ok (.aload_n 0, 1) := by decide +kernel
theorem dX7_plan_72 : decode cX7_plan 72 = .ok (.getfield 10, 3) := by decide +kernel
theorem dX7_plan_75 : decode cX7_plan 75 = .ok (.invokevirtual 131, 3) := by decide +kernel
theorem dX7_plan_78 : decode cX7_plan 78 = .ok (.ireturn, 1) := by decide +kernel
set_option maxRecDepth 20000 in
theorem ggX7_set_X7_isSetting : GoodIn wsX7_set wsX7_isSetting := goodIn_r _ [6] (by decide +kernel) (by decide +kernel)
set_option maxRecDepth 20000 in
theorem gX7_set_X7_isSetting : GoodIn wsX7_set (va_wsS RX7 157 yX7_isSetting wsX7_isSetting) := goodIn_app (goodIn_of _ (by decide +kernel)) ggX7_set_X7_isSetting
set_option maxRecDepth 20000 in
theorem ggX7_set_X0_setting : GoodIn wsX7_set wsX0_setting := goodIn_r _ [11, 12, 13, 14, 15, 16, 17, 18, 54, 55] (by decide +kernel) (by decide +kernel)
set_option maxRecDepth 20000 in
theorem gX7_set_X0_setting : GoodIn wsX7_set (wsV RX7 143 RX0 yX0_setting wsX0_setting) := goodIn_app (goodIn_of _ (by decide +kernel)) ggX7_set_X0_setting
set_option maxRecDepth 20000 in
theorem ggX7_set_X1_record : GoodIn wsX7_set wsX1_record := goodIn_r _ [23, 24, 25, 26, 27, 28, 16, 29, 30, 14, 15, 17, 18, 31, 32, 33, 34, 35, 36, 37, 10, 38, 12, 39, 56, 57, 55, 54] (by decide +kernel) (by decide +kernel)
set_option maxRecDepth 20000 in
theorem gX7_set_X1_record : GoodIn wsX7_set (wsV RX7 72 RX1 yX1_record wsX1_record) := goodIn_app (goodIn_of _ (by decide +kernel)) ggX7_set_X1_record
set_option maxRecDepth 20000 in
theorem ggX7_set_X0_putSetting : GoodIn wsX7_set wsX0_putSetting := goodIn_r _ [43, 12, 44, 32, 33, 16, 34, 18, 54, 55] (by decide +kernel) (by decide +kernel)
set_option maxRecDepth 20000 in
theorem gX7_set_X0_putSetting : GoodIn wsX7_set (wsV RX7 160 RX0 yX0_putSetting wsX0_putSetting) := goodIn_app (goodIn_of _ (by decide +kernel)) ggX7_set_X0_putSetting
theorem dX7_set_0 : decode cX7_set 0 = .ok (.iload_n 1, 1) := by decide +kernel
theorem dX7_set_1 : decode cX7_set 1 = .ok (.ifCond .lt 8, 3) := by decide +kernel
theorem dX7_set_4 : decode cX7_set 4 = .ok (.iload_n 1, 1) := by decide +kernel
theorem dX7_set_5 : decode cX7_set 5 = .ok (.iconst 5, 1) := by decide +kernel
theorem dX7_set_6 : decode cX7_set 6 = .ok (.if_icmp .lt 5, 3) := by decide +kernel
theorem dX7_set_9 : decode cX7_set 9 = .ok (.iconst (-1), 1) := by decide +kernel
theorem dX7_set_10 : decode cX7_set 10 = .ok (.ireturn, 1) := by decide +kernel
theorem dX7_set_11 : decode cX7_set 11 = .ok (.iload_n 1, 1) := by decide +kernel
theorem dX7_set_12 : decode cX7_set 12 = .ok (.iload_n 2, 1) := by decide +kernel
theorem dX7_set_13 : decode cX7_set 13 = .ok (.invokestatic 157, 3) := by decide +kernel
theorem dX7_set_16 : decode cX7_set 16 = .ok (.ifCond .ne 6, 3) := by decide +kernel
theorem dX7_set_19 : decode cX7_set 19 = .ok (.bipush (-2), 2) := by decide +kernel
theorem dX7_set_21 : decode cX7_set 21 = .ok (.ireturn, 1) := by decide +kernel
theorem dX7_set_22 : decode cX7_set 22 = .ok (.aload_n 0, 1) := by decide +kernel
theorem dX7_set_23 : decode cX7_set 23 = .ok (.getfield 10, 3) := by decide +kernel
theorem dX7_set_26 : decode cX7_set 26 = .ok (.iload_n 1, 1) := by decide +kernel
theorem dX7_set_27 : decode cX7_set 27 = .ok (.invokevirtual 143, 3) := by decide +kernel
theorem dX7_set_30 : decode cX7_set 30 = .ok (.istore_n 3, 1) := by decide +kernel
theorem dX7_set_31 : decode cX7_set 31 = .ok (.iload_n 3, 1) := by decide +kernel
theorem dX7_set_32 : decode cX7_set 32 = .ok (.iload_n 2, 1) := by decide +kernel
theorem dX7_set_33 : decode cX7_set 33 = .ok (.if_icmp .ne 6, 3) := by decide +kernel
theorem dX7_set_36 : decode cX7_set 36 = .ok (.bipush (-5), 2) := by decide +kernel
theorem dX7_set_38 : decode cX7_set 38 = .ok (.ireturn, 1) := by decide +kernel
theorem dX7_set_39 : decode cX7_set 39 = .ok (.aload_n 0, 1) := by decide +kernel
theorem dX7_set_40 : decode cX7_set 40 = .ok (.getfield 29, 3) := by decide +kernel
theorem dX7_set_43 : decode cX7_set 43 = .ok (.aload_n 0, 1) := by decide +kernel
theorem dX7_set_44 : decode cX7_set 44 = .ok (.getfield 10, 3) := by decide +kernel
theorem dX7_set_47 : decode cX7_set 47 = .ok (.invokevirtual 72, 3) := by decide +kernel
theorem dX7_set_50 : decode cX7_set 50 = .ok (.aload_n 0, 1) := by decide +kernel
theorem dX7_set_51 : decode cX7_set 51 = .ok (.getfield 10, 3) := by decide +kernel
theorem dX7_set_54 : decode cX7_set 54 = .ok (.iload_n 1, 1) := by decide +kernel
theorem dX7_set_55 : decode cX7_set 55 = .ok (.iload_n 2, 1) := by decide +kernel
theorem dX7_set_56 : decode cX7_set 56 = .ok (.invokevirtual 160, 3) := by decide +kernel
theorem dX7_set_59 : decode cX7_set 59 = .ok (.iload_n 3, 1) := by decide +kernel
theorem dX7_set_60 : decode cX7_set 60 = .ok (.ireturn, 1) := by decide +kernel
set_option maxRecDepth 20000 in
theorem ggX7_type_X6_length : GoodIn wsX7_type wsX6_length := goodIn_r _ [6, 7, 28, 29] (by decide +kernel) (by decide +kernel)
set_option maxRecDepth 20000 in
theorem gX7_type_X6_length : GoodIn wsX7_type (wsV RX7 163 RX6 yX6_length wsX6_length) := goodIn_app (goodIn_of _ (by decide +kernel)) ggX7_type_X6_length
set_option maxRecDepth 20000 in
theorem ggX7_type_X6_append : GoodIn wsX7_type wsX6_append := goodIn_r _ [11, 12, 7, 13, 14, 15, 16, 17, 18, 28, 29, 30] (by decide +kernel) (by decide +kernel)
set_option maxRecDepth 20000 in
theorem gX7_type_X6_append : GoodIn wsX7_type (wsV RX7 166 RX6 yX6_append wsX6_append) := goodIn_app (goodIn_of _ (by decide +kernel)) ggX7_type_X6_append
theorem dX7_type_0 : decode cX7_type 0 = .ok (.aload_n 0, 1) := by decide +kernel
theorem dX7_type_1 : decode cX7_type 1 = .ok (.getfield 36, 3) := by decide +kernel
theorem dX7_type_4 : decode cX7_type 4 = .ok (.invokevirtual 163, 3) := by decide +kernel
theorem dX7_type_7 : decode cX7_type 7 = .ok (.bipush 60, 2) := by decide +kernel
theorem dX7_type_9 : decode cX7_type 9 = .ok (.if_icmp .lt 6, 3) := by decide +kernel
theorem dX7_type_12 : decode cX7_type 12 = .ok (.bipush (-3), 2) := by decide +kernel
theorem dX7_type_14 : decode cX7_type 14 = .ok (.ireturn, 1) := by decide +kernel
theorem dX7_type_15 : decode cX7_type 15 = .ok (.aload_n 0, 1) := by decide +kernel
theorem dX7_type_16 : decode cX7_type 16 = .ok (.getfield 36, 3) := by decide +kernel
theorem dX7_type_19 : decode cX7_type 19 = .ok (.iload_n 1, 1) := by decide +kernel
theorem dX7_type_20 : decode cX7_type 20 = .ok (.invokevirtual 166, 3) := by decide +kernel
theorem dX7_type_23 : decode cX7_type 23 = .ok (.aload_n 0, 1) := by decide +kernel
theorem dX7_type_24 : decode cX7_type 24 = .ok (.getfield 36, 3) := by decide +kernel
theorem dX7_type_27 : decode cX7_type 27 = .ok (.invokevirtual 163, 3) := by decide +kernel
theorem dX7_type_30 : decode cX7_type 30 = .ok (.ireturn, 1) := by decide +kernel
set_option maxRecDepth 20000 in
theorem ggX7_clearText_X6_length : GoodIn wsX7_clearText wsX6_length := goodIn_r _ [6, 7, 21, 22] (by decide +kernel) (by decide +kernel)
set_option maxRecDepth 20000 in
theorem gX7_clearText_X6_length : GoodIn wsX7_clearText (wsV RX7 163 RX6 yX6_length wsX6_length) := goodIn_app (goodIn_of _ (by decide +kernel)) ggX7_clearText_X6_length
set_option maxRecDepth 20000 in
theorem ggX7_clearText_X6_empty : GoodIn wsX7_clearText wsX6_empty := goodIn_r _ [11, 7, 21, 22] (by decide +kernel) (by decide +kernel)
set_option maxRecDepth 20000 in
theorem gX7_clearText_X6_empty : GoodIn wsX7_clearText (wsV RX7 169 RX6 yX6_empty wsX6_empty) := goodIn_app (goodIn_of _ (by decide +kernel)) ggX7_clearText_X6_empty
theorem dX7_clearText_0 : decode cX7_clearText 0 = .ok (.aload_n 0, 1) := by decide +kernel
theorem dX7_clearText_1 : decode cX7_clearText 1 = .ok (.getfield 36, 3) := by decide +kernel
theorem dX7_clearText_4 : decode cX7_clearText 4 = .ok (.invokevirtual 163, 3) := by decide +kernel
theorem dX7_clearText_7 : decode cX7_clearText 7 = .ok (.istore_n 1, 1) := by decide +kernel
theorem dX7_clearText_8 : decode cX7_clearText 8 = .ok (.aload_n 0, 1) := by decide +kernel
theorem dX7_clearText_9 : decode cX7_clearText 9 = .ok (.getfield 36, 3) := by decide +kernel
theorem dX7_clearText_12 : decode cX7_clearText 12 = .ok (.invokevirtual 169, 3) := by decide +kernel
theorem dX7_clearText_15 : decode cX7_clearText 15 = .ok (.iload_n 1, 1) := by decide +kernel
theorem dX7_clearText_16 : decode cX7_clearText 16 = .ok (.ireturn, 1) := by decide +kernel
set_option maxRecDepth 20000 in
theorem ggX7_undo_X1_states : GoodIn wsX7_undo wsX1_states := goodIn_r _ [7, 8, 43, 44] (by decide +kernel) (by decide +kernel)
set_option maxRecDepth 20000 in
theorem gX7_undo_X1_states : GoodIn wsX7_undo (wsV RX7 172 RX1 yX1_states wsX1_states) := goodIn_app (goodIn_of _ (by decide +kernel)) ggX7_undo_X1_states
set_option maxRecDepth 20000 in
theorem ggX7_undo_X1_takeLatest : GoodIn wsX7_undo wsX1_takeLatest := goodIn_r _ [12, 8, 13, 14, 15, 16, 17, 18, 19, 20, 21, 22, 23, 24, 25, 26, 27, 28, 29, 30, 31, 32, 33, 43, 44, 45, 46] (by decide +kernel) (by decide +kernel)
set_option maxRecDepth 20000 in
theorem gX7_undo_X1_takeLatest : GoodIn wsX7_undo (wsV RX7 175 RX1 yX1_takeLatest wsX1_takeLatest) := goodIn_app (goodIn_of _ (by decide +kernel)) ggX7_undo_X1_takeLatest
theorem dX7_undo_0 : decode cX7_undo 0 = .ok (.aload_n 0, 1) := by decide +kernel
theorem dX7_undo_1 : decode cX7_undo 1 = .ok (.getfield 29, 3) := by decide +kernel
theorem dX7_undo_4 : decode cX7_undo 4 = .ok (.invokevirtual 172, 3) := by decide +kernel
theorem dX7_undo_7 : decode cX7_undo 7 = .ok (.ifCond .ne 6, 3) := by decide +kernel
theorem dX7_undo_10 : decode cX7_undo 10 = .ok (.bipush (-5), 2) := by decide +kernel
theorem dX7_undo_12 : decode cX7_undo 12 = .ok (.ireturn, 1) := by decide +kernel
theorem dX7_undo_13 : decode cX7_undo 13 = .ok (.aload_n 0, 1) := by decide +kernel
theorem dX7_undo_14 : decode cX7_undo 14 = .ok (.getfield 29, 3) := by decide +kernel
theorem dX7_undo_17 : decode cX7_undo 17 = .ok (.aload_n 0, 1) := by decide +kernel
theorem dX7_undo_18 : decode cX7_undo 18 = .ok (.getfield 10, 3) := by decide +kernel
theorem dX7_undo_21 : decode cX7_undo 21 = .ok (.invokevirtual 175, 3) := by decide +kernel
theorem dX7_undo_24 : decode cX7_undo 24 = .ok (.aload_n 0, 1) := by decide +kernel
theorem dX7_undo_25 : decode cX7_undo 25 = .ok (.getfield 29, 3) := by decide +kernel
theorem dX7_undo_28 : decode cX7_undo 28 = .ok (.invokevirtual 172, 3) := by decide +kernel
theorem dX7_undo_31 : decode cX7_undo 31 = .ok (.ireturn, 1) := by decide +kernel
set_option maxRecDepth 20000 in
theorem ggX7_lot_X0_has : GoodIn wsX7_lot wsX0_has := goodIn_r _ [7, 8, 9, 10, 6, 11, 12, 13, 14, 15, 16, 17, 18, 113, 114] (by decide +kernel) (by decide +kernel)
set_option maxRecDepth 20000 in
theorem gX7_lot_X0_has : GoodIn wsX7_lot (wsV RX7 94 RX0 yX0_has wsX0_has) := goodIn_app (goodIn_of _ (by decide +kernel)) ggX7_lot_X0_has
set_option maxRecDepth 20000 in
theorem ggX7_lot_X2_lay : GoodIn wsX7_lot wsX2_lay := goodIn_r _ [23, 24, 25, 26, 27, 28, 29, 6, 30, 12, 13, 14, 15, 16, 17, 18, 31, 9, 10, 11, 32, 33, 34, 22, 35, 36, 37, 38, 39, 40, 41, 42, 43, 44, 45, 46, 47, 48, 49, 50, 51, 52, 53, 54, 55, 56, 57, 58, 59, 60, 61, 62, 63, 64, 65, 66, 67, 68, 69, 115, 116, 117, 118, 119, 120, 121, 113, 114] (by decide +kernel) (by decide +kernel)
set_option maxRecDepth 20000 in
theorem gX7_lot_X2_lay : GoodIn wsX7_lot (wsV RX7 181 RX2 yX2_lay wsX2_lay) := goodIn_app (goodIn_of _ (by decide +kernel)) ggX7_lot_X2_lay
set_option maxRecDepth 20000 in
theorem ggX7_lot_X0_plate : GoodIn wsX7_lot wsX0_plate := goodIn_r _ [59, 12, 13, 14, 15, 16, 17, 18, 113, 114] (by decide +kernel) (by decide +kernel)
set_option maxRecDepth 20000 in
theorem gX7_lot_X0_plate : GoodIn wsX7_lot (wsV RX7 105 RX0 yX0_plate wsX0_plate) := goodIn_app (goodIn_of _ (by decide +kernel)) ggX7_lot_X0_plate
set_option maxRecDepth 20000 in
theorem ggX7_lot_X0_text : GoodIn wsX7_lot wsX0_text := goodIn_r _ [55, 12, 13, 14, 15, 16, 17, 18, 113, 114] (by decide +kernel) (by decide +kernel)
set_option maxRecDepth 20000 in
theorem gX7_lot_X0_text : GoodIn wsX7_lot (wsV RX7 101 RX0 yX0_text wsX0_text) := goodIn_app (goodIn_of _ (by decide +kernel)) ggX7_lot_X0_text
set_option maxRecDepth 20000 in
theorem ggX7_lot_X0_blank : GoodIn wsX7_lot wsX0_blank := goodIn_r _ [41, 12, 13, 14, 15, 16, 17, 18, 113, 114] (by decide +kernel) (by decide +kernel)
set_option maxRecDepth 20000 in
theorem gX7_lot_X0_blank : GoodIn wsX7_lot (wsV RX7 117 RX0 yX0_blank wsX0_blank) := goodIn_app (goodIn_of _ (by decide +kernel)) ggX7_lot_X0_blank
set_option maxRecDepth 20000 in
theorem ggX7_lot_X0_place : GoodIn wsX7_lot wsX0_place := goodIn_r _ [63, 12, 13, 14, 15, 16, 17, 18, 113, 114] (by decide +kernel) (by decide +kernel)
set_option maxRecDepth 20000 in
theorem gX7_lot_X0_place : GoodIn wsX7_lot (wsV RX7 108 RX0 yX0_place wsX0_place) := goodIn_app (goodIn_of _ (by decide +kernel)) ggX7_lot_X0_place
set_option maxRecDepth 20000 in
theorem ggX7_lot_X2_firstPage : GoodIn wsX7_lot wsX2_firstPage := goodIn_r _ [77, 36, 78, 14, 15, 16, 17, 18, 115, 116, 117, 118, 119, 120, 121, 114] (by decide +kernel) (by decide +kernel)
set_option maxRecDepth 20000 in
theorem gX7_lot_X2_firstPage : GoodIn wsX7_lot (wsV RX7 184 RX2 yX2_firstPage wsX2_firstPage) := goodIn_app (goodIn_of _ (by decide +kernel)) ggX7_lot_X2_firstPage
set_option maxRecDepth 20000 in
theorem ggX7_lot_X2_platePage : GoodIn wsX7_lot wsX2_platePage := goodIn_r _ [82, 37, 78, 14, 15, 16, 17, 18, 115, 116, 117, 118, 119, 120, 121, 114] (by decide +kernel) (by decide +kernel)
set_option maxRecDepth 20000 in
theorem gX7_lot_X2_platePage : GoodIn wsX7_lot (wsV RX7 187 RX2 yX2_platePage wsX2_platePage) := goodIn_app (goodIn_of _ (by decide +kernel)) ggX7_lot_X2_platePage
set_option maxRecDepth 20000 in
theorem ggX7_lot_X2_whyNotFacing : GoodIn wsX7_lot wsX2_whyNotFacing := goodIn_r _ [86, 87, 80, 81, 22, 82, 37, 78, 14, 15, 16, 17, 18, 88, 89, 90, 91, 25, 92, 93, 94, 95, 96, 97, 98, 99, 47, 100, 101, 102, 103, 46, 115, 116, 117, 118, 119, 120, 121, 114] (by decide +kernel) (by decide +kernel)
set_option maxRecDepth 20000 in
theorem gX7_lot_X2_whyNotFacing : GoodIn wsX7_lot (wsV RX7 190 RX2 yX2_whyNotFacing wsX2_whyNotFacing) := goodIn_app (goodIn_of _ (by decide +kernel)) ggX7_lot_X2_whyNotFacing
theorem dX7_lot_0 : decode cX7_lot 0 = .ok (.aload_n 0, 1) := by decide +kernel
theorem dX7_lot_1 : decode cX7_lot 1 = .ok (.getfield 10, 3) := by decide +kernel
theorem dX7_lot_4 : decode cX7_lot 4 = .ok (.iload_n 1, 1) := by decide +kernel
theorem dX7_lot_5 : decode cX7_lot 5 = .ok (.invokevirtual 94, 3) := by decide +kernel
theorem dX7_lot_8 : decode cX7_lot 8 = .ok (.ifCond .ne 5, 3) := by decide +kernel
theorem dX7_lot_11 : decode cX7_lot 11 = .ok (.iconst (-1), 1) := by decide +kernel
theorem dX7_lot_12 : decode cX7_lot 12 = .ok (.ireturn, 1) := by decide +kernel
theorem dX7_lot_13 : decode cX7_lot 13 = .ok (.aload_n 0, 1) := by decide +kernel
theorem dX7_lot_14 : decode cX7_lot 14 = .ok (.getfield 50, 3) := by decide +kernel
theorem dX7_lot_17 : decode cX7_lot 17 = .ok (.aload_n 0, 1) := by decide +kernel
theorem dX7_lot_18 : decode cX7_lot 18 = .ok (.getfield 10, 3) := by decide +kernel
theorem dX7_lot_21 : decode cX7_lot 21 = .ok (.invokevirtual 181, 3) := by decide +kernel
theorem dX7_lot_24 : decode cX7_lot 24 = .ok (.aload_n 0, 1) := by decide +kernel
theorem dX7_lot_25 : decode cX7_lot 25 = .ok (.getfield 10, 3) := by decide +kernel
theorem dX7_lot_28 : decode cX7_lot 28 = .ok (.iload_n 1, 1) := by decide +kernel
theorem dX7_lot_29 : decode cX7_lot 29 = .ok (.invokevirtual 105, 3) := by decide +kernel
theorem dX7_lot_32 : decode cX7_lot 32 = .ok (.ifCond .eq 7, 3) := by decide +kernel
theorem dX7_lot_35 : decode cX7_lot 35 = .ok (.iconst 1, 1) := by decide +kernel
theorem dX7_lot_36 : decode cX7_lot 36 = .ok (.goto 4, 3) := by decide +kernel
theorem dX7_lot_39 : decode cX7_lot 39 = .ok (.iconst 0, 1) := by decide +kernel
theorem dX7_lot_40 : decode cX7_lot 40 = .ok (.istore_n 3, 1) := by decide +kernel
theorem dX7_lot_41 : decode cX7_lot 41 = .ok (.iload_n 2, 1) := by decide +kernel
theorem dX7_lot_42 : decode cX7_lot 42 = .ok (.tableswitch 144 0 7 #[46, 55, 64, 73, 91, 100, 118, 135], 46) := by decide +kernel
theorem dX7_lot_88 : decode cX7_lot 88 = .ok (.aload_n 0, 1) := by decide +kernel
theorem dX7_lot_89 : decode cX7_lot 89 = .ok (.getfield 10, 3) := by decide +kernel
theorem dX7_lot_92 : decode cX7_lot 92 = .ok (.iload_n 1, 1) := by decide +kernel
theorem dX7_lot_93 : decode cX7_lot 93 = .ok (.invokevirtual 101, 3) := by decide +kernel
theorem dX7_lot_96 : decode cX7_lot 96 = .ok (.ireturn, 1) := by decide +kernel
theorem dX7_lot_97 : decode cX7_lot 97 = .ok (.aload_n 0, 1) := by decide +kernel
theorem dX7_lot_98 : decode cX7_lot 98 = .ok (.getfield 10, 3) := by decide +kernel
theorem dX7_lot_101 : decode cX7_lot 101 = .ok (.iload_n 1, 1) := by decide +kernel
theorem dX7_lot_102 : decode cX7_lot 102 = .ok (.invokevirtual 105, 3) := by decide +kernel
theorem dX7_lot_105 : decode cX7_lot 105 = .ok (.ireturn, 1) := by decide +kernel
theorem dX7_lot_106 : decode cX7_lot 106 = .ok (.aload_n 0, 1) := by decide +kernel
theorem dX7_lot_107 : decode cX7_lot 107 = .ok (.getfield 10, 3) := by decide +kernel
theorem dX7_lot_110 : decode cX7_lot 110 = .ok (.iload_n 1, 1) := by decide +kernel
theorem dX7_lot_111 : decode cX7_lot 111 = .ok (.invokevirtual 117, 3) := by decide +kernel
theorem dX7_lot_114 : decode cX7_lot 114 = .ok (.ireturn, 1) := by decide +kernel
theorem dX7_lot_115 : decode cX7_lot 115 = .ok (.iload_n 3, 1) := by decide +kernel
theorem dX7_lot_116 : decode cX7_lot 116 = .ok (.ifCond .eq 14, 3) := by decide +kernel
theorem dX7_lot_119 : decode cX7_lot 119 = .ok (.aload_n 0, 1) := by decide +kernel
theorem dX7_lot_120 : decode cX7_lot 120 = .ok (.getfield 10, 3) := by decide +kernel
theorem dX7_lot_123 : decode cX7_lot 123 = .ok (.iload_n 1, 1) := by decide +kernel
theorem dX7_lot_124 : decode cX7_lot 124 = .ok (.invokevirtual 108, 3) := by decide +kernel
theorem dX7_lot_127 : decode cX7_lot 127 = .ok (.goto 5, 3) := by decide +kernel
theorem dX7_lot_130 : decode cX7_lot 130 = .ok (.bipush (-5), 2) := by decide +kernel
theorem dX7_lot_132 : decode cX7_lot 132 = .ok (.ireturn, 1) := by decide +kernel
theorem dX7_lot_133 : decode cX7_lot 133 = .ok (.aload_n 0, 1) := by decide +kernel
theorem dX7_lot_134 : decode cX7_lot 134 = .ok (.getfield 50, 3) := by decide +kernel
theorem dX7_lot_137 : decode cX7_lot 137 = .ok (.iload_n 1, 1) := by decide +kernel
theorem dX7_lot_138 : decode cX7_lot 138 = .ok (.invokevirtual 184, 3) := by decide +kernel
theorem dX7_lot_141 : decode cX7_lot 141 = .ok (.ireturn, 1) := by decide +kernel
theorem dX7_lot_142 : decode cX7_lot 142 = .ok (.iload_n 3, 1) := by decide +kernel
theorem dX7_lot_143 : decode cX7_lot 143 = .ok (.ifCond .eq 14, 3) := by decide +kernel
theorem dX7_lot_146 : decode cX7_lot 146 = .ok (.aload_n 0, 1) := by decide +kernel
theorem dX7_lot_147 : decode cX7_lot 147 = .ok (.getfield 50, 3) := by decide +kernel
theorem dX7_lot_150 : decode cX7_lot 150 = .ok (.iload_n 1, 1) := by decide +kernel
theorem dX7_lot_151 : decode cX7_lot 151 = .ok (.invokevirtual 187, 3) := by decide +kernel
theorem dX7_lot_154 : decode cX7_lot 154 = .ok (.goto 5, 3) := by decide +kernel
theorem dX7_lot_157 : decode cX7_lot 157 = .ok (.bipush (-5), 2) := by decide +kernel
theorem dX7_lot_159 : decode cX7_lot 159 = .ok (.ireturn, 1) := by decide +kernel
theorem dX7_lot_160 : decode cX7_lot 160 = .ok (.aload_n 0, 1) := by decide +kernel
theorem dX7_lot_161 : decode cX7_lot 161 = .ok (.getfield 50, 3) := by decide +kernel
theorem dX7_lot_164 : decode cX7_lot 164 = .ok (.iload_n 1, 1) := by decide +kernel
theorem dX7_lot_165 : decode cX7_lot 165 = .ok (.invokevirtual 190, 3) := by decide +kernel
theorem dX7_lot_168 : decode cX7_lot 168 = .ok (.ifCond .ne 7, 3) := by decide +kernel
theorem dX7_lot_171 : decode cX7_lot 171 = .ok (.iconst 1, 1) := by decide +kernel
theorem dX7_lot_172 : decode cX7_lot 172 = .ok (.goto 4, 3) := by decide +kernel
theorem dX7_lot_175 : decode cX7_lot 175 = .ok (.iconst 0, 1) := by decide +kernel
theorem dX7_lot_176 : decode cX7_lot 176 = .ok (.ireturn, 1) := by decide +kernel
theorem dX7_lot_177 : decode cX7_lot 177 = .ok (.aload_n 0, 1) := by decide +kernel
theorem dX7_lot_178 : decode cX7_lot 178 = .ok (.getfield 50, 3) := by decide +kernel
theorem dX7_lot_181 : decode cX7_lot 181 = .ok (.iload_n 1, 1) := by decide +kernel
theorem dX7_lot_182 : decode cX7_lot 182 = .ok (.invokevirtual 190, 3) := by decide +kernel
theorem dX7_lot_185 : decode cX7_lot 185 = .ok (.ireturn, 1) := by decide +kernel
theorem dX7_lot_186 : decode cX7_lot 186 = .ok (.bipush (-2), 2) := by decide +kernel
theorem dX7_lot_188 : decode cX7_lot 188 = .ok (.ireturn, 1) := by decide +kernel
set_option maxRecDepth 20000 in
theorem ggX7_page_X2_lay : GoodIn wsX7_page wsX2_lay := goodIn_r _ [7, 8, 9, 10, 11, 12, 13, 14, 15, 16, 17, 18, 19, 20, 21, 22, 23, 24, 25, 26, 27, 28, 29, 6, 30, 31, 32, 33, 34, 35, 36, 37, 38, 39, 40, 41, 42, 43, 44, 45, 46, 47, 48, 49, 50, 51, 52, 53, 54, 55, 56, 57, 58, 59, 60, 61, 62, 63, 64, 98, 99, 100, 101, 102, 103, 104, 105, 106] (by decide +kernel) (by decide +kernel)
set_option maxRecDepth 20000 in
theorem gX7_page_X2_lay : GoodIn wsX7_page (wsV RX7 181 RX2 yX2_lay wsX2_lay) := goodIn_app (goodIn_of _ (by decide +kernel)) ggX7_page_X2_lay
set_option maxRecDepth 20000 in
theorem ggX7_page_X2_hasPage : GoodIn wsX7_page wsX2_hasPage := goodIn_r _ [68, 9, 98, 99, 100, 101, 102, 103, 104] (by decide +kernel) (by decide +kernel)
set_option maxRecDepth 20000 in
theorem gX7_page_X2_hasPage : GoodIn wsX7_page (wsV RX7 193 RX2 yX2_hasPage wsX2_hasPage) := goodIn_app (goodIn_of _ (by decide +kernel)) ggX7_page_X2_hasPage
set_option maxRecDepth 20000 in
theorem ggX7_page_X2_owner : GoodIn wsX7_page wsX2_owner := goodIn_r _ [72, 41, 73, 18, 19, 20, 21, 22, 98, 99, 100, 101, 102, 103, 104, 106] (by decide +kernel) (by decide +kernel)
set_option maxRecDepth 20000 in
theorem gX7_page_X2_owner : GoodIn wsX7_page (wsV RX7 196 RX2 yX2_owner wsX2_owner) := goodIn_app (goodIn_of _ (by decide +kernel)) ggX7_page_X2_owner
set_option maxRecDepth 20000 in
theorem ggX7_page_X2_kind : GoodIn wsX7_page wsX2_kind := goodIn_r _ [77, 42, 73, 18, 19, 20, 21, 22, 98, 99, 100, 101, 102, 103, 104, 106] (by decide +kernel) (by decide +kernel)
set_option maxRecDepth 20000 in
theorem gX7_page_X2_kind : GoodIn wsX7_page (wsV RX7 199 RX2 yX2_kind wsX2_kind) := goodIn_app (goodIn_of _ (by decide +kernel)) ggX7_page_X2_kind
set_option maxRecDepth 20000 in
theorem ggX7_page_X2_gatheringOf : GoodIn wsX7_page wsX2_gatheringOf := goodIn_r _ [81, 8, 63, 60, 64, 98, 99, 100, 101, 102, 103, 104] (by decide +kernel) (by decide +kernel)
set_option maxRecDepth 20000 in
theorem gX7_page_X2_gatheringOf : GoodIn wsX7_page (wsV RX7 202 RX2 yX2_gatheringOf wsX2_gatheringOf) := goodIn_app (goodIn_of _ (by decide +kernel)) ggX7_page_X2_gatheringOf
set_option maxRecDepth 20000 in
theorem ggX7_page_X7_sideOfPage : GoodIn wsX7_page wsX7_sideOfPage := goodIn_r _ [84] (by decide +kernel) (by decide +kernel)
set_option maxRecDepth 20000 in
theorem gX7_page_X7_sideOfPage : GoodIn wsX7_page (va_wsS RX7 205 yX7_sideOfPage wsX7_sideOfPage) := goodIn_app (goodIn_of _ (by decide +kernel)) ggX7_page_X7_sideOfPage
