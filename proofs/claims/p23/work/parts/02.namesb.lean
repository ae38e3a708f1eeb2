set_option maxRecDepth 20000 in
theorem ggX0_init_X5_init : GoodIn wsX0_init wsX5_init := goodIn_r _ [10, 11, 2, 3, 12, 13, 18] (by decide +kernel) (by decide +kernel)
set_option maxRecDepth 20000 in
theorem gX0_init_X5_init : GoodIn wsX0_init (wsX5_init) := ggX0_init_X5_init
set_option maxRecDepth 20000 in
theorem ggX0_init_X5_put : GoodIn wsX0_init wsX5_put := goodIn_r _ [17, 13, 18] (by decide +kernel) (by decide +kernel)
set_option maxRecDepth 20000 in
theorem gX0_init_X5_put : GoodIn wsX0_init (wsV RX0 20 RX5 yX5_put wsX5_put) := goodIn_app (goodIn_of _ (by decide +kernel)) ggX0_init_X5_put
theorem dX0_init_0 : decode cX0_init 0 = .ok (.aload_n 0, 1) := by decide +kernel
theorem dX0_init_1 : decode cX0_init 1 = .ok (.invokespecial 5, 3) := by decide +kernel
theorem dX0_init_4 : decode cX0_init 4 = .ok (.aload_n 0, 1) := by decide +kernel
theorem dX0_init_5 : decode cX0_init 5 = .ok (.new 11, 3) := by decide +kernel
theorem dX0_init_8 : decode cX0_init 8 = .ok (.dup, 1) := by decide +kernel
theorem dX0_init_9 : decode cX0_init 9 = .ok (.bipush 54, 2) := by decide +kernel
theorem dX0_init_11 : decode cX0_init 11 = .ok (.invokespecial 13, 3) := by decide +kernel
theorem dX0_init_14 : decode cX0_init 14 = .ok (.putfield 16, 3) := by decide +kernel
theorem dX0_init_17 : decode cX0_init 17 = .ok (.aload_n 0, 1) := by decide +kernel
theorem dX0_init_18 : decode cX0_init 18 = .ok (.getfield 16, 3) := by decide +kernel
theorem dX0_init_21 : decode cX0_init 21 = .ok (.bipush 49, 2) := by decide +kernel
theorem dX0_init_23 : decode cX0_init 23 = .ok (.bipush 8, 2) := by decide +kernel
theorem dX0_init_25 : decode cX0_init 25 = .ok (.invokevirtual 20, 3) := by decide +kernel
theorem dX0_init_28 : decode cX0_init 28 = .ok (.aload_n 0, 1) := by decide +kernel
theorem dX0_init_29 : decode cX0_init 29 = .ok (.getfield 16, 3) := by decide +kernel
theorem dX0_init_32 : decode cX0_init 32 = .ok (.bipush 50, 2) := by decide +kernel
theorem dX0_init_34 : decode cX0_init 34 = .ok (.bipush 10, 2) := by decide +kernel
theorem dX0_init_36 : decode cX0_init 36 = .ok (.invokevirtual 20, 3) := by decide +kernel
theorem dX0_init_39 : decode cX0_init 39 = .ok (.aload_n 0, 1) := by decide +kernel
theorem dX0_init_40 : decode cX0_init 40 = .ok (.getfield 16, 3) := by decide +kernel
theorem dX0_init_43 : decode cX0_init 43 = .ok (.bipush 51, 2) := by decide +kernel
theorem dX0_init_45 : decode cX0_init 45 = .ok (.bipush 20, 2) := by decide +kernel
theorem dX0_init_47 : decode cX0_init 47 = .ok (.invokevirtual 20, 3) := by decide +kernel
theorem dX0_init_50 : decode cX0_init 50 = .ok (.aload_n 0, 1) := by decide +kernel
theorem dX0_init_51 : decode cX0_init 51 = .ok (.getfield 16, 3) := by decide +kernel
theorem dX0_init_54 : decode cX0_init 54 = .ok (.bipush 52, 2) := by decide +kernel
theorem dX0_init_56 : decode cX0_init 56 = .ok (.iconst 1, 1) := by decide +kernel
theorem dX0_init_57 : decode cX0_init 57 = .ok (.invokevirtual 20, 3) := by decide +kernel
theorem dX0_init_60 : decode cX0_init 60 = .ok (.aload_n 0, 1) := by decide +kernel
theorem dX0_init_61 : decode cX0_init 61 = .ok (.getfield 16, 3) := by decide +kernel
theorem dX0_init_64 : decode cX0_init 64 = .ok (.bipush 53, 2) := by decide +kernel
theorem dX0_init_66 : decode cX0_init 66 = .ok (.bipush 100, 2) := by decide +kernel
theorem dX0_init_68 : decode cX0_init 68 = .ok (.invokevirtual 20, 3) := by decide +kernel
theorem dX0_init_71 : decode cX0_init 71 = .ok (.return_, 1) := by decide +kernel
set_option maxRecDepth 20000 in
theorem ggX0_lots_X5_at : GoodIn wsX0_lots wsX5_at := goodIn_r _ [6, 7, 9] (by decide +kernel) (by decide +kernel)
set_option maxRecDepth 20000 in
theorem gX0_lots_X5_at : GoodIn wsX0_lots (wsV RX0 24 RX5 yX5_at wsX5_at) := goodIn_app (goodIn_of _ (by decide +kernel)) ggX0_lots_X5_at
theorem dX0_lots_0 : decode cX0_lots 0 = .ok (.aload_n 0, 1) := by decide +kernel
theorem dX0_lots_1 : decode cX0_lots 1 = .ok (.getfield 16, 3) := by decide +kernel
theorem dX0_lots_4 : decode cX0_lots 4 = .ok (.iconst 0, 1) := by decide +kernel
theorem dX0_lots_5 : decode cX0_lots 5 = .ok (.invokevirtual 24, 3) := by decide +kernel
theorem dX0_lots_8 : decode cX0_lots 8 = .ok (.ireturn, 1) := by decide +kernel
set_option maxRecDepth 20000 in
theorem ggX0_has_X0_lots : GoodIn wsX0_has wsX0_lots := goodIn_r _ [5, 6, 7, 8, 9, 10, 11, 12, 13, 14] (by decide +kernel) (by decide +kernel)
set_option maxRecDepth 20000 in
theorem gX0_has_X0_lots : GoodIn wsX0_has (wsV RX0 28 RX0 yX0_lots wsX0_lots) := goodIn_app (goodIn_of _ (by decide +kernel)) ggX0_has_X0_lots
theorem dX0_has_0 : decode cX0_has 0 = .ok (.iload_n 1, 1) := by decide +kernel
theorem dX0_has_1 : decode cX0_has 1 = .ok (.ifCond .lt 15, 3) := by decide +kernel
theorem dX0_has_4 : decode cX0_has 4 = .ok (.iload_n 1, 1) := by decide +kernel
theorem dX0_has_5 : decode cX0_has 5 = .ok (.aload_n 0, 1) := by decide +kernel
theorem dX0_has_6 : decode cX0_has 6 = .ok (.invokevirtual 28, 3) := by decide +kernel
theorem dX0_has_9 : decode cX0_has 9 = .ok (.if_icmp .ge 7, 3) := by decide +kernel
theorem dX0_has_12 : decode cX0_has 12 = .ok (.iconst 1, 1) := by decide +kernel
theorem dX0_has_13 : decode cX0_has 13 = .ok (.goto 4, 3) := by decide +kernel
theorem dX0_has_16 : decode cX0_has 16 = .ok (.iconst 0, 1) := by decide +kernel
theorem dX0_has_17 : decode cX0_has 17 = .ok (.ireturn, 1) := by decide +kernel
set_option maxRecDepth 20000 in
theorem ggX0_text_X5_at : GoodIn wsX0_text wsX5_at := goodIn_r _ [6, 7, 9] (by decide +kernel) (by decide +kernel)
set_option maxRecDepth 20000 in
theorem gX0_text_X5_at : GoodIn wsX0_text (wsV RX0 24 RX5 yX5_at wsX5_at) := goodIn_app (goodIn_of _ (by decide +kernel)) ggX0_text_X5_at
theorem dX0_text_0 : decode cX0_text 0 = .ok (.aload_n 0, 1) := by decide +kernel
theorem dX0_text_1 : decode cX0_text 1 = .ok (.getfield 16, 3) := by decide +kernel
theorem dX0_text_4 : decode cX0_text 4 = .ok (.iload_n 1, 1) := by decide +kernel
theorem dX0_text_5 : decode cX0_text 5 = .ok (.iconst 4, 1) := by decide +kernel
theorem dX0_text_6 : decode cX0_text 6 = .ok (.imul, 1) := by decide +kernel
theorem dX0_text_7 : decode cX0_text 7 = .ok (.iconst 1, 1) := by decide +kernel
theorem dX0_text_8 : decode cX0_text 8 = .ok (.iadd, 1) := by decide +kernel
theorem dX0_text_9 : decode cX0_text 9 = .ok (.invokevirtual 24, 3) := by decide +kernel
theorem dX0_text_12 : decode cX0_text 12 = .ok (.ireturn, 1) := by decide +kernel
set_option maxRecDepth 20000 in
theorem ggX0_plate_X5_at : GoodIn wsX0_plate wsX5_at := goodIn_r _ [6, 7, 9] (by decide +kernel) (by decide +kernel)
set_option maxRecDepth 20000 in
theorem gX0_plate_X5_at : GoodIn wsX0_plate (wsV RX0 24 RX5 yX5_at wsX5_at) := goodIn_app (goodIn_of _ (by decide +kernel)) ggX0_plate_X5_at
theorem dX0_plate_0 : decode cX0_plate 0 = .ok (.aload_n 0, 1) := by decide +kernel
theorem dX0_plate_1 : decode cX0_plate 1 = .ok (.getfield 16, 3) := by decide +kernel
theorem dX0_plate_4 : decode cX0_plate 4 = .ok (.iload_n 1, 1) := by decide +kernel
theorem dX0_plate_5 : decode cX0_plate 5 = .ok (.iconst 4, 1) := by decide +kernel
theorem dX0_plate_6 : decode cX0_plate 6 = .ok (.imul, 1) := by decide +kernel
theorem dX0_plate_7 : decode cX0_plate 7 = .ok (.iconst 2, 1) := by decide +kernel
theorem dX0_plate_8 : decode cX0_plate 8 = .ok (.iadd, 1) := by decide +kernel
theorem dX0_plate_9 : decode cX0_plate 9 = .ok (.invokevirtual 24, 3) := by decide +kernel
theorem dX0_plate_12 : decode cX0_plate 12 = .ok (.ireturn, 1) := by decide +kernel
set_option maxRecDepth 20000 in
theorem ggX0_blank_X5_at : GoodIn wsX0_blank wsX5_at := goodIn_r _ [6, 7, 9] (by decide +kernel) (by decide +kernel)
set_option maxRecDepth 20000 in
theorem gX0_blank_X5_at : GoodIn wsX0_blank (wsV RX0 24 RX5 yX5_at wsX5_at) := goodIn_app (goodIn_of _ (by decide +kernel)) ggX0_blank_X5_at
theorem dX0_blank_0 : decode cX0_blank 0 = .ok (.aload_n 0, 1) := by decide +kernel
theorem dX0_blank_1 : decode cX0_blank 1 = .ok (.getfield 16, 3) := by decide +kernel
theorem dX0_blank_4 : decode cX0_blank 4 = .ok (.iload_n 1, 1) := by decide +kernel
theorem dX0_blank_5 : decode cX0_blank 5 = .ok (.iconst 4, 1) := by decide +kernel
theorem dX0_blank_6 : decode cX0_blank 6 = .ok (.imul, 1) := by decide +kernel
theorem dX0_blank_7 : decode cX0_blank 7 = .ok (.iconst 3, 1) := by decide +kernel
theorem dX0_blank_8 : decode cX0_blank 8 = .ok (.iadd, 1) := by decide +kernel
theorem dX0_blank_9 : decode cX0_blank 9 = .ok (.invokevirtual 24, 3) := by decide +kernel
theorem dX0_blank_12 : decode cX0_blank 12 = .ok (.ireturn, 1) := by decide +kernel
set_option maxRecDepth 20000 in
theorem ggX0_place_X5_at : GoodIn wsX0_place wsX5_at := goodIn_r _ [6, 7, 9] (by decide +kernel) (by decide +kernel)
set_option maxRecDepth 20000 in
theorem gX0_place_X5_at : GoodIn wsX0_place (wsV RX0 24 RX5 yX5_at wsX5_at) := goodIn_app (goodIn_of _ (by decide +kernel)) ggX0_place_X5_at
theorem dX0_place_0 : decode cX0_place 0 = .ok (.aload_n 0, 1) := by decide +kernel
theorem dX0_place_1 : decode cX0_place 1 = .ok (.getfield 16, 3) := by decide +kernel
theorem dX0_place_4 : decode cX0_place 4 = .ok (.iload_n 1, 1) := by decide +kernel
theorem dX0_place_5 : decode cX0_place 5 = .ok (.iconst 4, 1) := by decide +kernel
theorem dX0_place_6 : decode cX0_place 6 = .ok (.imul, 1) := by decide +kernel
theorem dX0_place_7 : decode cX0_place 7 = .ok (.iconst 4, 1) := by decide +kernel
theorem dX0_place_8 : decode cX0_place 8 = .ok (.iadd, 1) := by decide +kernel
theorem dX0_place_9 : decode cX0_place 9 = .ok (.invokevirtual 24, 3) := by decide +kernel
theorem dX0_place_12 : decode cX0_place 12 = .ok (.ireturn, 1) := by decide +kernel
set_option maxRecDepth 20000 in
theorem ggX0_setting_X5_at : GoodIn wsX0_setting wsX5_at := goodIn_r _ [6, 7, 9] (by decide +kernel) (by decide +kernel)
set_option maxRecDepth 20000 in
theorem gX0_setting_X5_at : GoodIn wsX0_setting (wsV RX0 24 RX5 yX5_at wsX5_at) := goodIn_app (goodIn_of _ (by decide +kernel)) ggX0_setting_X5_at
theorem dX0_setting_0 : decode cX0_setting 0 = .ok (.aload_n 0, 1) := by decide +kernel
theorem dX0_setting_1 : decode cX0_setting 1 = .ok (.getfield 16, 3) := by decide +kernel
theorem dX0_setting_4 : decode cX0_setting 4 = .ok (.bipush 49, 2) := by decide +kernel
theorem dX0_setting_6 : decode cX0_setting 6 = .ok (.iload_n 1, 1) := by decide +kernel
theorem dX0_setting_7 : decode cX0_setting 7 = .ok (.iadd, 1) := by decide +kernel
theorem dX0_setting_8 : decode cX0_setting 8 = .ok (.invokevirtual 24, 3) := by decide +kernel
theorem dX0_setting_11 : decode cX0_setting 11 = .ok (.ireturn, 1) := by decide +kernel
set_option maxRecDepth 20000 in
theorem ggX0_putSetting_X5_put : GoodIn wsX0_putSetting wsX5_put := goodIn_r _ [6, 7, 9] (by decide +kernel) (by decide +kernel)
set_option maxRecDepth 20000 in
theorem gX0_putSetting_X5_put : GoodIn wsX0_putSetting (wsV RX0 20 RX5 yX5_put wsX5_put) := goodIn_app (goodIn_of _ (by decide +kernel)) ggX0_putSetting_X5_put
theorem dX0_putSetting_0 : decode cX0_putSetting 0 = .ok (.aload_n 0, 1) := by decide +kernel
theorem dX0_putSetting_1 : decode cX0_putSetting 1 = .ok (.getfield 16, 3) := by decide +kernel
theorem dX0_putSetting_4 : decode cX0_putSetting 4 = .ok (.bipush 49, 2) := by decide +kernel
theorem dX0_putSetting_6 : decode cX0_putSetting 6 = .ok (.iload_n 1, 1) := by decide +kernel
theorem dX0_putSetting_7 : decode cX0_putSetting 7 = .ok (.iadd, 1) := by decide +kernel
theorem dX0_putSetting_8 : decode cX0_putSetting 8 = .ok (.iload_n 2, 1) := by decide +kernel
theorem dX0_putSetting_9 : decode cX0_putSetting 9 = .ok (.invokevirtual 20, 3) := by decide +kernel
theorem dX0_putSetting_12 : decode cX0_putSetting 12 = .ok (.return_, 1) := by decide +kernel
set_option maxRecDepth 20000 in
theorem ggX0_mostPlace_X0_plate : GoodIn wsX0_mostPlace wsX0_plate := goodIn_r _ [5, 6, 7, 8, 9, 10, 11, 12, 17, 18] (by decide +kernel) (by decide +kernel)
set_option maxRecDepth 20000 in
theorem gX0_mostPlace_X0_plate : GoodIn wsX0_mostPlace (wsV RX0 32 RX0 yX0_plate wsX0_plate) := goodIn_app (goodIn_of _ (by decide +kernel)) ggX0_mostPlace_X0_plate
set_option maxRecDepth 20000 in
theorem ggX0_mostPlace_X0_text : GoodIn wsX0_mostPlace wsX0_text := goodIn_r _ [16, 6, 7, 8, 9, 10, 11, 12, 17, 18] (by decide +kernel) (by decide +kernel)
set_option maxRecDepth 20000 in
theorem gX0_mostPlace_X0_text : GoodIn wsX0_mostPlace (wsV RX0 35 RX0 yX0_text wsX0_text) := goodIn_app (goodIn_of _ (by decide +kernel)) ggX0_mostPlace_X0_text
theorem dX0_mostPlace_0 : decode cX0_mostPlace 0 = .ok (.aload_n 0, 1) := by decide +kernel
theorem dX0_mostPlace_1 : decode cX0_mostPlace 1 = .ok (.iload_n 1, 1) := by decide +kernel
theorem dX0_mostPlace_2 : decode cX0_mostPlace 2 = .ok (.invokevirtual 32, 3) := by decide +kernel
theorem dX0_mostPlace_5 : decode cX0_mostPlace 5 = .ok (.ifCond .ne 7, 3) := by decide +kernel
theorem dX0_mostPlace_8 : decode cX0_mostPlace 8 = .ok (.iconst 0, 1) := by decide +kernel
theorem dX0_mostPlace_9 : decode cX0_mostPlace 9 = .ok (.goto 8, 3) := by decide +kernel
theorem dX0_mostPlace_12 : decode cX0_mostPlace 12 = .ok (.aload_n 0, 1) := by decide +kernel
theorem dX0_mostPlace_13 : decode cX0_mostPlace 13 = .ok (.iload_n 1, 1) := by decide +kernel
theorem dX0_mostPlace_14 : decode cX0_mostPlace 14 = .ok (.invokevirtual 35, 3) := by decide +kernel
theorem dX0_mostPlace_17 : decode cX0_mostPlace 17 = .ok (.ireturn, 1) := by decide +kernel
set_option maxRecDepth 20000 in
theorem ggX0_allows_X0_mostPlace : GoodIn wsX0_allows wsX0_mostPlace := goodIn_r _ [5, 6, 7, 8, 4, 9, 10, 11, 12, 13, 14, 15, 16, 17, 18, 19, 20, 21, 22] (by decide +kernel) (by decide +kernel)
set_option maxRecDepth 20000 in
theorem gX0_allows_X0_mostPlace : GoodIn wsX0_allows (wsV RX0 38 RX0 yX0_mostPlace wsX0_mostPlace) := goodIn_app (goodIn_of _ (by decide +kernel)) ggX0_allows_X0_mostPlace
theorem dX0_allows_0 : decode cX0_allows 0 = .ok (.iload_n 2, 1) := by decide +kernel
theorem dX0_allows_1 : decode cX0_allows 1 = .ok (.ifCond .lt 16, 3) := by decide +kernel
theorem dX0_allows_4 : decode cX0_allows 4 = .ok (.iload_n 2, 1) := by decide +kernel
theorem dX0_allows_5 : decode cX0_allows 5 = .ok (.aload_n 0, 1) := by decide +kernel
theorem dX0_allows_6 : decode cX0_allows 6 = .ok (.iload_n 1, 1) := by decide +kernel
theorem dX0_allows_7 : decode cX0_allows 7 = .ok (.invokevirtual 38, 3) := by decide +kernel
theorem dX0_allows_10 : decode cX0_allows 10 = .ok (.if_icmp .gt 7, 3) := by decide +kernel
theorem dX0_allows_13 : decode cX0_allows 13 = .ok (.iconst 1, 1) := by decide +kernel
theorem dX0_allows_14 : decode cX0_allows 14 = .ok (.goto 4, 3) := by decide +kernel
theorem dX0_allows_17 : decode cX0_allows 17 = .ok (.iconst 0, 1) := by decide +kernel
theorem dX0_allows_18 : decode cX0_allows 18 = .ok (.ireturn, 1) := by decide +kernel
set_option maxRecDepth 20000 in
theorem ggX0_ownPages_X0_text : GoodIn wsX0_ownPages wsX0_text := goodIn_r _ [5, 6, 7, 8, 9, 10, 11, 12, 17, 18] (by decide +kernel) (by decide +kernel)
set_option maxRecDepth 20000 in
theorem gX0_ownPages_X0_text : GoodIn wsX0_ownPages (wsV RX0 35 RX0 yX0_text wsX0_text) := goodIn_app (goodIn_of _ (by decide +kernel)) ggX0_ownPages_X0_text
set_option maxRecDepth 20000 in
theorem ggX0_ownPages_X0_plate : GoodIn wsX0_ownPages wsX0_plate := goodIn_r _ [16, 6, 7, 8, 9, 10, 11, 12, 17, 18] (by decide +kernel) (by decide +kernel)
set_option maxRecDepth 20000 in
theorem gX0_ownPages_X0_plate : GoodIn wsX0_ownPages (wsV RX0 32 RX0 yX0_plate wsX0_plate) := goodIn_app (goodIn_of _ (by decide +kernel)) ggX0_ownPages_X0_plate
theorem dX0_ownPages_0 : decode cX0_ownPages 0 = .ok (.aload_n 0, 1) := by decide +kernel
theorem dX0_ownPages_1 : decode cX0_ownPages 1 = .ok (.iload_n 1, 1) := by decide +kernel
theorem dX0_ownPages_2 : decode cX0_ownPages 2 = .ok (.invokevirtual 35, 3) := by decide +kernel
theorem dX0_ownPages_5 : decode cX0_ownPages 5 = .ok (.aload_n 0, 1) := by decide +kernel
theorem dX0_ownPages_6 : decode cX0_ownPages 6 = .ok (.iload_n 1, 1) := by decide +kernel
theorem dX0_ownPages_7 : decode cX0_ownPages 7 = .ok (.invokevirtual 32, 3) := by decide +kernel
theorem dX0_ownPages_10 : decode cX0_ownPages 10 = .ok (.ifCond .ne 7, 3) := by decide +kernel
theorem dX0_ownPages_13 : decode cX0_ownPages 13 = .ok (.iconst 0, 1) := by decide +kernel
theorem dX0_ownPages_14 : decode cX0_ownPages 14 = .ok (.goto 4, 3) := by decide +kernel
theorem dX0_ownPages_17 : decode cX0_ownPages 17 = .ok (.iconst 1, 1) := by decide +kernel
theorem dX0_ownPages_18 : decode cX0_ownPages 18 = .ok (.iadd, 1) := by decide +kernel
theorem dX0_ownPages_19 : decode cX0_ownPages 19 = .ok (.ireturn, 1) := by decide +kernel
set_option maxRecDepth 20000 in
theorem ggX0_pages_X0_lots : GoodIn wsX0_pages wsX0_lots := goodIn_r _ [5, 6, 7, 8, 9, 10, 11, 12, 29, 30] (by decide +kernel) (by decide +kernel)
set_option maxRecDepth 20000 in
theorem gX0_pages_X0_lots : GoodIn wsX0_pages (wsV RX0 28 RX0 yX0_lots wsX0_lots) := goodIn_app (goodIn_of _ (by decide +kernel)) ggX0_pages_X0_lots
set_option maxRecDepth 20000 in
theorem ggX0_pages_X0_blank : GoodIn wsX0_pages wsX0_blank := goodIn_r _ [16, 6, 7, 8, 9, 10, 11, 12, 29, 30] (by decide +kernel) (by decide +kernel)
set_option maxRecDepth 20000 in
theorem gX0_pages_X0_blank : GoodIn wsX0_pages (wsV RX0 41 RX0 yX0_blank wsX0_blank) := goodIn_app (goodIn_of _ (by decide +kernel)) ggX0_pages_X0_blank
set_option maxRecDepth 20000 in
theorem ggX0_pages_X0_ownPages : GoodIn wsX0_pages wsX0_ownPages := goodIn_r _ [20, 21, 22, 23, 4, 24, 6, 7, 8, 9, 10, 11, 12, 25, 26, 27, 28, 29, 30] (by decide +kernel) (by decide +kernel)
set_option maxRecDepth 20000 in
theorem gX0_pages_X0_ownPages : GoodIn wsX0_pages (wsV RX0 44 RX0 yX0_ownPages wsX0_ownPages) := goodIn_app (goodIn_of _ (by decide +kernel)) ggX0_pages_X0_ownPages
theorem dX0_pages_0 : decode cX0_pages 0 = .ok (.iconst 0, 1) := by decide +kernel
theorem dX0_pages_1 : decode cX0_pages 1 = .ok (.istore_n 1, 1) := by decide +kernel
theorem dX0_pages_2 : decode cX0_pages 2 = .ok (.iconst 0, 1) := by decide +kernel
theorem dX0_pages_3 : decode cX0_pages 3 = .ok (.istore_n 2, 1) := by decide +kernel
theorem dX0_pages_4 : decode cX0_pages 4 = .ok (.iload_n 2, 1) := by decide +kernel
theorem dX0_pages_5 : decode cX0_pages 5 = .ok (.aload_n 0, 1) := by decide +kernel
theorem dX0_pages_6 : decode cX0_pages 6 = .ok (.invokevirtual 28, 3) := by decide +kernel
theorem dX0_pages_9 : decode cX0_pages 9 = .ok (.if_icmp .ge 23, 3) := by decide +kernel
theorem dX0_pages_12 : decode cX0_pages 12 = .ok (.iload_n 1, 1) := by decide +kernel
theorem dX0_pages_13 : decode cX0_pages 13 = .ok (.aload_n 0, 1) := by decide +kernel
theorem dX0_pages_14 : decode cX0_pages 14 = .ok (.iload_n 2, 1) := by decide +kernel
theorem dX0_pages_15 : decode cX0_pages 15 = .ok (.invokevirtual 41, 3) := by decide +kernel
theorem dX0_pages_18 : decode cX0_pages 18 = .ok (.aload_n 0, 1) := by decide +kernel
theorem dX0_pages_19 : decode cX0_pages 19 = .ok (.iload_n 2, 1) := by decide +kernel
theorem dX0_pages_20 : decode cX0_pages 20 = .ok (.invokevirtual 44, 3) := by decide +kernel
theorem dX0_pages_23 : decode cX0_pages 23 = .ok (.iadd, 1) := by decide +kernel
theorem dX0_pages_24 : decode cX0_pages 24 = .ok (.iadd, 1) := by decide +kernel
theorem dX0_pages_25 : decode cX0_pages 25 = .ok (.istore_n 1, 1) := by decide +kernel
theorem dX0_pages_26 : decode cX0_pages 26 = .ok (.iinc 2 1, 3) := by decide +kernel
theorem dX0_pages_29 : decode cX0_pages 29 = .ok (.goto (-25), 3) := by decide +kernel
theorem dX0_pages_32 : decode cX0_pages 32 = .ok (.iload_n 1, 1) := by decide +kernel
theorem dX0_pages_33 : decode cX0_pages 33 = .ok (.ireturn, 1) := by decide +kernel
set_option maxRecDepth 20000 in
theorem ggX0_blanks_X0_lots : GoodIn wsX0_blanks wsX0_lots := goodIn_r _ [5, 6, 7, 8, 9, 10, 11, 12, 17, 18] (by decide +kernel) (by decide +kernel)
set_option maxRecDepth 20000 in
theorem gX0_blanks_X0_lots : GoodIn wsX0_blanks (wsV RX0 28 RX0 yX0_lots wsX0_lots) := goodIn_app (goodIn_of _ (by decide +kernel)) ggX0_blanks_X0_lots
set_option maxRecDepth 20000 in
theorem ggX0_blanks_X0_blank : GoodIn wsX0_blanks wsX0_blank := goodIn_r _ [16, 6, 7, 8, 9, 10, 11, 12, 17, 18] (by decide +kernel) (by decide +kernel)
set_option maxRecDepth 20000 in
theorem gX0_blanks_X0_blank : GoodIn wsX0_blanks (wsV RX0 41 RX0 yX0_blank wsX0_blank) := goodIn_app (goodIn_of _ (by decide +kernel)) ggX0_blanks_X0_blank
theorem dX0_blanks_0 : decode cX0_blanks 0 = .ok (.iconst 0, 1) := by decide +kernel
theorem dX0_blanks_1 : decode cX0_blanks 1 = .ok (.istore_n 1, 1) := by decide +kernel
theorem dX0_blanks_2 : decode cX0_blanks 2 = .ok (.iconst 0, 1) := by decide +kernel
theorem dX0_blanks_3 : decode cX0_blanks 3 = .ok (.istore_n 2, 1) := by decide +kernel
theorem dX0_blanks_4 : decode cX0_blanks 4 = .ok (.iload_n 2, 1) := by decide +kernel
theorem dX0_blanks_5 : decode cX0_blanks 5 = .ok (.aload_n 0, 1) := by decide +kernel
theorem dX0_blanks_6 : decode cX0_blanks 6 = .ok (.invokevirtual 28, 3) := by decide +kernel
theorem dX0_blanks_9 : decode cX0_blanks 9 = .ok (.if_icmp .ge 17, 3) := by decide +kernel
theorem dX0_blanks_12 : decode cX0_blanks 12 = .ok (.iload_n 1, 1) := by decide +kernel
theorem dX0_blanks_13 : decode cX0_blanks 13 = .ok (.aload_n 0, 1) := by decide +kernel
theorem dX0_blanks_14 : decode cX0_blanks 14 = .ok (.iload_n 2, 1) := by decide +kernel
theorem dX0_blanks_15 : decode cX0_blanks 15 = .ok (.invokevirtual 41, 3) := by decide +kernel
theorem dX0_blanks_18 : decode cX0_blanks 18 = .ok (.iadd, 1) := by decide +kernel
theorem dX0_blanks_19 : decode cX0_blanks 19 = .ok (.istore_n 1, 1) := by decide +kernel
theorem dX0_blanks_20 : decode cX0_blanks 20 = .ok (.iinc 2 1, 3) := by decide +kernel
theorem dX0_blanks_23 : decode cX0_blanks 23 = .ok (.goto (-19), 3) := by decide +kernel
theorem dX0_blanks_26 : decode cX0_blanks 26 = .ok (.iload_n 1, 1) := by decide +kernel
theorem dX0_blanks_27 : decode cX0_blanks 27 = .ok (.ireturn, 1) := by decide +kernel
set_option maxRecDepth 20000 in
theorem ggX0_plates_X0_lots : GoodIn wsX0_plates wsX0_lots := goodIn_r _ [5, 6, 7, 8, 9, 10, 11, 12, 17, 18] (by decide +kernel) (by decide +kernel)
set_option maxRecDepth 20000 in
theorem gX0_plates_X0_lots : GoodIn wsX0_plates (wsV RX0 28 RX0 yX0_lots wsX0_lots) := goodIn_app (goodIn_of _ (by decide +kernel)) ggX0_plates_X0_lots
set_option maxRecDepth 20000 in
theorem ggX0_plates_X0_plate : GoodIn wsX0_plates wsX0_plate := goodIn_r _ [16, 6, 7, 8, 9, 10, 11, 12, 17, 18] (by decide +kernel) (by decide +kernel)
set_option maxRecDepth 20000 in
theorem gX0_plates_X0_plate : GoodIn wsX0_plates (wsV RX0 32 RX0 yX0_plate wsX0_plate) := goodIn_app (goodIn_of _ (by decide +kernel)) ggX0_plates_X0_plate
theorem dX0_plates_0 : decode cX0_plates 0 = .ok (.iconst 0, 1) := by decide +kernel
theorem dX0_plates_1 : decode cX0_plates 1 = .ok (.istore_n 2, 1) := by decide +kernel
theorem dX0_plates_2 : decode cX0_plates 2 = .ok (.iconst 0, 1) := by decide +kernel
theorem dX0_plates_3 : decode cX0_plates 3 = .ok (.istore_n 3, 1) := by decide +kernel
theorem dX0_plates_4 : decode cX0_plates 4 = .ok (.iload_n 3, 1) := by decide +kernel
theorem dX0_plates_5 : decode cX0_plates 5 = .ok (.aload_n 0, 1) := by decide +kernel
theorem dX0_plates_6 : decode cX0_plates 6 = .ok (.invokevirtual 28, 3) := by decide +kernel
theorem dX0_plates_9 : decode cX0_plates 9 = .ok (.if_icmp .ge 26, 3) := by decide +kernel
theorem dX0_plates_12 : decode cX0_plates 12 = .ok (.iload_n 2, 1) := by decide +kernel
theorem dX0_plates_13 : decode cX0_plates 13 = .ok (.aload_n 0, 1) := by decide +kernel
theorem dX0_plates_14 : decode cX0_plates 14 = .ok (.iload_n 3, 1) := by decide +kernel
theorem dX0_plates_15 : decode cX0_plates 15 = .ok (.invokevirtual 32, 3) := by decide +kernel
theorem dX0_plates_18 : decode cX0_plates 18 = .ok (.iload_n 1, 1) := by decide +kernel
theorem dX0_plates_19 : decode cX0_plates 19 = .ok (.if_icmp .ne 7, 3) := by decide +kernel
theorem dX0_plates_22 : decode cX0_plates 22 = .ok (.iconst 1, 1) := by decide +kernel
theorem dX0_plates_23 : decode cX0_plates 23 = .ok (.goto 4, 3) := by decide +kernel
theorem dX0_plates_26 : decode cX0_plates 26 = .ok (.iconst 0, 1) := by decide +kernel
theorem dX0_plates_27 : decode cX0_plates 27 = .ok (.iadd, 1) := by decide +kernel
theorem dX0_plates_28 : decode cX0_plates 28 = .ok (.istore_n 2, 1) := by decide +kernel
theorem dX0_plates_29 : decode cX0_plates 29 = .ok (.iinc 3 1, 3) := by decide +kernel
theorem dX0_plates_32 : decode cX0_plates 32 = .ok (.goto (-28), 3) := by decide +kernel
theorem dX0_plates_35 : decode cX0_plates 35 = .ok (.iload_n 2, 1) := by decide +kernel
theorem dX0_plates_36 : decode cX0_plates 36 = .ok (.ireturn, 1) := by decide +kernel
set_option maxRecDepth 20000 in
theorem ggX0_costOfGathering_X0_setting : GoodIn wsX0_costOfGathering wsX0_setting := goodIn_r _ [5, 6, 7, 8, 9, 10, 11, 12, 13, 14] (by decide +kernel) (by decide +kernel)
set_option maxRecDepth 20000 in
theorem gX0_costOfGathering_X0_setting : GoodIn wsX0_costOfGathering (wsV RX0 47 RX0 yX0_setting wsX0_setting) := goodIn_app (goodIn_of _ (by decide +kernel)) ggX0_costOfGathering_X0_setting
theorem dX0_costOfGathering_0 : decode cX0_costOfGathering 0 = .ok (.aload_n 0, 1) := by decide +kernel
theorem dX0_costOfGathering_1 : decode cX0_costOfGathering 1 = .ok (.iconst 1, 1) := by decide +kernel
theorem dX0_costOfGathering_2 : decode cX0_costOfGathering 2 = .ok (.invokevirtual 47, 3) := by decide +kernel
theorem dX0_costOfGathering_5 : decode cX0_costOfGathering 5 = .ok (.aload_n 0, 1) := by decide +kernel
theorem dX0_costOfGathering_6 : decode cX0_costOfGathering 6 = .ok (.iconst 4, 1) := by decide +kernel
theorem dX0_costOfGathering_7 : decode cX0_costOfGathering 7 = .ok (.invokevirtual 47, 3) := by decide +kernel
theorem dX0_costOfGathering_10 : decode cX0_costOfGathering 10 = .ok (.bipush 10, 2) := by decide +kernel
theorem dX0_costOfGathering_12 : decode cX0_costOfGathering 12 = .ok (.idiv, 1) := by decide +kernel
theorem dX0_costOfGathering_13 : decode cX0_costOfGathering 13 = .ok (.iadd, 1) := by decide +kernel
theorem dX0_costOfGathering_14 : decode cX0_costOfGathering 14 = .ok (.ireturn, 1) := by decide +kernel
set_option maxRecDepth 20000 in
theorem ggX0_putLot_X5_put : GoodIn wsX0_putLot wsX5_put := goodIn_r _ [6, 7, 14] (by decide +kernel) (by decide +kernel)
set_option maxRecDepth 20000 in
theorem gX0_putLot_X5_put : GoodIn wsX0_putLot (wsV RX0 20 RX5 yX5_put wsX5_put) := goodIn_app (goodIn_of _ (by decide +kernel)) ggX0_putLot_X5_put
set_option maxRecDepth 20000 in
theorem ggX0_putLot_X0_putChoice : GoodIn wsX0_putLot wsX0_putChoice := goodIn_r _ [12, 1, 2, 3, 4, 5, 6, 7, 13, 14] (by decide +kernel) (by decide +kernel)
set_option maxRecDepth 20000 in
theorem gX0_putLot_X0_putChoice : GoodIn wsX0_putLot (wsV RX0 50 RX0 yX0_putChoice wsX0_putChoice) := goodIn_app (goodIn_of _ (by decide +kernel)) ggX0_putLot_X0_putChoice
theorem dX0_putLot_0 : decode cX0_putLot 0 = .ok (.aload_n 0, 1) := by decide +kernel
theorem dX0_putLot_1 : decode cX0_putLot 1 = .ok (.getfield 16, 3) := by decide +kernel
theorem dX0_putLot_4 : decode cX0_putLot 4 = .ok (.iload_n 1, 1) := by decide +kernel
theorem dX0_putLot_5 : decode cX0_putLot 5 = .ok (.iconst 4, 1) := by decide +kernel
theorem dX0_putLot_6 : decode cX0_putLot 6 = .ok (.imul, 1) := by decide +kernel
theorem dX0_putLot_7 : decode cX0_putLot 7 = .ok (.iconst 1, 1) := by decide +kernel
theorem dX0_putLot_8 : decode cX0_putLot 8 = .ok (.iadd, 1) := by decide +kernel
theorem dX0_putLot_9 : decode cX0_putLot 9 = .ok (.iload_n 2, 1) := by decide +kernel
theorem dX0_putLot_10 : decode cX0_putLot 10 = .ok (.invokevirtual 20, 3) := by decide +kernel
theorem dX0_putLot_13 : decode cX0_putLot 13 = .ok (.aload_n 0, 1) := by decide +kernel
theorem dX0_putLot_14 : decode cX0_putLot 14 = .ok (.getfield 16, 3) := by decide +kernel
theorem dX0_putLot_17 : decode cX0_putLot 17 = .ok (.iload_n 1, 1) := by decide +kernel
theorem dX0_putLot_18 : decode cX0_putLot 18 = .ok (.iconst 4, 1) := by decide +kernel
theorem dX0_putLot_19 : decode cX0_putLot 19 = .ok (.imul, 1) := by decide +kernel
theorem dX0_putLot_20 : decode cX0_putLot 20 = .ok (.iconst 2, 1) := by decide +kernel
theorem dX0_putLot_21 : decode cX0_putLot 21 = .ok (.iadd, 1) := by decide +kernel
theorem dX0_putLot_22 : decode cX0_putLot 22 = .ok (.iload_n 3, 1) := by decide +kernel
theorem dX0_putLot_23 : decode cX0_putLot 23 = .ok (.invokevirtual 20, 3) := by decide +kernel
theorem dX0_putLot_26 : decode cX0_putLot 26 = .ok (.aload_n 0, 1) := by decide +kernel
theorem dX0_putLot_27 : decode cX0_putLot 27 = .ok (.iload_n 1, 1) := by decide +kernel
theorem dX0_putLot_28 : decode cX0_putLot 28 = .ok (.iload 4, 2) := by decide +kernel
theorem dX0_putLot_30 : decode cX0_putLot 30 = .ok (.iload 5, 2) := by decide +kernel
theorem dX0_putLot_32 : decode cX0_putLot 32 = .ok (.invokevirtual 50, 3) := by decide +kernel
theorem dX0_putLot_35 : decode cX0_putLot 35 = .ok (.return_, 1) := by decide +kernel
set_option maxRecDepth 20000 in
theorem ggX0_putChoice_X5_put : GoodIn wsX0_putChoice wsX5_put := goodIn_r _ [6, 7, 9] (by decide +kernel) (by decide +kernel)
set_option maxRecDepth 20000 in
theorem gX0_putChoice_X5_put : GoodIn wsX0_putChoice (wsV RX0 20 RX5 yX5_put wsX5_put) := goodIn_app (goodIn_of _ (by decide +kernel)) ggX0_putChoice_X5_put
theorem dX0_putChoice_0 : decode cX0_putChoice 0 = .ok (.aload_n 0, 1) := by decide +kernel
theorem dX0_putChoice_1 : decode cX0_putChoice 1 = .ok (.getfield 16, 3) := by decide +kernel
theorem dX0_putChoice_4 : decode cX0_putChoice 4 = .ok (.iload_n 1, 1) := by decide +kernel
theorem dX0_putChoice_5 : decode cX0_putChoice 5 = .ok (.iconst 4, 1) := by decide +kernel
theorem dX0_putChoice_6 : decode cX0_putChoice 6 = .ok (.imul, 1) := by decide +kernel
theorem dX0_putChoice_7 : decode cX0_putChoice 7 = .ok (.iconst 3, 1) := by decide +kernel
theorem dX0_putChoice_8 : decode cX0_putChoice 8 = .ok (.iadd, 1) := by decide +kernel
theorem dX0_putChoice_9 : decode cX0_putChoice 9 = .ok (.iload_n 2, 1) := by decide +kernel
theorem dX0_putChoice_10 : decode cX0_putChoice 10 = .ok (.invokevirtual 20, 3) := by decide +kernel
theorem dX0_putChoice_13 : decode cX0_putChoice 13 = .ok (.aload_n 0, 1) := by decide +kernel
theorem dX0_putChoice_14 : decode cX0_putChoice 14 = .ok (.getfield 16, 3) := by decide +kernel
theorem dX0_putChoice_17 : decode cX0_putChoice 17 = .ok (.iload_n 1, 1) := by decide +kernel
theorem dX0_putChoice_18 : decode cX0_putChoice 18 = .ok (.iconst 4, 1) := by decide +kernel
theorem dX0_putChoice_19 : decode cX0_putChoice 19 = .ok (.imul, 1) := by decide +kernel
theorem dX0_putChoice_20 : decode cX0_putChoice 20 = .ok (.iconst 4, 1) := by decide +kernel
theorem dX0_putChoice_21 : decode cX0_putChoice 21 = .ok (.iadd, 1) := by decide +kernel
theorem dX0_putChoice_22 : decode cX0_putChoice 22 = .ok (.iload_n 3, 1) := by decide +kernel
theorem dX0_putChoice_23 : decode cX0_putChoice 23 = .ok (.invokevirtual 20, 3) := by decide +kernel
theorem dX0_putChoice_26 : decode cX0_putChoice 26 = .ok (.return_, 1) := by decide +kernel
set_option maxRecDepth 20000 in
theorem ggX0_append_X0_lots : GoodIn wsX0_append wsX0_lots := goodIn_r _ [6, 1, 7, 8, 9, 10, 11, 12, 25, 26] (by decide +kernel) (by decide +kernel)
set_option maxRecDepth 20000 in
theorem gX0_append_X0_lots : GoodIn wsX0_append (wsV RX0 28 RX0 yX0_lots wsX0_lots) := goodIn_app (goodIn_of _ (by decide +kernel)) ggX0_append_X0_lots
set_option maxRecDepth 20000 in
theorem ggX0_append_X0_putLot : GoodIn wsX0_append wsX0_putLot := goodIn_r _ [16, 1, 17, 18, 19, 10, 20, 12, 21, 22, 23, 5, 24, 25, 26] (by decide +kernel) (by decide +kernel)
set_option maxRecDepth 20000 in
theorem gX0_append_X0_putLot : GoodIn wsX0_append (wsV RX0 54 RX0 yX0_putLot wsX0_putLot) := goodIn_app (goodIn_of _ (by decide +kernel)) ggX0_append_X0_putLot
set_option maxRecDepth 20000 in
theorem ggX0_append_X5_put : GoodIn wsX0_append wsX5_put := goodIn_r _ [20, 12, 26] (by decide +kernel) (by decide +kernel)
set_option maxRecDepth 20000 in
theorem gX0_append_X5_put : GoodIn wsX0_append (wsV RX0 20 RX5 yX5_put wsX5_put) := goodIn_app (goodIn_of _ (by decide +kernel)) ggX0_append_X5_put
theorem dX0_append_0 : decode cX0_append 0 = .ok (.aload_n 0, 1) := by decide +kernel
theorem dX0_append_1 : decode cX0_append 1 = .ok (.invokevirtual 28, 3) := by decide +kernel
theorem dX0_append_4 : decode cX0_append 4 = .ok (.istore 5, 2) := by decide +kernel
theorem dX0_append_6 : decode cX0_append 6 = .ok (.iload 5, 2) := by decide +kernel
theorem dX0_append_8 : decode cX0_append 8 = .ok (.bipush 12, 2) := by decide +kernel
theorem dX0_append_10 : decode cX0_append 10 = .ok (.if_icmp .ge 26, 3) := by decide +kernel
theorem dX0_append_13 : decode cX0_append 13 = .ok (.aload_n 0, 1) := by decide +kernel
theorem dX0_append_14 : decode cX0_append 14 = .ok (.iload 5, 2) := by decide +kernel
theorem dX0_append_16 : decode cX0_append 16 = .ok (.iload_n 1, 1) := by decide +kernel
theorem dX0_append_17 : decode cX0_append 17 = .ok (.iload_n 2, 1) := by decide +kernel
theorem dX0_append_18 : decode cX0_append 18 = .ok (.iload_n 3, 1) := by decide +kernel
theorem dX0_append_19 : decode cX0_append 19 = .ok (.iload 4, 2) := by decide +kernel
theorem dX0_append_21 : decode cX0_append 21 = .ok (.invokevirtual 54, 3) := by decide +kernel
theorem dX0_append_24 : decode cX0_append 24 = .ok (.aload_n 0, 1) := by decide +kernel
theorem dX0_append_25 : decode cX0_append 25 = .ok (.getfield 16, 3) := by decide +kernel
theorem dX0_append_28 : decode cX0_append 28 = .ok (.iconst 0, 1) := by decide +kernel
theorem dX0_append_29 : decode cX0_append 29 = .ok (.iload 5, 2) := by decide +kernel
theorem dX0_append_31 : decode cX0_append 31 = .ok (.iconst 1, 1) := by decide +kernel
theorem dX0_append_32 : decode cX0_append 32 = .ok (.iadd, 1) := by decide +kernel
theorem dX0_append_33 : decode cX0_append 33 = .ok (.invokevirtual 20, 3) := by decide +kernel
theorem dX0_append_36 : decode cX0_append 36 = .ok (.return_, 1) := by decide +kernel
set_option maxRecDepth 20000 in
theorem ggX0_empty_X5_put : GoodIn wsX0_empty wsX5_put := goodIn_r _ [6, 7, 9] (by decide +kernel) (by decide +kernel)
set_option maxRecDepth 20000 in
theorem gX0_empty_X5_put : GoodIn wsX0_empty (wsV RX0 20 RX5 yX5_put wsX5_put) := goodIn_app (goodIn_of _ (by decide +kernel)) ggX0_empty_X5_put
theorem dX0_empty_0 : decode cX0_empty 0 = .ok (.aload_n 0, 1) := by decide +kernel
theorem dX0_empty_1 : decode cX0_empty 1 = .ok (.getfield 16, 3) := by decide +kernel
theorem dX0_empty_4 : decode cX0_empty 4 = .ok (.iconst 0, 1) := by decide +kernel
theorem dX0_empty_5 : decode cX0_empty 5 = .ok (.iconst 0, 1) := by decide +kernel
theorem dX0_empty_6 : decode cX0_empty 6 = .ok (.invokevirtual 20, 3) := by decide +kernel
theorem dX0_empty_9 : decode cX0_empty 9 = .ok (.return_, 1) := by decide +kernel
set_option maxRecDepth 20000 in
theorem ggX0_drop_X0_lots : GoodIn wsX0_drop wsX0_lots := goodIn_r _ [6, 1, 7, 8, 9, 10, 11, 12, 49, 50] (by decide +kernel) (by decide +kernel)
set_option maxRecDepth 20000 in
theorem gX0_drop_X0_lots : GoodIn wsX0_drop (wsV RX0 28 RX0 yX0_lots wsX0_lots) := goodIn_app (goodIn_of _ (by decide +kernel)) ggX0_drop_X0_lots
set_option maxRecDepth 20000 in
theorem ggX0_drop_X0_shift : GoodIn wsX0_drop wsX0_shift := goodIn_r _ [16, 17, 18, 19, 5, 20, 1, 7, 8, 9, 10, 11, 12, 21, 22, 23, 24, 25, 26, 27, 28, 29, 30, 31, 32, 33, 34, 35, 36, 37, 38, 39, 40, 41, 42, 43, 44, 45, 46, 47, 48, 49, 50] (by decide +kernel) (by decide +kernel)
set_option maxRecDepth 20000 in
theorem gX0_drop_X0_shift : GoodIn wsX0_drop (wsV RX0 58 RX0 yX0_shift wsX0_shift) := goodIn_app (goodIn_of _ (by decide +kernel)) ggX0_drop_X0_shift
set_option maxRecDepth 20000 in
theorem ggX0_drop_X5_put : GoodIn wsX0_drop wsX5_put := goodIn_r _ [44, 12, 50] (by decide +kernel) (by decide +kernel)
set_option maxRecDepth 20000 in
theorem gX0_drop_X5_put : GoodIn wsX0_drop (wsV RX0 20 RX5 yX5_put wsX5_put) := goodIn_app (goodIn_of _ (by decide +kernel)) ggX0_drop_X5_put
theorem dX0_drop_0 : decode cX0_drop 0 = .ok (.aload_n 0, 1) := by decide +kernel
theorem dX0_drop_1 : decode cX0_drop 1 = .ok (.invokevirtual 28, 3) := by decide +kernel
theorem dX0_drop_4 : decode cX0_drop 4 = .ok (.iconst 1, 1) := by decide +kernel
theorem dX0_drop_5 : decode cX0_drop 5 = .ok (.isub, 1) := by decide +kernel
theorem dX0_drop_6 : decode cX0_drop 6 = .ok (.istore_n 2, 1) := by decide +kernel
theorem dX0_drop_7 : decode cX0_drop 7 = .ok (.aload_n 0, 1) := by decide +kernel
theorem dX0_drop_8 : decode cX0_drop 8 = .ok (.iload_n 1, 1) := by decide +kernel
theorem dX0_drop_9 : decode cX0_drop 9 = .ok (.iload_n 2, 1) := by decide +kernel
theorem dX0_drop_10 : decode cX0_drop 10 = .ok (.invokevirtual 58, 3) := by decide +kernel
theorem dX0_drop_13 : decode cX0_drop 13 = .ok (.aload_n 0, 1) := by decide +kernel
theorem dX0_drop_14 : decode cX0_drop 14 = .ok (.getfield 16, 3) := by decide +kernel
theorem dX0_drop_17 : decode cX0_drop 17 = .ok (.iconst 0, 1) := by decide +kernel
theorem dX0_drop_18 : decode cX0_drop 18 = .ok (.iload_n 2, 1) := by decide +kernel
theorem dX0_drop_19 : decode cX0_drop 19 = .ok (.invokevirtual 20, 3) := by decide +kernel
theorem dX0_drop_22 : decode cX0_drop 22 = .ok (.return_, 1) := by decide +kernel
set_option maxRecDepth 20000 in
theorem ggX0_shift_X0_text : GoodIn wsX0_shift wsX0_text := goodIn_r _ [5, 6, 7, 8, 9, 10, 11, 12, 41, 42] (by decide +kernel) (by decide +kernel)
set_option maxRecDepth 20000 in
theorem gX0_shift_X0_text : GoodIn wsX0_shift (wsV RX0 35 RX0 yX0_text wsX0_text) := goodIn_app (goodIn_of _ (by decide +kernel)) ggX0_shift_X0_text
set_option maxRecDepth 20000 in
theorem ggX0_shift_X0_plate : GoodIn wsX0_shift wsX0_plate := goodIn_r _ [16, 6, 7, 8, 9, 10, 11, 12, 41, 42] (by decide +kernel) (by decide +kernel)
set_option maxRecDepth 20000 in
theorem gX0_shift_X0_plate : GoodIn wsX0_shift (wsV RX0 32 RX0 yX0_plate wsX0_plate) := goodIn_app (goodIn_of _ (by decide +kernel)) ggX0_shift_X0_plate
set_option maxRecDepth 20000 in
theorem ggX0_shift_X0_blank : GoodIn wsX0_shift wsX0_blank := goodIn_r _ [20, 6, 7, 8, 9, 10, 11, 12, 41, 42] (by decide +kernel) (by decide +kernel)
set_option maxRecDepth 20000 in
theorem gX0_shift_X0_blank : GoodIn wsX0_shift (wsV RX0 41 RX0 yX0_blank wsX0_blank) := goodIn_app (goodIn_of _ (by decide +kernel)) ggX0_shift_X0_blank
set_option maxRecDepth 20000 in
theorem ggX0_shift_X0_place : GoodIn wsX0_shift wsX0_place := goodIn_r _ [24, 6, 7, 8, 9, 10, 11, 12, 41, 42] (by decide +kernel) (by decide +kernel)
set_option maxRecDepth 20000 in
theorem gX0_shift_X0_place : GoodIn wsX0_shift (wsV RX0 61 RX0 yX0_place wsX0_place) := goodIn_app (goodIn_of _ (by decide +kernel)) ggX0_shift_X0_place
set_option maxRecDepth 20000 in
theorem ggX0_shift_X0_copyLot : GoodIn wsX0_shift wsX0_copyLot := goodIn_r _ [28, 1, 2, 3, 4, 5, 6, 7, 8, 9, 10, 11, 12, 13, 14, 15, 16, 17, 18, 19, 20, 21, 22, 23, 24, 29, 30, 31, 32, 33, 34, 35, 36, 37, 38, 39, 40, 41, 42] (by decide +kernel) (by decide +kernel)
set_option maxRecDepth 20000 in
theorem gX0_shift_X0_copyLot : GoodIn wsX0_shift (wsV RX0 64 RX0 yX0_copyLot wsX0_copyLot) := goodIn_app (goodIn_of _ (by decide +kernel)) ggX0_shift_X0_copyLot
set_option maxRecDepth 20000 in
theorem ggX0_shift_X0_putLot : GoodIn wsX0_shift wsX0_putLot := goodIn_r _ [32, 6, 33, 34, 35, 10, 36, 12, 37, 38, 39, 4, 40, 41, 42] (by decide +kernel) (by decide +kernel)
set_option maxRecDepth 20000 in
theorem gX0_shift_X0_putLot : GoodIn wsX0_shift (wsV RX0 54 RX0 yX0_putLot wsX0_putLot) := goodIn_app (goodIn_of _ (by decide +kernel)) ggX0_shift_X0_putLot
theorem dX0_shift_0 : decode cX0_shift 0 = .ok (.aload_n 0, 1) := by decide +kernel
theorem dX0_shift_1 : decode cX0_shift 1 = .ok (.iload_n 1, 1) := by decide +kernel
theorem dX0_shift_2 : decode cX0_shift 2 = .ok (.invokevirtual 35, 3) := by decide +kernel
theorem dX0_shift_5 : decode cX0_shift 5 = .ok (.istore_n 3, 1) := by decide +kernel
theorem dX0_shift_6 : decode cX0_shift 6 = .ok (.aload_n 0, 1) := by decide +kernel
theorem dX0_shift_7 : decode cX0_shift 7 = .ok (.iload_n 1, 1) := by decide +kernel
theorem dX0_shift_8 : decode cX0_shift 8 = .ok (.invokevirtual 32, 3) := by decide +kernel
theorem dX0_shift_11 : decode cX0_shift 11 = .ok (.istore 4, 2) := by decide +kernel
theorem dX0_shift_13 : decode cX0_shift 13 = .ok (.aload_n 0, 1) := by decide +kernel
theorem dX0_shift_14 : decode cX0_shift 14 = .ok (.iload_n 1, 1) := by decide +kernel
theorem dX0_shift_15 : decode cX0_shift 15 = .ok (.invokevirtual 41, 3) := by decide +kernel
theorem dX0_shift_18 : decode cX0_shift 18 = .ok (.istore 5, 2) := by decide +kernel
theorem dX0_shift_20 : decode cX0_shift 20 = .ok (.aload_n 0, 1) := by decide +kernel
theorem dX0_shift_21 : decode cX0_shift 21 = .ok (.iload_n 1, 1) := by decide +kernel
theorem dX0_shift_22 : decode cX0_shift 22 = .ok (.invokevirtual 61, 3) := by decide +kernel
theorem dX0_shift_25 : decode cX0_shift 25 = .ok (.istore 6, 2) := by decide +kernel
theorem dX0_shift_27 : decode cX0_shift 27 = .ok (.iload_n 1, 1) := by decide +kernel
theorem dX0_shift_28 : decode cX0_shift 28 = .ok (.istore 7, 2) := by decide +kernel
theorem dX0_shift_30 : decode cX0_shift 30 = .ok (.iload 7, 2) := by decide +kernel
theorem dX0_shift_32 : decode cX0_shift 32 = .ok (.iload_n 2, 1) := by decide +kernel
theorem dX0_shift_33 : decode cX0_shift 33 = .ok (.if_icmp .ge 19, 3) := by decide +kernel
theorem dX0_shift_36 : decode cX0_shift 36 = .ok (.aload_n 0, 1) := by decide +kernel
theorem dX0_shift_37 : decode cX0_shift 37 = .ok (.iload 7, 2) := by decide +kernel
theorem dX0_shift_39 : decode cX0_shift 39 = .ok (.iload 7, 2) := by decide +kernel
theorem dX0_shift_41 : decode cX0_shift 41 = .ok (.iconst 1, 1) := by decide +kernel
theorem dX0_shift_42 : decode cX0_shift 42 = .ok (.iadd, 1) := by decide +kernel
theorem dX0_shift_43 : decode cX0_shift 43 = .ok (.invokevirtual 64, 3) := by decide +kernel
theorem dX0_shift_46 : decode cX0_shift 46 = .ok (.iinc 7 1, 3) := by decide +kernel
theorem dX0_shift_49 : decode cX0_shift 49 = .ok (.goto (-19), 3) := by decide +kernel
theorem dX0_shift_52 : decode cX0_shift 52 = .ok (.iload_n 1, 1) := by decide +kernel
theorem dX0_shift_53 : decode cX0_shift 53 = .ok (.istore 7, 2) := by decide +kernel
theorem dX0_shift_55 : decode cX0_shift 55 = .ok (.iload 7, 2) := by decide +kernel
theorem dX0_shift_57 : decode cX0_shift 57 = .ok (.iload_n 2, 1) := by decide +kernel
theorem dX0_shift_58 : decode cX0_shift 58 = .ok (.if_icmp .le 19, 3) := by decide +kernel
theorem dX0_shift_61 : decode cX0_shift 61 = .ok (.aload_n 0, 1) := by decide +kernel
theorem dX0_shift_62 : decode cX0_shift 62 = .ok (.iload 7, 2) := by decide +kernel
theorem dX0_shift_64 : decode cX0_shift 64 = .ok (.iload 7, 2) := by decide +kernel
theorem dX0_shift_66 : decode cX0_shift 66 = .ok (.iconst 1, 1) := by decide +kernel
theorem dX0_shift_67 : decode cX0_shift 67 = .ok (.isub, 1) := by decide +kernel
theorem dX0_shift_68 : decode cX0_shift 68 = .ok (.invokevirtual 64, 3) := by decide +kernel
theorem dX0_shift_71 : decode cX0_shift 71 = .ok (.iinc 7 (-1), 3) := by decide +kernel
theorem dX0_shift_74 : decode cX0_shift 74 = .ok (.goto (-19), 3) := by decide +kernel
theorem dX0_shift_77 : decode cX0_shift 77 = .ok (.aload_n 0, 1) := by decide +kernel
theorem dX0_shift_78 : decode cX0_shift 78 = .ok (.iload_n 2, 1) := by decide +kernel
theorem dX0_shift_79 : decode cX0_shift 79 = .ok (.iload_n 3, 1) := by decide +kernel
theorem dX0_shift_80 : decode cX0_shift 80 = .ok (.iload 4, 2) := by decide +kernel
theorem dX0_shift_82 : decode cX0_shift 82 = .ok (.iload 5, 2) := by decide +kernel
theorem dX0_shift_84 : decode cX0_shift 84 = .ok (.iload 6, 2) := by decide +kernel
theorem dX0_shift_86 : decode cX0_shift 86 = .ok (.invokevirtual 54, 3) := by decide +kernel
theorem dX0_shift_89 : decode cX0_shift 89 = .ok (.return_, 1) := by decide +kernel
set_option maxRecDepth 20000 in
theorem ggX0_copyLot_X0_text : GoodIn wsX0_copyLot wsX0_text := goodIn_r _ [5, 6, 7, 8, 9, 10, 11, 12, 37, 38] (by decide +kernel) (by decide +kernel)
set_option maxRecDepth 20000 in
theorem gX0_copyLot_X0_text : GoodIn wsX0_copyLot (wsV RX0 35 RX0 yX0_text wsX0_text) := goodIn_app (goodIn_of _ (by decide +kernel)) ggX0_copyLot_X0_text
set_option maxRecDepth 20000 in
theorem ggX0_copyLot_X0_plate : GoodIn wsX0_copyLot wsX0_plate := goodIn_r _ [16, 6, 7, 8, 9, 10, 11, 12, 37, 38] (by decide +kernel) (by decide +kernel)
set_option maxRecDepth 20000 in
theorem gX0_copyLot_X0_plate : GoodIn wsX0_copyLot (wsV RX0 32 RX0 yX0_plate wsX0_plate) := goodIn_app (goodIn_of _ (by decide +kernel)) ggX0_copyLot_X0_plate
set_option maxRecDepth 20000 in
theorem ggX0_copyLot_X0_blank : GoodIn wsX0_copyLot wsX0_blank := goodIn_r _ [20, 6, 7, 8, 9, 10, 11, 12, 37, 38] (by decide +kernel) (by decide +kernel)
set_option maxRecDepth 20000 in
theorem gX0_copyLot_X0_blank : GoodIn wsX0_copyLot (wsV RX0 41 RX0 yX0_blank wsX0_blank) := goodIn_app (goodIn_of _ (by decide +kernel)) ggX0_copyLot_X0_blank
set_option maxRecDepth 20000 in
theorem ggX0_copyLot_X0_place : GoodIn wsX0_copyLot wsX0_place := goodIn_r _ [24, 6, 7, 8, 9, 10, 11, 12, 37, 38] (by decide +kernel) (by decide +kernel)
set_option maxRecDepth 20000 in
theorem gX0_copyLot_X0_place : GoodIn wsX0_copyLot (wsV RX0 61 RX0 yX0_place wsX0_place) := goodIn_app (goodIn_of _ (by decide +kernel)) ggX0_copyLot_X0_place
set_option maxRecDepth 20000 in
theorem ggX0_copyLot_X0_putLot : GoodIn wsX0_copyLot wsX0_putLot := goodIn_r _ [28, 6, 29, 30, 31, 10, 32, 12, 33, 34, 35, 4, 36, 37, 38] (by decide +kernel) (by decide +kernel)
set_option maxRecDepth 20000 in
theorem gX0_copyLot_X0_putLot : GoodIn wsX0_copyLot (wsV RX0 54 RX0 yX0_putLot wsX0_putLot) := goodIn_app (goodIn_of _ (by decide +kernel)) ggX0_copyLot_X0_putLot
theorem dX0_copyLot_0 : decode cX0_copyLot 0 = .ok (.aload_n 0, 1) := by decide +kernel
theorem dX0_copyLot_1 : decode cX0_copyLot 1 = .ok (.iload_n 1, 1) := by decide +kernel
theorem dX0_copyLot_2 : decode cX0_copyLot 2 = .ok (.aload_n 0, 1) := by decide +kernel
theorem dX0_copyLot_3 : decode cX0_copyLot 3 = .ok (.iload_n 2, 1) := by decide +kernel
theorem dX0_copyLot_4 : decode cX0_copyLot 4 = .ok (.invokevirtual 35, 3) := by decide +kernel
theorem dX0_copyLot_7 : decode cX0_copyLot 7 = .ok (.aload_n 0, 1) := by decide +kernel
theorem dX0_copyLot_8 : decode cX0_copyLot 8 = .ok (.iload_n 2, 1) := by decide +kernel
theorem dX0_copyLot_9 : decode cX0_copyLot 9 = .ok (.invokevirtual 32, 3) := by decide +kernel
theorem dX0_copyLot_12 : decode cX0_copyLot 12 = .ok (.aload_n 0, 1) := by decide +kernel
theorem dX0_copyLot_13 : decode cX0_copyLot 13 = .ok (.iload_n 2, 1) := by decide +kernel
theorem dX0_copyLot_14 : decode cX0_copyLot 14 = .ok (.invokevirtual 41, 3) := by decide +kernel
theorem dX0_copyLot_17 : decode cX0_copyLot 17 = .ok (.aload_n 0, 1) := by decide +kernel
theorem dX0_copyLot_18 : decode cX0_copyLot 18 = .ok (.iload_n 2, 1) := by decide +kernel
theorem dX0_copyLot_19 : decode cX0_copyLot 19 = .ok (.invokevirtual 61, 3) := by decide +kernel
theorem dX0_copyLot_22 : decode cX0_copyLot 22 = .ok (.invokevirtual 54, 3) := by decide +kernel
theorem dX0_copyLot_25 : decode cX0_copyLot 25 = .ok (.return_, 1) := by decide +kernel
set_option maxRecDepth 20000 in
theorem ggX0_sameLots_X0_lots : GoodIn wsX0_sameLots wsX0_lots := goodIn_r _ [6, 1, 7, 8, 9, 10, 11, 12, 13, 14] (by decide +kernel) (by decide +kernel)
set_option maxRecDepth 20000 in
theorem gX0_sameLots_X0_lots : GoodIn wsX0_sameLots (wsV RX0 28 RX0 yX0_lots wsX0_lots) := goodIn_app (goodIn_of _ (by decide +kernel)) ggX0_sameLots_X0_lots
set_option maxRecDepth 20000 in
theorem ggX0_sameLots_X5_at : GoodIn wsX0_sameLots wsX5_at := goodIn_r _ [11, 12, 14] (by decide +kernel) (by decide +kernel)
set_option maxRecDepth 20000 in
theorem gX0_sameLots_X5_at : GoodIn wsX0_sameLots (wsV RX0 24 RX5 yX5_at wsX5_at) := goodIn_app (goodIn_of _ (by decide +kernel)) ggX0_sameLots_X5_at
theorem dX0_sameLots_0 : decode cX0_sameLots 0 = .ok (.aload_n 0, 1) := by decide +kernel
theorem dX0_sameLots_1 : decode cX0_sameLots 1 = .ok (.invokevirtual 28, 3) := by decide +kernel
theorem dX0_sameLots_4 : decode cX0_sameLots 4 = .ok (.aload_n 1, 1) := by decide +kernel
theorem dX0_sameLots_5 : decode cX0_sameLots 5 = .ok (.invokevirtual 28, 3) := by decide +kernel
theorem dX0_sameLots_8 : decode cX0_sameLots 8 = .ok (.if_icmp .ne 7, 3) := by decide +kernel
theorem dX0_sameLots_11 : decode cX0_sameLots 11 = .ok (.iconst 1, 1) := by decide +kernel
theorem dX0_sameLots_12 : decode cX0_sameLots 12 = .ok (.goto 4, 3) := by decide +kernel
theorem dX0_sameLots_15 : decode cX0_sameLots 15 = .ok (.iconst 0, 1) := by decide +kernel
theorem dX0_sameLots_16 : decode cX0_sameLots 16 = .ok (.istore_n 2, 1) := by decide +kernel
theorem dX0_sameLots_17 : decode cX0_sameLots 17 = .ok (.iconst 1, 1) := by decide +kernel
theorem dX0_sameLots_18 : decode cX0_sameLots 18 = .ok (.istore_n 3, 1) := by decide +kernel
theorem dX0_sameLots_19 : decode cX0_sameLots 19 = .ok (.iload_n 3, 1) := by decide +kernel
theorem dX0_sameLots_20 : decode cX0_sameLots 20 = .ok (.aload_n 0, 1) := by decide +kernel
theorem dX0_sameLots_21 : decode cX0_sameLots 21 = .ok (.invokevirtual 28, 3) := by decide +kernel
theorem dX0_sameLots_24 : decode cX0_sameLots 24 = .ok (.iconst 4, 1) := by decide +kernel
theorem dX0_sameLots_25 : decode cX0_sameLots 25 = .ok (.imul, 1) := by decide +kernel
theorem dX0_sameLots_26 : decode cX0_sameLots 26 = .ok (.if_icmp .gt 38, 3) := by decide +kernel
theorem dX0_sameLots_29 : decode cX0_sameLots 29 = .ok (.iload_n 2, 1) := by decide +kernel
theorem dX0_sameLots_30 : decode cX0_sameLots 30 = .ok (.ifCond .eq 26, 3) := by decide +kernel
theorem dX0_sameLots_33 : decode cX0_sameLots 33 = .ok (.aload_n 0, 1) := by decide +kernel
theorem dX0_sameLots_34 : decode cX0_sameLots 34 = .ok (.getfield 16, 3) := by decide +kernel
theorem dX0_sameLots_37 : decode cX0_sameLots 37 = .ok (.iload_n 3, 1) := by decide +kernel
theorem dX0_sameLots_38 : decode cX0_sameLots 38 = .ok (.invokevirtual 24, 3) := by decide +kernel
theorem dX0_sameLots_41 : decode cX0_sameLots 41 = .ok (.aload_n 1, 1) := by decide +kernel
theorem dX0_sameLots_42 : decode cX0_sameLots 42 = .ok (.getfield 16, 3) := by decide +kernel
theorem dX0_sameLots_45 : decode cX0_sameLots 45 = .ok (.iload_n 3, 1) := by decide +kernel
theorem dX0_sameLots_46 : decode cX0_sameLots 46 = .ok (.invokevirtual 24, 3) := by decide +kernel
theorem dX0_sameLots_49 : decode cX0_sameLots 49 = .ok (.if_icmp .ne 7, 3) := by decide +kernel
theorem dX0_sameLots_52 : decode cX0_sameLots 52 = .ok (.iconst 1, 1) := by decide +kernel
theorem dX0_sameLots_53 : decode cX0_sameLots 53 = .ok (.goto 4, 3) := by decide +kernel
theorem dX0_sameLots_56 : decode cX0_sameLots 56 = .ok (.iconst 0, 1) := by decide +kernel
theorem dX0_sameLots_57 : decode cX0_sameLots 57 = .ok (.istore_n 2, 1) := by decide +kernel
theorem dX0_sameLots_58 : decode cX0_sameLots 58 = .ok (.iinc 3 1, 3) := by decide +kernel
theorem dX0_sameLots_61 : decode cX0_sameLots 61 = .ok (.goto (-42), 3) := by decide +kernel
theorem dX0_sameLots_64 : decode cX0_sameLots 64 = .ok (.iload_n 2, 1) := by decide +kernel
theorem dX0_sameLots_65 : decode cX0_sameLots 65 = .ok (.ireturn, 1) := by decide +kernel
set_option maxRecDepth 20000 in
theorem ggX0_takeLots_X5_copy : GoodIn wsX0_takeLots wsX5_copy := goodIn_r _ [6, 7, 8, 9, 5, 10, 11, 12, 13, 14, 15, 17] (by decide +kernel) (by decide +kernel)
set_option maxRecDepth 20000 in
theorem gX0_takeLots_X5_copy : GoodIn wsX0_takeLots (wsV RX0 67 RX5 yX5_copy wsX5_copy) := goodIn_app (goodIn_of _ (by decide +kernel)) ggX0_takeLots_X5_copy
theorem dX0_takeLots_0 : decode cX0_takeLots 0 = .ok (.aload_n 0, 1) := by decide +kernel
theorem dX0_takeLots_1 : decode cX0_takeLots 1 = .ok (.getfield 16, 3) := by decide +kernel
theorem dX0_takeLots_4 : decode cX0_takeLots 4 = .ok (.iconst 0, 1) := by decide +kernel
theorem dX0_takeLots_5 : decode cX0_takeLots 5 = .ok (.aload_n 1, 1) := by decide +kernel
theorem dX0_takeLots_6 : decode cX0_takeLots 6 = .ok (.getfield 16, 3) := by decide +kernel
theorem dX0_takeLots_9 : decode cX0_takeLots 9 = .ok (.iconst 0, 1) := by decide +kernel
theorem dX0_takeLots_10 : decode cX0_takeLots 10 = .ok (.bipush 49, 2) := by decide +kernel
theorem dX0_takeLots_12 : decode cX0_takeLots 12 = .ok (.invokevirtual 67, 3) := by decide +kernel
theorem dX0_takeLots_15 : decode cX0_takeLots 15 = .ok (.return_, 1) := by decide +kernel
set_option maxRecDepth 20000 in
theorem ggX0_copy_X5_copy : GoodIn wsX0_copy wsX5_copy := goodIn_r _ [6, 7, 8, 9, 5, 10, 11, 12, 13, 14, 15, 17] (by decide +kernel) (by decide +kernel)
set_option maxRecDepth 20000 in
theorem gX0_copy_X5_copy : GoodIn wsX0_copy (wsV RX0 67 RX5 yX5_copy wsX5_copy) := goodIn_app (goodIn_of _ (by decide +kernel)) ggX0_copy_X5_copy
theorem dX0_copy_0 : decode cX0_copy 0 = .ok (.aload_n 0, 1) := by decide +kernel
theorem dX0_copy_1 : decode cX0_copy 1 = .ok (.getfield 16, 3) := by decide +kernel
theorem dX0_copy_4 : decode cX0_copy 4 = .ok (.iconst 0, 1) := by decide +kernel
theorem dX0_copy_5 : decode cX0_copy 5 = .ok (.aload_n 1, 1) := by decide +kernel
theorem dX0_copy_6 : decode cX0_copy 6 = .ok (.getfield 16, 3) := by decide +kernel
theorem dX0_copy_9 : decode cX0_copy 9 = .ok (.iconst 0, 1) := by decide +kernel
theorem dX0_copy_10 : decode cX0_copy 10 = .ok (.bipush 54, 2) := by decide +kernel
theorem dX0_copy_12 : decode cX0_copy 12 = .ok (.invokevirtual 67, 3) := by decide +kernel
theorem dX0_copy_15 : decode cX0_copy 15 = .ok (.return_, 1) := by decide +kernel
set_option maxRecDepth 20000 in
theorem ggX0_writeTo_X5_copy : GoodIn wsX0_writeTo wsX5_copy := goodIn_r _ [6, 7, 8, 9, 5, 10, 11, 12, 13, 14, 15, 17] (by decide +kernel) (by decide +kernel)
set_option maxRecDepth 20000 in
theorem gX0_writeTo_X5_copy : GoodIn wsX0_writeTo (wsV RX0 67 RX5 yX5_copy wsX5_copy) := goodIn_app (goodIn_of _ (by decide +kernel)) ggX0_writeTo_X5_copy
theorem dX0_writeTo_0 : decode cX0_writeTo 0 = .ok (.aload_n 1, 1) := by decide +kernel
theorem dX0_writeTo_1 : decode cX0_writeTo 1 = .ok (.iload_n 2, 1) := by decide +kernel
theorem dX0_writeTo_2 : decode cX0_writeTo 2 = .ok (.aload_n 0, 1) := by decide +kernel
theorem dX0_writeTo_3 : decode cX0_writeTo 3 = .ok (.getfield 16, 3) := by decide +kernel
theorem dX0_writeTo_6 : decode cX0_writeTo 6 = .ok (.iconst 0, 1) := by decide +kernel
theorem dX0_writeTo_7 : decode cX0_writeTo 7 = .ok (.bipush 54, 2) := by decide +kernel
theorem dX0_writeTo_9 : decode cX0_writeTo 9 = .ok (.invokevirtual 67, 3) := by decide +kernel
theorem dX0_writeTo_12 : decode cX0_writeTo 12 = .ok (.return_, 1) := by decide +kernel
set_option maxRecDepth 20000 in
theorem ggX0_readFrom_X5_copy : GoodIn wsX0_readFrom wsX5_copy := goodIn_r _ [6, 7, 8, 9, 5, 10, 11, 12, 13, 14, 15, 17] (by decide +kernel) (by decide +kernel)
set_option maxRecDepth 20000 in
theorem gX0_readFrom_X5_copy : GoodIn wsX0_readFrom (wsV RX0 67 RX5 yX5_copy wsX5_copy) := goodIn_app (goodIn_of _ (by decide +kernel)) ggX0_readFrom_X5_copy
theorem dX0_readFrom_0 : decode cX0_readFrom 0 = .ok (.aload_n 0, 1) := by decide +kernel
theorem dX0_readFrom_1 : decode cX0_readFrom 1 = .ok (.getfield 16, 3) := by decide +kernel
theorem dX0_readFrom_4 : decode cX0_readFrom 4 = .ok (.iconst 0, 1) := by decide +kernel
theorem dX0_readFrom_5 : decode cX0_readFrom 5 = .ok (.aload_n 1, 1) := by decide +kernel
theorem dX0_readFrom_6 : decode cX0_readFrom 6 = .ok (.iload_n 2, 1) := by decide +kernel
theorem dX0_readFrom_7 : decode cX0_readFrom 7 = .ok (.bipush 54, 2) := by decide +kernel
theorem dX0_readFrom_9 : decode cX0_readFrom 9 = .ok (.invokevirtual 67, 3) := by decide +kernel
theorem dX0_readFrom_12 : decode cX0_readFrom 12 = .ok (.return_, 1) := by decide +kernel
set_option maxRecDepth 20000 in
theorem ggX1_init_X5_init : GoodIn wsX1_init wsX5_init := goodIn_r _ [11, 12, 2, 3, 13, 14, 15] (by decide +kernel) (by decide +kernel)
set_option maxRecDepth 20000 in
theorem gX1_init_X5_init : GoodIn wsX1_init (wsX5_init) := ggX1_init_X5_init
theorem dX1_init_0 : decode cX1_init 0 = .ok (.aload_n 0, 1) := by decide +kernel
theorem dX1_init_1 : decode cX1_init 1 = .ok (.invokespecial 3, 3) := by decide +kernel
theorem dX1_init_4 : decode cX1_init 4 = .ok (.aload_n 0, 1) := by decide +kernel
theorem dX1_init_5 : decode cX1_init 5 = .ok (.new 9, 3) := by decide +kernel
theorem dX1_init_8 : decode cX1_init 8 = .ok (.dup, 1) := by decide +kernel
theorem dX1_init_9 : decode cX1_init 9 = .ok (.sipush 216, 3) := by decide +kernel
theorem dX1_init_12 : decode cX1_init 12 = .ok (.invokespecial 13, 3) := by decide +kernel
theorem dX1_init_15 : decode cX1_init 15 = .ok (.putfield 16, 3) := by decide +kernel
theorem dX1_init_18 : decode cX1_init 18 = .ok (.aload_n 0, 1) := by decide +kernel
theorem dX1_init_19 : decode cX1_init 19 = .ok (.iconst 0, 1) := by decide +kernel
theorem dX1_init_20 : decode cX1_init 20 = .ok (.putfield 22, 3) := by decide +kernel
theorem dX1_init_23 : decode cX1_init 23 = .ok (.return_, 1) := by decide +kernel
theorem dX1_states_0 : decode cX1_states 0 = .ok (.aload_n 0, 1) := by decide +kernel
theorem dX1_states_1 : decode cX1_states 1 = .ok (.getfield 22, 3) := by decide +kernel
theorem dX1_states_4 : decode cX1_states 4 = .ok (.ireturn, 1) := by decide +kernel
set_option maxRecDepth 20000 in
theorem ggX1_record_X5_copy : GoodIn wsX1_record wsX5_copy := goodIn_r _ [7, 8, 9, 10, 6, 11, 12, 13, 14, 15, 16, 26] (by decide +kernel) (by decide +kernel)
set_option maxRecDepth 20000 in
theorem gX1_record_X5_copy : GoodIn wsX1_record (wsV RX1 26 RX5 yX5_copy wsX5_copy) := goodIn_app (goodIn_of _ (by decide +kernel)) ggX1_record_X5_copy
set_option maxRecDepth 20000 in
theorem ggX1_record_X0_writeTo : GoodIn wsX1_record wsX0_writeTo := goodIn_r _ [21, 22, 23, 4, 5, 6, 7, 8, 9, 10, 11, 12, 13, 14, 15, 16, 27, 26] (by decide +kernel) (by decide +kernel)
set_option maxRecDepth 20000 in
theorem gX1_record_X0_writeTo : GoodIn wsX1_record (wsV RX1 30 RX0 yX0_writeTo wsX0_writeTo) := goodIn_app (goodIn_of _ (by decide +kernel)) ggX1_record_X0_writeTo
theorem dX1_record_0 : decode cX1_record 0 = .ok (.aload_n 0, 1) := by decide +kernel
theorem dX1_record_1 : decode cX1_record 1 = .ok (.getfield 22, 3) := by decide +kernel
theorem dX1_record_4 : decode cX1_record 4 = .ok (.iconst 4, 1) := by decide +kernel
theorem dX1_record_5 : decode cX1_record 5 = .ok (.if_icmp .lt 29, 3) := by decide +kernel
theorem dX1_record_8 : decode cX1_record 8 = .ok (.aload_n 0, 1) := by decide +kernel
theorem dX1_record_9 : decode cX1_record 9 = .ok (.iconst 3, 1) := by decide +kernel
theorem dX1_record_10 : decode cX1_record 10 = .ok (.putfield 22, 3) := by decide +kernel
theorem dX1_record_13 : decode cX1_record 13 = .ok (.aload_n 0, 1) := by decide +kernel
theorem dX1_record_14 : decode cX1_record 14 = .ok (.getfield 16, 3) := by decide +kernel
theorem dX1_record_17 : decode cX1_record 17 = .ok (.iconst 0, 1) := by decide +kernel
theorem dX1_record_18 : decode cX1_record 18 = .ok (.aload_n 0, 1) := by decide +kernel
theorem dX1_record_19 : decode cX1_record 19 = .ok (.getfield 16, 3) := by decide +kernel
theorem dX1_record_22 : decode cX1_record 22 = .ok (.bipush 54, 2) := by decide +kernel
theorem dX1_record_24 : decode cX1_record 24 = .ok (.aload_n 0, 1) := by decide +kernel
theorem dX1_record_25 : decode cX1_record 25 = .ok (.getfield 22, 3) := by decide +kernel
theorem dX1_record_28 : decode cX1_record 28 = .ok (.bipush 54, 2) := by decide +kernel
theorem dX1_record_30 : decode cX1_record 30 = .ok (.imul, 1) := by decide +kernel
theorem dX1_record_31 : decode cX1_record 31 = .ok (.invokevirtual 26, 3) := by decide +kernel
theorem dX1_record_34 : decode cX1_record 34 = .ok (.aload_n 1, 1) := by decide +kernel
theorem dX1_record_35 : decode cX1_record 35 = .ok (.aload_n 0, 1) := by decide +kernel
theorem dX1_record_36 : decode cX1_record 36 = .ok (.getfield 16, 3) := by decide +kernel
theorem dX1_record_39 : decode cX1_record 39 = .ok (.aload_n 0, 1) := by decide +kernel
theorem dX1_record_40 : decode cX1_record 40 = .ok (.getfield 22, 3) := by decide +kernel
theorem dX1_record_43 : decode cX1_record 43 = .ok (.bipush 54, 2) := by decide +kernel
theorem dX1_record_45 : decode cX1_record 45 = .ok (.imul, 1) := by decide +kernel
theorem dX1_record_46 : decode cX1_record 46 = .ok (.invokevirtual 30, 3) := by decide +kernel
theorem dX1_record_49 : decode cX1_record 49 = .ok (.aload_n 0, 1) := by decide +kernel
theorem dX1_record_50 : decode cX1_record 50 = .ok (.dup, 1) := by decide +kernel
theorem dX1_record_51 : decode cX1_record 51 = .ok (.getfield 22, 3) := by decide +kernel
theorem dX1_record_54 : decode cX1_record 54 = .ok (.iconst 1, 1) := by decide +kernel
theorem dX1_record_55 : decode cX1_record 55 = .ok (.iadd, 1) := by decide +kernel
theorem dX1_record_56 : decode cX1_record 56 = .ok (.putfield 22, 3) := by decide +kernel
theorem dX1_record_59 : decode cX1_record 59 = .ok (.return_, 1) := by decide +kernel
set_option maxRecDepth 20000 in
theorem ggX1_takeLatest_X0_readFrom : GoodIn wsX1_takeLatest wsX0_readFrom := goodIn_r _ [7, 8, 9, 10, 11, 12, 13, 14, 15, 16, 17, 18, 19, 20, 21, 22, 25, 26] (by decide +kernel) (by decide +kernel)
set_option maxRecDepth 20000 in
theorem gX1_takeLatest_X0_readFrom : GoodIn wsX1_takeLatest (wsV RX1 34 RX0 yX0_readFrom wsX0_readFrom) := goodIn_app (goodIn_of _ (by decide +kernel)) ggX1_takeLatest_X0_readFrom
theorem dX1_takeLatest_0 : decode cX1_takeLatest 0 = .ok (.aload_n 0, 1) := by decide +kernel
theorem dX1_takeLatest_1 : decode cX1_takeLatest 1 = .ok (.getfield 22, 3) := by decide +kernel
theorem dX1_takeLatest_4 : decode cX1_takeLatest 4 = .ok (.ifCond .le 28, 3) := by decide +kernel
theorem dX1_takeLatest_7 : decode cX1_takeLatest 7 = .ok (.aload_n 0, 1) := by decide +kernel
theorem dX1_takeLatest_8 : decode cX1_takeLatest 8 = .ok (.dup, 1) := by decide +kernel
theorem dX1_takeLatest_9 : decode cX1_takeLatest 9 = .ok (.getfield 22, 3) := by decide +kernel
theorem dX1_takeLatest_12 : decode cX1_takeLatest 12 = .ok (.iconst 1, 1) := by decide +kernel
theorem dX1_takeLatest_13 : decode cX1_takeLatest 13 = .ok (.isub, 1) := by decide +kernel
theorem dX1_takeLatest_14 : decode cX1_takeLatest 14 = .ok (.putfield 22, 3) := by decide +kernel
theorem dX1_takeLatest_17 : decode cX1_takeLatest 17 = .ok (.aload_n 1, 1) := by decide +kernel
theorem dX1_takeLatest_18 : decode cX1_takeLatest 18 = .ok (.aload_n 0, 1) := by decide +kernel
theorem dX1_takeLatest_19 : decode cX1_takeLatest 19 = .ok (.getfield 16, 3) := by decide +kernel
theorem dX1_takeLatest_22 : decode cX1_takeLatest 22 = .ok (.aload_n 0, 1) := by decide +kernel
theorem dX1_takeLatest_23 : decode cX1_takeLatest 23 = .ok (.getfield 22, 3) := by decide +kernel
theorem dX1_takeLatest_26 : decode cX1_takeLatest 26 = .ok (.bipush 54, 2) := by decide +kernel
theorem dX1_takeLatest_28 : decode cX1_takeLatest 28 = .ok (.imul, 1) := by decide +kernel
theorem dX1_takeLatest_29 : decode cX1_takeLatest 29 = .ok (.invokevirtual 34, 3) := by decide +kernel
theorem dX1_takeLatest_32 : decode cX1_takeLatest 32 = .ok (.return_, 1) := by decide +kernel
set_option maxRecDepth 20000 in
theorem ggX2_init_X5_init : GoodIn wsX2_init wsX5_init := goodIn_r _ [16, 17, 2, 3, 18, 19, 20] (by decide +kernel) (by decide +kernel)
set_option maxRecDepth 20000 in
theorem gX2_init_X5_init : GoodIn wsX2_init (wsX5_init) := ggX2_init_X5_init
theorem dX2_init_0 : decode cX2_init 0 = .ok (.aload_n 0, 1) := by decide +kernel
theorem dX2_init_1 : decode cX2_init 1 = .ok (.invokespecial 3, 3) := by decide +kernel
theorem dX2_init_4 : decode cX2_init 4 = .ok (.aload_n 0, 1) := by decide +kernel
theorem dX2_init_5 : decode cX2_init 5 = .ok (.new 9, 3) := by decide +kernel
theorem dX2_init_8 : decode cX2_init 8 = .ok (.dup, 1) := by decide +kernel
theorem dX2_init_9 : decode cX2_init 9 = .ok (.bipush 65, 2) := by decide +kernel
theorem dX2_init_11 : decode cX2_init 11 = .ok (.invokespecial 11, 3) := by decide +kernel
theorem dX2_init_14 : decode cX2_init 14 = .ok (.putfield 14, 3) := by decide +kernel
theorem dX2_init_17 : decode cX2_init 17 = .ok (.aload_n 0, 1) := by decide +kernel
theorem dX2_init_18 : decode cX2_init 18 = .ok (.new 9, 3) := by decide +kernel
theorem dX2_init_21 : decode cX2_init 21 = .ok (.dup, 1) := by decide +kernel
theorem dX2_init_22 : decode cX2_init 22 = .ok (.bipush 65, 2) := by decide +kernel
theorem dX2_init_24 : decode cX2_init 24 = .ok (.invokespecial 11, 3) := by decide +kernel
theorem dX2_init_27 : decode cX2_init 27 = .ok (.putfield 20, 3) := by decide +kernel
theorem dX2_init_30 : decode cX2_init 30 = .ok (.aload_n 0, 1) := by decide +kernel
theorem dX2_init_31 : decode cX2_init 31 = .ok (.new 9, 3) := by decide +kernel
theorem dX2_init_34 : decode cX2_init 34 = .ok (.dup, 1) := by decide +kernel
theorem dX2_init_35 : decode cX2_init 35 = .ok (.bipush 12, 2) := by decide +kernel
theorem dX2_init_37 : decode cX2_init 37 = .ok (.invokespecial 11, 3) := by decide +kernel
theorem dX2_init_40 : decode cX2_init 40 = .ok (.putfield 23, 3) := by decide +kernel
theorem dX2_init_43 : decode cX2_init 43 = .ok (.aload_n 0, 1) := by decide +kernel
theorem dX2_init_44 : decode cX2_init 44 = .ok (.new 9, 3) := by decide +kernel
theorem dX2_init_47 : decode cX2_init 47 = .ok (.dup, 1) := by decide +kernel
theorem dX2_init_48 : decode cX2_init 48 = .ok (.bipush 12, 2) := by decide +kernel
theorem dX2_init_50 : decode cX2_init 50 = .ok (.invokespecial 11, 3) := by decide +kernel
theorem dX2_init_53 : decode cX2_init 53 = .ok (.putfield 26, 3) := by decide +kernel
theorem dX2_init_56 : decode cX2_init 56 = .ok (.aload_n 0, 1) := by decide +kernel
theorem dX2_init_57 : decode cX2_init 57 = .ok (.iconst 0, 1) := by decide +kernel
theorem dX2_init_58 : decode cX2_init 58 = .ok (.putfield 29, 3) := by decide +kernel
theorem dX2_init_61 : decode cX2_init 61 = .ok (.aload_n 0, 1) := by decide +kernel
theorem dX2_init_62 : decode cX2_init 62 = .ok (.iconst 0, 1) := by decide +kernel
theorem dX2_init_63 : decode cX2_init 63 = .ok (.putfield 33, 3) := by decide +kernel
theorem dX2_init_66 : decode cX2_init 66 = .ok (.aload_n 0, 1) := by decide +kernel
theorem dX2_init_67 : decode cX2_init 67 = .ok (.iconst 0, 1) := by decide +kernel
theorem dX2_init_68 : decode cX2_init 68 = .ok (.putfield 36, 3) := by decide +kernel
theorem dX2_init_71 : decode cX2_init 71 = .ok (.return_, 1) := by decide +kernel
set_option maxRecDepth 20000 in
theorem ggX2_lay_X0_setting : GoodIn wsX2_lay wsX0_setting := goodIn_r _ [8, 9, 10, 11, 12, 13, 14, 15, 66, 67] (by decide +kernel) (by decide +kernel)
set_option maxRecDepth 20000 in
theorem gX2_lay_X0_setting : GoodIn wsX2_lay (wsV RX2 39 RX0 yX0_setting wsX0_setting) := goodIn_app (goodIn_of _ (by decide +kernel)) ggX2_lay_X0_setting
set_option maxRecDepth 20000 in
theorem ggX2_lay_X0_lots : GoodIn wsX2_lay wsX0_lots := goodIn_r _ [19, 9, 10, 11, 12, 13, 14, 15, 66, 67] (by decide +kernel) (by decide +kernel)
set_option maxRecDepth 20000 in
theorem gX2_lay_X0_lots : GoodIn wsX2_lay (wsV RX2 45 RX0 yX0_lots wsX0_lots) := goodIn_app (goodIn_of _ (by decide +kernel)) ggX2_lay_X0_lots
set_option maxRecDepth 20000 in
theorem ggX2_lay_X2_layLot : GoodIn wsX2_lay wsX2_layLot := goodIn_r _ [24, 25, 2, 26, 27, 28, 29, 7, 30, 9, 10, 11, 12, 13, 14, 15, 31, 32, 33, 23, 34, 35, 36, 37, 38, 39, 40, 41, 42, 43, 44, 45, 46, 47, 48, 49, 50, 51, 52, 59, 60, 61, 62, 63, 64, 65, 66, 67] (by decide +kernel) (by decide +kernel)
set_option maxRecDepth 20000 in
theorem gX2_lay_X2_layLot : GoodIn wsX2_lay (wsV RX2 49 RX2 yX2_layLot wsX2_layLot) := goodIn_app (goodIn_of _ (by decide +kernel)) ggX2_lay_X2_layLot
set_option maxRecDepth 20000 in
theorem ggX2_lay_X7_gatheringsFor : GoodIn wsX2_lay wsX7_gatheringsFor := goodIn_r _ [55, 56, 57, 54, 58] (by decide +kernel) (by decide +kernel)
set_option maxRecDepth 20000 in
theorem gX2_lay_X7_gatheringsFor_n53 : GoodIn wsX2_lay (wsX7_gatheringsFor) := ggX2_lay_X7_gatheringsFor
set_option maxRecDepth 20000 in
theorem ggX2_lay_X2_layPage : GoodIn wsX2_lay wsX2_layPage := goodIn_r _ [34, 2, 35, 36, 37, 38, 39, 13, 40, 15, 59, 60, 61, 62, 63, 64, 65, 67] (by decide +kernel) (by decide +kernel)
set_option maxRecDepth 20000 in
theorem gX2_lay_X2_layPage : GoodIn wsX2_lay (wsV RX2 57 RX2 yX2_layPage wsX2_layPage) := goodIn_app (goodIn_of _ (by decide +kernel)) ggX2_lay_X2_layPage
theorem dX2_lay_0 : decode cX2_lay 0 = .ok (.aload_n 0, 1) := by decide +kernel
theorem dX2_lay_1 : decode cX2_lay 1 = .ok (.aload_n 1, 1) := by decide +kernel
theorem dX2_lay_2 : decode cX2_lay 2 = .ok (.iconst 0, 1) := by decide +kernel
theorem dX2_lay_3 : decode cX2_lay 3 = .ok (.invokevirtual 39, 3) := by decide +kernel
theorem dX2_lay_6 : decode cX2_lay 6 = .ok (.putfield 29, 3) := by decide +kernel
theorem dX2_lay_9 : decode cX2_lay 9 = .ok (.aload_n 0, 1) := by decide +kernel
theorem dX2_lay_10 : decode cX2_lay 10 = .ok (.iconst 0, 1) := by decide +kernel
theorem dX2_lay_11 : decode cX2_lay 11 = .ok (.putfield 33, 3) := by decide +kernel
theorem dX2_lay_14 : decode cX2_lay 14 = .ok (.iconst 0, 1) := by decide +kernel
theorem dX2_lay_15 : decode cX2_lay 15 = .ok (.istore_n 2, 1) := by decide +kernel
theorem dX2_lay_16 : decode cX2_lay 16 = .ok (.iload_n 2, 1) := by decide +kernel
theorem dX2_lay_17 : decode cX2_lay 17 = .ok (.aload_n 1, 1) := by decide +kernel
theorem dX2_lay_18 : decode cX2_lay 18 = .ok (.invokevirtual 45, 3) := by decide +kernel
theorem dX2_lay_21 : decode cX2_lay 21 = .ok (.if_icmp .ge 15, 3) := by decide +kernel
theorem dX2_lay_24 : decode cX2_lay 24 = .ok (.aload_n 0, 1) := by decide +kernel
theorem dX2_lay_25 : decode cX2_lay 25 = .ok (.aload_n 1, 1) := by decide +kernel
theorem dX2_lay_26 : decode cX2_lay 26 = .ok (.iload_n 2, 1) := by decide +kernel
theorem dX2_lay_27 : decode cX2_lay 27 = .ok (.invokevirtual 49, 3) := by decide +kernel
theorem dX2_lay_30 : decode cX2_lay 30 = .ok (.iinc 2 1, 3) := by decide +kernel
theorem dX2_lay_33 : decode cX2_lay 33 = .ok (.goto (-17), 3) := by decide +kernel
theorem dX2_lay_36 : decode cX2_lay 36 = .ok (.aload_n 0, 1) := by decide +kernel
theorem dX2_lay_37 : decode cX2_lay 37 = .ok (.aload_n 0, 1) := by decide +kernel
theorem dX2_lay_38 : decode cX2_lay 38 = .ok (.getfield 33, 3) := by decide +kernel
theorem dX2_lay_41 : decode cX2_lay 41 = .ok (.aload_n 0, 1) := by decide +kernel
theorem dX2_lay_42 : decode cX2_lay 42 = .ok (.getfield 29, 3) := by decide +kernel
theorem dX2_lay_45 : decode cX2_lay 45 = .ok (.invokestatic 53, 3) := by decide +kernel
theorem dX2_lay_48 : decode cX2_lay 48 = .ok (.putfield 36, 3) := by decide +kernel
theorem dX2_lay_51 : decode cX2_lay 51 = .ok (.aload_n 0, 1) := by decide +kernel
theorem dX2_lay_52 : decode cX2_lay 52 = .ok (.getfield 36, 3) := by decide +kernel
theorem dX2_lay_55 : decode cX2_lay 55 = .ok (.aload_n 0, 1) := by decide +kernel
theorem dX2_lay_56 : decode cX2_lay 56 = .ok (.getfield 29, 3) := by decide +kernel
theorem dX2_lay_59 : decode cX2_lay 59 = .ok (.imul, 1) := by decide +kernel
theorem dX2_lay_60 : decode cX2_lay 60 = .ok (.aload_n 0, 1) := by decide +kernel
theorem dX2_lay_61 : decode cX2_lay 61 = .ok (.getfield 33, 3) := by decide +kernel
theorem dX2_lay_64 : decode cX2_lay 64 = .ok (.isub, 1) := by decide +kernel
theorem dX2_lay_65 : decode cX2_lay 65 = .ok (.istore_n 2, 1) := by decide +kernel
theorem dX2_lay_66 : decode cX2_lay 66 = .ok (.iconst 0, 1) := by decide +kernel
theorem dX2_lay_67 : decode cX2_lay 67 = .ok (.istore_n 3, 1) := by decide +kernel
theorem dX2_lay_68 : decode cX2_lay 68 = .ok (.iload_n 3, 1) := by decide +kernel
theorem dX2_lay_69 : decode cX2_lay 69 = .ok (.iload_n 2, 1) := by decide +kernel
theorem dX2_lay_70 : decode cX2_lay 70 = .ok (.if_icmp .ge 16, 3) := by decide +kernel
theorem dX2_lay_73 : decode cX2_lay 73 = .ok (.aload_n 0, 1) := by decide +kernel
theorem dX2_lay_74 : decode cX2_lay 74 = .ok (.bipush (-5), 2) := by decide +kernel
theorem dX2_lay_76 : decode cX2_lay 76 = .ok (.iconst 4, 1) := by decide +kernel
theorem dX2_lay_77 : decode cX2_lay 77 = .ok (.invokevirtual 57, 3) := by decide +kernel
theorem dX2_lay_80 : decode cX2_lay 80 = .ok (.iinc 3 1, 3) := by decide +kernel
theorem dX2_lay_83 : decode cX2_lay 83 = .ok (.goto (-15), 3) := by decide +kernel
theorem dX2_lay_86 : decode cX2_lay 86 = .ok (.return_, 1) := by decide +kernel
set_option maxRecDepth 20000 in
theorem ggX2_layLot_X0_blank : GoodIn wsX2_layLot wsX0_blank := goodIn_r _ [8, 9, 10, 11, 12, 13, 14, 15, 46, 47] (by decide +kernel) (by decide +kernel)
set_option maxRecDepth 20000 in
theorem gX2_layLot_X0_blank : GoodIn wsX2_layLot (wsV RX2 61 RX0 yX0_blank wsX0_blank) := goodIn_app (goodIn_of _ (by decide +kernel)) ggX2_layLot_X0_blank
set_option maxRecDepth 20000 in
theorem ggX2_layLot_X2_layPage : GoodIn wsX2_layLot wsX2_layPage := goodIn_r _ [20, 2, 21, 22, 23, 24, 25, 13, 26, 15, 39, 40, 41, 42, 43, 44, 45, 47] (by decide +kernel) (by decide +kernel)
set_option maxRecDepth 20000 in
theorem gX2_layLot_X2_layPage : GoodIn wsX2_layLot (wsV RX2 57 RX2 yX2_layPage wsX2_layPage) := goodIn_app (goodIn_of _ (by decide +kernel)) ggX2_layLot_X2_layPage
set_option maxRecDepth 20000 in
theorem ggX2_layLot_X5_put : GoodIn wsX2_layLot wsX5_put := goodIn_r _ [26, 15, 47] (by decide +kernel) (by decide +kernel)
set_option maxRecDepth 20000 in
theorem gX2_layLot_X5_put : GoodIn wsX2_layLot (wsV RX2 64 RX5 yX5_put wsX5_put) := goodIn_app (goodIn_of _ (by decide +kernel)) ggX2_layLot_X5_put
set_option maxRecDepth 20000 in
theorem ggX2_layLot_X0_text : GoodIn wsX2_layLot wsX0_text := goodIn_r _ [30, 9, 10, 11, 12, 13, 14, 15, 46, 47] (by decide +kernel) (by decide +kernel)
set_option maxRecDepth 20000 in
theorem gX2_layLot_X0_text : GoodIn wsX2_layLot (wsV RX2 67 RX0 yX0_text wsX0_text) := goodIn_app (goodIn_of _ (by decide +kernel)) ggX2_layLot_X0_text
set_option maxRecDepth 20000 in
theorem ggX2_layLot_X0_plate : GoodIn wsX2_layLot wsX0_plate := goodIn_r _ [34, 9, 10, 11, 12, 13, 14, 15, 46, 47] (by decide +kernel) (by decide +kernel)
set_option maxRecDepth 20000 in
theorem gX2_layLot_X0_plate : GoodIn wsX2_layLot (wsV RX2 70 RX0 yX0_plate wsX0_plate) := goodIn_app (goodIn_of _ (by decide +kernel)) ggX2_layLot_X0_plate
set_option maxRecDepth 20000 in
theorem ggX2_layLot_X0_place : GoodIn wsX2_layLot wsX0_place := goodIn_r _ [38, 9, 10, 11, 12, 13, 14, 15, 46, 47] (by decide +kernel) (by decide +kernel)
set_option maxRecDepth 20000 in
theorem gX2_layLot_X0_place : GoodIn wsX2_layLot (wsV RX2 73 RX0 yX0_place wsX0_place) := goodIn_app (goodIn_of _ (by decide +kernel)) ggX2_layLot_X0_place
theorem dX2_layLot_0 : decode cX2_layLot 0 = .ok (.aload_n 1, 1) := by decide +kernel
theorem dX2_layLot_1 : decode cX2_layLot 1 = .ok (.iload_n 2, 1) := by decide +kernel
theorem dX2_layLot_2 : decode cX2_layLot 2 = .ok (.invokevirtual 61, 3) := by decide +kernel
theorem dX2_layLot_5 : decode cX2_layLot 5 = .ok (.ifCond .eq 10, 3) := by decide +kernel
theorem dX2_layLot_8 : decode cX2_layLot 8 = .ok (.aload_n 0, 1) := by decide +kernel
theorem dX2_layLot_9 : decode cX2_layLot 9 = .ok (.bipush (-5), 2) := by decide +kernel
theorem dX2_layLot_11 : decode cX2_layLot 11 = .ok (.iconst 0, 1) := by decide +kernel
theorem dX2_layLot_12 : decode cX2_layLot 12 = .ok (.invokevirtual 57, 3) := by decide +kernel
theorem dX2_layLot_15 : decode cX2_layLot 15 = .ok (.aload_n 0, 1) := by decide +kernel
theorem dX2_layLot_16 : decode cX2_layLot 16 = .ok (.getfield 23, 3) := by decide +kernel
theorem dX2_layLot_19 : decode cX2_layLot 19 = .ok (.iload_n 2, 1) := by decide +kernel
theorem dX2_layLot_20 : decode cX2_layLot 20 = .ok (.aload_n 0, 1) := by decide +kernel
theorem dX2_layLot_21 : decode cX2_layLot 21 = .ok (.getfield 33, 3) := by decide +kernel
theorem dX2_layLot_24 : decode cX2_layLot 24 = .ok (.iconst 1, 1) := by decide +kernel
theorem dX2_layLot_25 : decode cX2_layLot 25 = .ok (.iadd, 1) := by decide +kernel
theorem dX2_layLot_26 : decode cX2_layLot 26 = .ok (.invokevirtual 64, 3) := by decide +kernel
theorem dX2_layLot_29 : decode cX2_layLot 29 = .ok (.aload_n 0, 1) := by decide +kernel
theorem dX2_layLot_30 : decode cX2_layLot 30 = .ok (.getfield 26, 3) := by decide +kernel
theorem dX2_layLot_33 : decode cX2_layLot 33 = .ok (.iload_n 2, 1) := by decide +kernel
theorem dX2_layLot_34 : decode cX2_layLot 34 = .ok (.iconst 0, 1) := by decide +kernel
theorem dX2_layLot_35 : decode cX2_layLot 35 = .ok (.invokevirtual 64, 3) := by decide +kernel
theorem dX2_layLot_38 : decode cX2_layLot 38 = .ok (.iconst 0, 1) := by decide +kernel
theorem dX2_layLot_39 : decode cX2_layLot 39 = .ok (.istore_n 3, 1) := by decide +kernel
theorem dX2_layLot_40 : decode cX2_layLot 40 = .ok (.iload_n 3, 1) := by decide +kernel
theorem dX2_layLot_41 : decode cX2_layLot 41 = .ok (.aload_n 1, 1) := by decide +kernel
theorem dX2_layLot_42 : decode cX2_layLot 42 = .ok (.iload_n 2, 1) := by decide +kernel
theorem dX2_layLot_43 : decode cX2_layLot 43 = .ok (.invokevirtual 67, 3) := by decide +kernel
theorem dX2_layLot_46 : decode cX2_layLot 46 = .ok (.if_icmp .gt 72, 3) := by decide +kernel
theorem dX2_layLot_49 : decode cX2_layLot 49 = .ok (.aload_n 1, 1) := by decide +kernel
theorem dX2_layLot_50 : decode cX2_layLot 50 = .ok (.iload_n 2, 1) := by decide +kernel
theorem dX2_layLot_51 : decode cX2_layLot 51 = .ok (.invokevirtual 70, 3) := by decide +kernel
theorem dX2_layLot_54 : decode cX2_layLot 54 = .ok (.ifCond .eq 43, 3) := by decide +kernel
theorem dX2_layLot_57 : decode cX2_layLot 57 = .ok (.aload_n 1, 1) := by decide +kernel
theorem dX2_layLot_58 : decode cX2_layLot 58 = .ok (.iload_n 2, 1) := by decide +kernel
theorem dX2_layLot_59 : decode cX2_layLot 59 = .ok (.invokevirtual 73, 3) := by decide +kernel
theorem dX2_layLot_62 : decode cX2_layLot 62 = .ok (.iload_n 3, 1) := by decide +kernel
theorem dX2_layLot_63 : decode cX2_layLot 63 = .ok (.if_icmp .ne 34, 3) := by decide +kernel
theorem dX2_layLot_66 : decode cX2_layLot 66 = .ok (.aload_n 0, 1) := by decide +kernel
theorem dX2_layLot_67 : decode cX2_layLot 67 = .ok (.iload_n 2, 1) := by decide +kernel
theorem dX2_layLot_68 : decode cX2_layLot 68 = .ok (.aload_n 1, 1) := by decide +kernel
theorem dX2_layLot_69 : decode cX2_layLot 69 = .ok (.iload_n 2, 1) := by decide +kernel
theorem dX2_layLot_70 : decode cX2_layLot 70 = .ok (.invokevirtual 70, 3) := by decide +kernel
theorem dX2_layLot_73 : decode cX2_layLot 73 = .ok (.iconst 2, 1) := by decide +kernel
theorem dX2_layLot_74 : decode cX2_layLot 74 = .ok (.if_icmp .ne 7, 3) := by decide +kernel
theorem dX2_layLot_77 : decode cX2_layLot 77 = .ok (.iconst 3, 1) := by decide +kernel
theorem dX2_layLot_78 : decode cX2_layLot 78 = .ok (.goto 4, 3) := by decide +kernel
theorem dX2_layLot_81 : decode cX2_layLot 81 = .ok (.iconst 2, 1) := by decide +kernel
theorem dX2_layLot_82 : decode cX2_layLot 82 = .ok (.invokevirtual 57, 3) := by decide +kernel
theorem dX2_layLot_85 : decode cX2_layLot 85 = .ok (.aload_n 0, 1) := by decide +kernel
theorem dX2_layLot_86 : decode cX2_layLot 86 = .ok (.getfield 26, 3) := by decide +kernel
theorem dX2_layLot_89 : decode cX2_layLot 89 = .ok (.iload_n 2, 1) := by decide +kernel
theorem dX2_layLot_90 : decode cX2_layLot 90 = .ok (.aload_n 0, 1) := by decide +kernel
theorem dX2_layLot_91 : decode cX2_layLot 91 = .ok (.getfield 33, 3) := by decide +kernel
theorem dX2_layLot_94 : decode cX2_layLot 94 = .ok (.invokevirtual 64, 3) := by decide +kernel
theorem dX2_layLot_97 : decode cX2_layLot 97 = .ok (.iload_n 3, 1) := by decide +kernel
theorem dX2_layLot_98 : decode cX2_layLot 98 = .ok (.aload_n 1, 1) := by decide +kernel
theorem dX2_layLot_99 : decode cX2_layLot 99 = .ok (.iload_n 2, 1) := by decide +kernel
theorem dX2_layLot_100 : decode cX2_layLot 100 = .ok (.invokevirtual 67, 3) := by decide +kernel
theorem dX2_layLot_103 : decode cX2_layLot 103 = .ok (.if_icmp .ge 9, 3) := by decide +kernel
theorem dX2_layLot_106 : decode cX2_layLot 106 = .ok (.aload_n 0, 1) := by decide +kernel
theorem dX2_layLot_107 : decode cX2_layLot 107 = .ok (.iload_n 2, 1) := by decide +kernel
theorem dX2_layLot_108 : decode cX2_layLot 108 = .ok (.iconst 1, 1) := by decide +kernel
theorem dX2_layLot_109 : decode cX2_layLot 109 = .ok (.invokevirtual 57, 3) := by decide +kernel
theorem dX2_layLot_112 : decode cX2_layLot 112 = .ok (.iinc 3 1, 3) := by decide +kernel
theorem dX2_layLot_115 : decode cX2_layLot 115 = .ok (.goto (-75), 3) := by decide +kernel
theorem dX2_layLot_118 : decode cX2_layLot 118 = .ok (.return_, 1) := by decide +kernel
set_option maxRecDepth 20000 in
theorem ggX2_layPage_X5_put : GoodIn wsX2_layPage wsX5_put := goodIn_r _ [8, 9, 17] (by decide +kernel) (by decide +kernel)
set_option maxRecDepth 20000 in
theorem gX2_layPage_X5_put : GoodIn wsX2_layPage (wsV RX2 64 RX5 yX5_put wsX5_put) := goodIn_app (goodIn_of _ (by decide +kernel)) ggX2_layPage_X5_put
theorem dX2_layPage_0 : decode cX2_layPage 0 = .ok (.aload_n 0, 1) := by decide +kernel
theorem dX2_layPage_1 : decode cX2_layPage 1 = .ok (.dup, 1) := by decide +kernel
theorem dX2_layPage_2 : decode cX2_layPage 2 = .ok (.getfield 33, 3) := by decide +kernel
theorem dX2_layPage_5 : decode cX2_layPage 5 = .ok (.iconst 1, 1) := by decide +kernel
theorem dX2_layPage_6 : decode cX2_layPage 6 = .ok (.iadd, 1) := by decide +kernel
theorem dX2_layPage_7 : decode cX2_layPage 7 = .ok (.putfield 33, 3) := by decide +kernel
theorem dX2_layPage_10 : decode cX2_layPage 10 = .ok (.aload_n 0, 1) := by decide +kernel
theorem dX2_layPage_11 : decode cX2_layPage 11 = .ok (.getfield 14, 3) := by decide +kernel
theorem dX2_layPage_14 : decode cX2_layPage 14 = .ok (.aload_n 0, 1) := by decide +kernel
theorem dX2_layPage_15 : decode cX2_layPage 15 = .ok (.getfield 33, 3) := by decide +kernel
theorem dX2_layPage_18 : decode cX2_layPage 18 = .ok (.iload_n 1, 1) := by decide +kernel
theorem dX2_layPage_19 : decode cX2_layPage 19 = .ok (.invokevirtual 64, 3) := by decide +kernel
theorem dX2_layPage_22 : decode cX2_layPage 22 = .ok (.aload_n 0, 1) := by decide +kernel
theorem dX2_layPage_23 : decode cX2_layPage 23 = .ok (.getfield 20, 3) := by decide +kernel
theorem dX2_layPage_26 : decode cX2_layPage 26 = .ok (.aload_n 0, 1) := by decide +kernel
theorem dX2_layPage_27 : decode cX2_layPage 27 = .ok (.getfield 33, 3) := by decide +kernel
theorem dX2_layPage_30 : decode cX2_layPage 30 = .ok (.iload_n 2, 1) := by decide +kernel
theorem dX2_layPage_31 : decode cX2_layPage 31 = .ok (.invokevirtual 64, 3) := by decide +kernel
theorem dX2_layPage_34 : decode cX2_layPage 34 = .ok (.return_, 1) := by decide +kernel
theorem dX2_gatherings_0 : decode cX2_gatherings 0 = .ok (.aload_n 0, 1) := by decide +kernel
theorem dX2_gatherings_1 : decode cX2_gatherings 1 = .ok (.getfield 36, 3) := by decide +kernel
theorem dX2_gatherings_4 : decode cX2_gatherings 4 = .ok (.ireturn, 1) := by decide +kernel
theorem dX2_allPages_0 : decode cX2_allPages 0 = .ok (.aload_n 0, 1) := by decide +kernel
theorem dX2_allPages_1 : decode cX2_allPages 1 = .ok (.getfield 33, 3) := by decide +kernel
theorem dX2_allPages_4 : decode cX2_allPages 4 = .ok (.ireturn, 1) := by decide +kernel
theorem dX2_hasPage_0 : decode cX2_hasPage 0 = .ok (.iload_n 1, 1) := by decide +kernel
theorem dX2_hasPage_1 : decode cX2_hasPage 1 = .ok (.iconst 1, 1) := by decide +kernel
theorem dX2_hasPage_2 : decode cX2_hasPage 2 = .ok (.if_icmp .lt 15, 3) := by decide +kernel
theorem dX2_hasPage_5 : decode cX2_hasPage 5 = .ok (.iload_n 1, 1) := by decide +kernel
theorem dX2_hasPage_6 : decode cX2_hasPage 6 = .ok (.aload_n 0, 1) := by decide +kernel
theorem dX2_hasPage_7 : decode cX2_hasPage 7 = .ok (.getfield 33, 3) := by decide +kernel
theorem dX2_hasPage_10 : decode cX2_hasPage 10 = .ok (.if_icmp .gt 7, 3) := by decide +kernel
theorem dX2_hasPage_13 : decode cX2_hasPage 13 = .ok (.iconst 1, 1) := by decide +kernel
theorem dX2_hasPage_14 : decode cX2_hasPage 14 = .ok (.goto 4, 3) := by decide +kernel
theorem dX2_hasPage_17 : decode cX2_hasPage 17 = .ok (.iconst 0, 1) := by decide +kernel
theorem dX2_hasPage_18 : decode cX2_hasPage 18 = .ok (.ireturn, 1) := by decide +kernel
set_option maxRecDepth 20000 in
theorem ggX2_owner_X5_at : GoodIn wsX2_owner wsX5_at := goodIn_r _ [6, 7, 15] (by decide +kernel) (by decide +kernel)
set_option maxRecDepth 20000 in
theorem gX2_owner_X5_at : GoodIn wsX2_owner (wsV RX2 76 RX5 yX5_at wsX5_at) := goodIn_app (goodIn_of _ (by decide +kernel)) ggX2_owner_X5_at
theorem dX2_owner_0 : decode cX2_owner 0 = .ok (.aload_n 0, 1) := by decide +kernel
theorem dX2_owner_1 : decode cX2_owner 1 = .ok (.getfield 14, 3) := by decide +kernel
theorem dX2_owner_4 : decode cX2_owner 4 = .ok (.iload_n 1, 1) := by decide +kernel
theorem dX2_owner_5 : decode cX2_owner 5 = .ok (.invokevirtual 76, 3) := by decide +kernel
theorem dX2_owner_8 : decode cX2_owner 8 = .ok (.ireturn, 1) := by decide +kernel
set_option maxRecDepth 20000 in
theorem ggX2_kind_X5_at : GoodIn wsX2_kind wsX5_at := goodIn_r _ [6, 7, 15] (by decide +kernel) (by decide +kernel)
set_option maxRecDepth 20000 in
theorem gX2_kind_X5_at : GoodIn wsX2_kind (wsV RX2 76 RX5 yX5_at wsX5_at) := goodIn_app (goodIn_of _ (by decide +kernel)) ggX2_kind_X5_at
theorem dX2_kind_0 : decode cX2_kind 0 = .ok (.aload_n 0, 1) := by decide +kernel
theorem dX2_kind_1 : decode cX2_kind 1 = .ok (.getfield 20, 3) := by decide +kernel
theorem dX2_kind_4 : decode cX2_kind 4 = .ok (.iload_n 1, 1) := by decide +kernel
theorem dX2_kind_5 : decode cX2_kind 5 = .ok (.invokevirtual 76, 3) := by decide +kernel
theorem dX2_kind_8 : decode cX2_kind 8 = .ok (.ireturn, 1) := by decide +kernel
set_option maxRecDepth 20000 in
theorem ggX2_firstPage_X5_at : GoodIn wsX2_firstPage wsX5_at := goodIn_r _ [6, 7, 15] (by decide +kernel) (by decide +kernel)
set_option maxRecDepth 20000 in
theorem gX2_firstPage_X5_at : GoodIn wsX2_firstPage (wsV RX2 76 RX5 yX5_at wsX5_at) := goodIn_app (goodIn_of _ (by decide +kernel)) ggX2_firstPage_X5_at
theorem dX2_firstPage_0 : decode cX2_firstPage 0 = .ok (.aload_n 0, 1) := by decide +kernel
theorem dX2_firstPage_1 : decode cX2_firstPage 1 = .ok (.getfield 23, 3) := by decide +kernel
theorem dX2_firstPage_4 : decode cX2_firstPage 4 = .ok (.iload_n 1, 1) := by decide +kernel
theorem dX2_firstPage_5 : decode cX2_firstPage 5 = .ok (.invokevirtual 76, 3) := by decide +kernel
theorem dX2_firstPage_8 : decode cX2_firstPage 8 = .ok (.ireturn, 1) := by decide +kernel
set_option maxRecDepth 20000 in
theorem ggX2_platePage_X5_at : GoodIn wsX2_platePage wsX5_at := goodIn_r _ [6, 7, 15] (by decide +kernel) (by decide +kernel)
set_option maxRecDepth 20000 in
theorem gX2_platePage_X5_at : GoodIn wsX2_platePage (wsV RX2 76 RX5 yX5_at wsX5_at) := goodIn_app (goodIn_of _ (by decide +kernel)) ggX2_platePage_X5_at
theorem dX2_platePage_0 : decode cX2_platePage 0 = .ok (.aload_n 0, 1) := by decide +kernel
theorem dX2_platePage_1 : decode cX2_platePage 1 = .ok (.getfield 26, 3) := by decide +kernel
theorem dX2_platePage_4 : decode cX2_platePage 4 = .ok (.iload_n 1, 1) := by decide +kernel
theorem dX2_platePage_5 : decode cX2_platePage 5 = .ok (.invokevirtual 76, 3) := by decide +kernel
theorem dX2_platePage_8 : decode cX2_platePage 8 = .ok (.ireturn, 1) := by decide +kernel
set_option maxRecDepth 20000 in
theorem ggX2_gatheringOf_X7_gatheringOfPage : GoodIn wsX2_gatheringOf wsX7_gatheringOfPage := goodIn_r _ [4] (by decide +kernel) (by decide +kernel)
set_option maxRecDepth 20000 in
theorem gX2_gatheringOf_X7_gatheringOfPage_n79 : GoodIn wsX2_gatheringOf (wsX7_gatheringOfPage) := ggX2_gatheringOf_X7_gatheringOfPage
theorem dX2_gatheringOf_0 : decode cX2_gatheringOf 0 = .ok (.iload_n 1, 1) := by decide +kernel
theorem dX2_gatheringOf_1 : decode cX2_gatheringOf 1 = .ok (.aload_n 0, 1) := by decide +kernel
theorem dX2_gatheringOf_2 : decode cX2_gatheringOf 2 = .ok (.getfield 29, 3) := by decide +kernel
theorem dX2_gatheringOf_5 : decode cX2_gatheringOf 5 = .ok (.invokestatic 79, 3) := by decide +kernel
theorem dX2_gatheringOf_8 : decode cX2_gatheringOf 8 = .ok (.ireturn, 1) := by decide +kernel
theorem dX2_otherPage_0 : decode cX2_otherPage 0 = .ok (.iload_n 1, 1) := by decide +kernel
theorem dX2_otherPage_1 : decode cX2_otherPage 1 = .ok (.iconst 1, 1) := by decide +kernel
theorem dX2_otherPage_2 : decode cX2_otherPage 2 = .ok (.if_icmp .le 11, 3) := by decide +kernel
theorem dX2_otherPage_5 : decode cX2_otherPage 5 = .ok (.iload_n 1, 1) := by decide +kernel
theorem dX2_otherPage_6 : decode cX2_otherPage 6 = .ok (.aload_n 0, 1) := by decide +kernel
theorem dX2_otherPage_7 : decode cX2_otherPage 7 = .ok (.getfield 33, 3) := by decide +kernel
theorem dX2_otherPage_10 : decode cX2_otherPage 10 = .ok (.if_icmp .lt 6, 3) := by decide +kernel
theorem dX2_otherPage_13 : decode cX2_otherPage 13 = .ok (.bipush (-5), 2) := by decide +kernel
theorem dX2_otherPage_15 : decode cX2_otherPage 15 = .ok (.ireturn, 1) := by decide +kernel
theorem dX2_otherPage_16 : decode cX2_otherPage 16 = .ok (.iload_n 1, 1) := by decide +kernel
theorem dX2_otherPage_17 : decode cX2_otherPage 17 = .ok (.iconst 1, 1) := by decide +kernel
theorem dX2_otherPage_18 : decode cX2_otherPage 18 = .ok (.iand, 1) := by decide +kernel
theorem dX2_otherPage_19 : decode cX2_otherPage 19 = .ok (.ifCond .ne 9, 3) := by decide +kernel
theorem dX2_otherPage_22 : decode cX2_otherPage 22 = .ok (.iload_n 1, 1) := by decide +kernel
theorem dX2_otherPage_23 : decode cX2_otherPage 23 = .ok (.iconst 1, 1) := by decide +kernel
theorem dX2_otherPage_24 : decode cX2_otherPage 24 = .ok (.iadd, 1) := by decide +kernel
theorem dX2_otherPage_25 : decode cX2_otherPage 25 = .ok (.goto 6, 3) := by decide +kernel
theorem dX2_otherPage_28 : decode cX2_otherPage 28 = .ok (.iload_n 1, 1) := by decide +kernel
theorem dX2_otherPage_29 : decode cX2_otherPage 29 = .ok (.iconst 1, 1) := by decide +kernel
theorem dX2_otherPage_30 : decode cX2_otherPage 30 = .ok (.isub, 1) := by decide +kernel
theorem dX2_otherPage_31 : decode cX2_otherPage 31 = .ok (.ireturn, 1) := by decide +kernel
set_option maxRecDepth 20000 in
theorem ggX2_whyNotFacing_X2_platePage : GoodIn wsX2_whyNotFacing wsX2_platePage := goodIn_r _ [5, 6, 7, 8, 9, 10, 11, 12, 32, 33, 34, 35, 36, 37, 38, 39] (by decide +kernel) (by decide +kernel)
set_option maxRecDepth 20000 in
theorem gX2_whyNotFacing_X2_platePage : GoodIn wsX2_whyNotFacing (wsV RX2 82 RX2 yX2_platePage wsX2_platePage) := goodIn_app (goodIn_of _ (by decide +kernel)) ggX2_whyNotFacing_X2_platePage
set_option maxRecDepth 20000 in
theorem ggX2_whyNotFacing_X2_otherPage : GoodIn wsX2_whyNotFacing wsX2_otherPage := goodIn_r _ [16, 17, 32, 33, 34, 35, 36, 37, 38] (by decide +kernel) (by decide +kernel)
set_option maxRecDepth 20000 in
theorem gX2_whyNotFacing_X2_otherPage : GoodIn wsX2_whyNotFacing (wsV RX2 85 RX2 yX2_otherPage wsX2_otherPage) := goodIn_app (goodIn_of _ (by decide +kernel)) ggX2_whyNotFacing_X2_otherPage
set_option maxRecDepth 20000 in
theorem ggX2_whyNotFacing_X2_isBlank : GoodIn wsX2_whyNotFacing wsX2_isBlank := goodIn_r _ [21, 22, 23, 24, 4, 25, 26, 7, 8, 9, 10, 11, 12, 32, 33, 34, 35, 36, 37, 38, 39] (by decide +kernel) (by decide +kernel)
set_option maxRecDepth 20000 in
theorem gX2_whyNotFacing_X2_isBlank : GoodIn wsX2_whyNotFacing (wsV RX2 88 RX2 yX2_isBlank wsX2_isBlank) := goodIn_app (goodIn_of _ (by decide +kernel)) ggX2_whyNotFacing_X2_isBlank
set_option maxRecDepth 20000 in
theorem ggX2_whyNotFacing_X2_owner : GoodIn wsX2_whyNotFacing wsX2_owner := goodIn_r _ [30, 31, 7, 8, 9, 10, 11, 12, 32, 33, 34, 35, 36, 37, 38, 39] (by decide +kernel) (by decide +kernel)
set_option maxRecDepth 20000 in
theorem gX2_whyNotFacing_X2_owner : GoodIn wsX2_whyNotFacing (wsV RX2 92 RX2 yX2_owner wsX2_owner) := goodIn_app (goodIn_of _ (by decide +kernel)) ggX2_whyNotFacing_X2_owner
theorem dX2_whyNotFacing_0 : decode cX2_whyNotFacing 0 = .ok (.aload_n 0, 1) := by decide +kernel
theorem dX2_whyNotFacing_1 : decode cX2_whyNotFacing 1 = .ok (.iload_n 1, 1) := by decide +kernel
theorem dX2_whyNotFacing_2 : decode cX2_whyNotFacing 2 = .ok (.invokevirtual 82, 3) := by decide +kernel
theorem dX2_whyNotFacing_5 : decode cX2_whyNotFacing 5 = .ok (.istore_n 2, 1) := by decide +kernel
theorem dX2_whyNotFacing_6 : decode cX2_whyNotFacing 6 = .ok (.iload_n 2, 1) := by decide +kernel
theorem dX2_whyNotFacing_7 : decode cX2_whyNotFacing 7 = .ok (.ifCond .ne 5, 3) := by decide +kernel
theorem dX2_whyNotFacing_10 : decode cX2_whyNotFacing 10 = .ok (.iconst 0, 1) := by decide +kernel
theorem dX2_whyNotFacing_11 : decode cX2_whyNotFacing 11 = .ok (.ireturn, 1) := by decide +kernel
theorem dX2_whyNotFacing_12 : decode cX2_whyNotFacing 12 = .ok (.aload_n 0, 1) := by decide +kernel
theorem dX2_whyNotFacing_13 : decode cX2_whyNotFacing 13 = .ok (.iload_n 2, 1) := by decide +kernel
theorem dX2_whyNotFacing_14 : decode cX2_whyNotFacing 14 = .ok (.invokevirtual 85, 3) := by decide +kernel
theorem dX2_whyNotFacing_17 : decode cX2_whyNotFacing 17 = .ok (.istore_n 3, 1) := by decide +kernel
theorem dX2_whyNotFacing_18 : decode cX2_whyNotFacing 18 = .ok (.iload_n 3, 1) := by decide +kernel
theorem dX2_whyNotFacing_19 : decode cX2_whyNotFacing 19 = .ok (.bipush (-5), 2) := by decide +kernel
theorem dX2_whyNotFacing_21 : decode cX2_whyNotFacing 21 = .ok (.if_icmp .ne 5, 3) := by decide +kernel
theorem dX2_whyNotFacing_24 : decode cX2_whyNotFacing 24 = .ok (.iconst 1, 1) := by decide +kernel
theorem dX2_whyNotFacing_25 : decode cX2_whyNotFacing 25 = .ok (.ireturn, 1) := by decide +kernel
theorem dX2_whyNotFacing_26 : decode cX2_whyNotFacing 26 = .ok (.aload_n 0, 1) := by decide +kernel
theorem dX2_whyNotFacing_27 : decode cX2_whyNotFacing 27 = .ok (.iload_n 3, 1) := by decide +kernel
theorem dX2_whyNotFacing_28 : decode cX2_whyNotFacing 28 = .ok (.invokevirtual 88, 3) := by decide +kernel
theorem dX2_whyNotFacing_31 : decode cX2_whyNotFacing 31 = .ok (.ifCond .eq 5, 3) := by decide +kernel
theorem dX2_whyNotFacing_34 : decode cX2_whyNotFacing 34 = .ok (.iconst 3, 1) := by decide +kernel
theorem dX2_whyNotFacing_35 : decode cX2_whyNotFacing 35 = .ok (.ireturn, 1) := by decide +kernel
theorem dX2_whyNotFacing_36 : decode cX2_whyNotFacing 36 = .ok (.aload_n 0, 1) := by decide +kernel
theorem dX2_whyNotFacing_37 : decode cX2_whyNotFacing 37 = .ok (.iload_n 3, 1) := by decide +kernel
theorem dX2_whyNotFacing_38 : decode cX2_whyNotFacing 38 = .ok (.invokevirtual 92, 3) := by decide +kernel
theorem dX2_whyNotFacing_41 : decode cX2_whyNotFacing 41 = .ok (.iload_n 1, 1) := by decide +kernel
theorem dX2_whyNotFacing_42 : decode cX2_whyNotFacing 42 = .ok (.if_icmp .ne 7, 3) := by decide +kernel
theorem dX2_whyNotFacing_45 : decode cX2_whyNotFacing 45 = .ok (.iconst 0, 1) := by decide +kernel
theorem dX2_whyNotFacing_46 : decode cX2_whyNotFacing 46 = .ok (.goto 4, 3) := by decide +kernel
theorem dX2_whyNotFacing_49 : decode cX2_whyNotFacing 49 = .ok (.iconst 2, 1) := by decide +kernel
theorem dX2_whyNotFacing_50 : decode cX2_whyNotFacing 50 = .ok (.ireturn, 1) := by decide +kernel
set_option maxRecDepth 20000 in
theorem ggX2_isBlank_X2_kind : GoodIn wsX2_isBlank wsX2_kind := goodIn_r _ [5, 6, 7, 8, 9, 10, 11, 12, 13, 14, 15, 16, 17, 18, 19, 20] (by decide +kernel) (by decide +kernel)
set_option maxRecDepth 20000 in
theorem gX2_isBlank_X2_kind : GoodIn wsX2_isBlank (wsV RX2 95 RX2 yX2_kind wsX2_kind) := goodIn_app (goodIn_of _ (by decide +kernel)) ggX2_isBlank_X2_kind
theorem dX2_isBlank_0 : decode cX2_isBlank 0 = .ok (.aload_n 0, 1) := by decide +kernel
theorem dX2_isBlank_1 : decode cX2_isBlank 1 = .ok (.iload_n 1, 1) := by decide +kernel
theorem dX2_isBlank_2 : decode cX2_isBlank 2 = .ok (.invokevirtual 95, 3) := by decide +kernel
theorem dX2_isBlank_5 : decode cX2_isBlank 5 = .ok (.ifCond .eq 12, 3) := by decide +kernel
theorem dX2_isBlank_8 : decode cX2_isBlank 8 = .ok (.aload_n 0, 1) := by decide +kernel
theorem dX2_isBlank_9 : decode cX2_isBlank 9 = .ok (.iload_n 1, 1) := by decide +kernel
theorem dX2_isBlank_10 : decode cX2_isBlank 10 = .ok (.invokevirtual 95, 3) := by decide +kernel
theorem dX2_isBlank_13 : decode cX2_isBlank 13 = .ok (.iconst 4, 1) := by decide +kernel
theorem dX2_isBlank_14 : decode cX2_isBlank 14 = .ok (.if_icmp .ne 7, 3) := by decide +kernel
theorem dX2_isBlank_17 : decode cX2_isBlank 17 = .ok (.iconst 1, 1) := by decide +kernel
theorem dX2_isBlank_18 : decode cX2_isBlank 18 = .ok (.goto 4, 3) := by decide +kernel
theorem dX2_isBlank_21 : decode cX2_isBlank 21 = .ok (.iconst 0, 1) := by decide +kernel
theorem dX2_isBlank_22 : decode cX2_isBlank 22 = .ok (.ireturn, 1) := by decide +kernel
set_option maxRecDepth 20000 in
theorem ggX2_isPlatePage_X2_isBlank : GoodIn wsX2_isPlatePage wsX2_isBlank := goodIn_r _ [5, 6, 7, 8, 4, 9, 10, 11, 12, 13, 14, 15, 16, 17, 18, 19, 20, 21, 22, 23, 24] (by decide +kernel) (by decide +kernel)
set_option maxRecDepth 20000 in
theorem gX2_isPlatePage_X2_isBlank : GoodIn wsX2_isPlatePage (wsV RX2 88 RX2 yX2_isBlank wsX2_isBlank) := goodIn_app (goodIn_of _ (by decide +kernel)) ggX2_isPlatePage_X2_isBlank
set_option maxRecDepth 20000 in
theorem ggX2_isPlatePage_X2_kind : GoodIn wsX2_isPlatePage wsX2_kind := goodIn_r _ [9, 10, 11, 12, 13, 14, 15, 16, 17, 18, 19, 20, 21, 22, 23, 24] (by decide +kernel) (by decide +kernel)
set_option maxRecDepth 20000 in
theorem gX2_isPlatePage_X2_kind : GoodIn wsX2_isPlatePage (wsV RX2 95 RX2 yX2_kind wsX2_kind) := goodIn_app (goodIn_of _ (by decide +kernel)) ggX2_isPlatePage_X2_kind
theorem dX2_isPlatePage_0 : decode cX2_isPlatePage 0 = .ok (.aload_n 0, 1) := by decide +kernel
theorem dX2_isPlatePage_1 : decode cX2_isPlatePage 1 = .ok (.iload_n 1, 1) := by decide +kernel
theorem dX2_isPlatePage_2 : decode cX2_isPlatePage 2 = .ok (.invokevirtual 88, 3) := by decide +kernel
theorem dX2_isPlatePage_5 : decode cX2_isPlatePage 5 = .ok (.ifCond .ne 16, 3) := by decide +kernel
theorem dX2_isPlatePage_8 : decode cX2_isPlatePage 8 = .ok (.aload_n 0, 1) := by decide +kernel
theorem dX2_isPlatePage_9 : decode cX2_isPlatePage 9 = .ok (.iload_n 1, 1) := by decide +kernel
theorem dX2_isPlatePage_10 : decode cX2_isPlatePage 10 = .ok (.invokevirtual 95, 3) := by decide +kernel
theorem dX2_isPlatePage_13 : decode cX2_isPlatePage 13 = .ok (.iconst 1, 1) := by decide +kernel
theorem dX2_isPlatePage_14 : decode cX2_isPlatePage 14 = .ok (.if_icmp .eq 7, 3) := by decide +kernel
theorem dX2_isPlatePage_17 : decode cX2_isPlatePage 17 = .ok (.iconst 1, 1) := by decide +kernel
theorem dX2_isPlatePage_18 : decode cX2_isPlatePage 18 = .ok (.goto 4, 3) := by decide +kernel
theorem dX2_isPlatePage_21 : decode cX2_isPlatePage 21 = .ok (.iconst 0, 1) := by decide +kernel
theorem dX2_isPlatePage_22 : decode cX2_isPlatePage 22 = .ok (.ireturn, 1) := by decide +kernel
set_option maxRecDepth 20000 in
theorem ggX2_lotsIn_X2_owner : GoodIn wsX2_lotsIn wsX2_owner := goodIn_r _ [6, 7, 8, 9, 10, 11, 12, 13, 14, 15, 16, 17, 18, 19, 20, 21] (by decide +kernel) (by decide +kernel)
set_option maxRecDepth 20000 in
theorem gX2_lotsIn_X2_owner : GoodIn wsX2_lotsIn (wsV RX2 92 RX2 yX2_owner wsX2_owner) := goodIn_app (goodIn_of _ (by decide +kernel)) ggX2_lotsIn_X2_owner
theorem dX2_lotsIn_0 : decode cX2_lotsIn 0 = .ok (.iconst 0, 1) := by decide +kernel
theorem dX2_lotsIn_1 : decode cX2_lotsIn 1 = .ok (.istore_n 2, 1) := by decide +kernel
theorem dX2_lotsIn_2 : decode cX2_lotsIn 2 = .ok (.bipush (-5), 2) := by decide +kernel
theorem dX2_lotsIn_4 : decode cX2_lotsIn 4 = .ok (.istore_n 3, 1) := by decide +kernel
theorem dX2_lotsIn_5 : decode cX2_lotsIn 5 = .ok (.iconst 1, 1) := by decide +kernel
theorem dX2_lotsIn_6 : decode cX2_lotsIn 6 = .ok (.istore 4, 2) := by decide +kernel
theorem dX2_lotsIn_8 : decode cX2_lotsIn 8 = .ok (.iload 4, 2) := by decide +kernel
theorem dX2_lotsIn_10 : decode cX2_lotsIn 10 = .ok (.aload_n 0, 1) := by decide +kernel
theorem dX2_lotsIn_11 : decode cX2_lotsIn 11 = .ok (.getfield 29, 3) := by decide +kernel
theorem dX2_lotsIn_14 : decode cX2_lotsIn 14 = .ok (.if_icmp .gt 43, 3) := by decide +kernel
theorem dX2_lotsIn_17 : decode cX2_lotsIn 17 = .ok (.aload_n 0, 1) := by decide +kernel
theorem dX2_lotsIn_18 : decode cX2_lotsIn 18 = .ok (.iload_n 1, 1) := by decide +kernel
theorem dX2_lotsIn_19 : decode cX2_lotsIn 19 = .ok (.aload_n 0, 1) := by decide +kernel
theorem dX2_lotsIn_20 : decode cX2_lotsIn 20 = .ok (.getfield 29, 3) := by decide +kernel
theorem dX2_lotsIn_23 : decode cX2_lotsIn 23 = .ok (.imul, 1) := by decide +kernel
theorem dX2_lotsIn_24 : decode cX2_lotsIn 24 = .ok (.iload 4, 2) := by decide +kernel
theorem dX2_lotsIn_26 : decode cX2_lotsIn 26 = .ok (.iadd, 1) := by decide +kernel
theorem dX2_lotsIn_27 : decode cX2_lotsIn 27 = .ok (.invokevirtual 92, 3) := by decide +kernel
theorem dX2_lotsIn_30 : decode cX2_lotsIn 30 = .ok (.istore 5, 2) := by decide +kernel
theorem dX2_lotsIn_32 : decode cX2_lotsIn 32 = .ok (.iload 5, 2) := by decide +kernel
theorem dX2_lotsIn_34 : decode cX2_lotsIn 34 = .ok (.bipush (-5), 2) := by decide +kernel
theorem dX2_lotsIn_36 : decode cX2_lotsIn 36 = .ok (.if_icmp .eq 15, 3) := by decide +kernel
theorem dX2_lotsIn_39 : decode cX2_lotsIn 39 = .ok (.iload 5, 2) := by decide +kernel
theorem dX2_lotsIn_41 : decode cX2_lotsIn 41 = .ok (.iload_n 3, 1) := by decide +kernel
theorem dX2_lotsIn_42 : decode cX2_lotsIn 42 = .ok (.if_icmp .eq 9, 3) := by decide +kernel
theorem dX2_lotsIn_45 : decode cX2_lotsIn 45 = .ok (.iinc 2 1, 3) := by decide +kernel
theorem dX2_lotsIn_48 : decode cX2_lotsIn 48 = .ok (.iload 5, 2) := by decide +kernel
theorem dX2_lotsIn_50 : decode cX2_lotsIn 50 = .ok (.istore_n 3, 1) := by decide +kernel
theorem dX2_lotsIn_51 : decode cX2_lotsIn 51 = .ok (.iinc 4 1, 3) := by decide +kernel
theorem dX2_lotsIn_54 : decode cX2_lotsIn 54 = .ok (.goto (-46), 3) := by decide +kernel
theorem dX2_lotsIn_57 : decode cX2_lotsIn 57 = .ok (.iload_n 2, 1) := by decide +kernel
theorem dX2_lotsIn_58 : decode cX2_lotsIn 58 = .ok (.ireturn, 1) := by decide +kernel
set_option maxRecDepth 20000 in
theorem ggX2_platesIn_X2_isPlatePage : GoodIn wsX2_platesIn wsX2_isPlatePage := goodIn_r _ [6, 7, 8, 9, 5, 10, 11, 12, 13, 14, 15, 16, 17, 18, 19, 20, 21, 22, 23, 24, 25, 26, 27, 28, 29] (by decide +kernel) (by decide +kernel)
set_option maxRecDepth 20000 in
theorem gX2_platesIn_X2_isPlatePage : GoodIn wsX2_platesIn (wsV RX2 98 RX2 yX2_isPlatePage wsX2_isPlatePage) := goodIn_app (goodIn_of _ (by decide +kernel)) ggX2_platesIn_X2_isPlatePage
theorem dX2_platesIn_0 : decode cX2_platesIn 0 = .ok (.iconst 0, 1) := by decide +kernel
theorem dX2_platesIn_1 : decode cX2_platesIn 1 = .ok (.istore_n 2, 1) := by decide +kernel
theorem dX2_platesIn_2 : decode cX2_platesIn 2 = .ok (.iconst 1, 1) := by decide +kernel
theorem dX2_platesIn_3 : decode cX2_platesIn 3 = .ok (.istore_n 3, 1) := by decide +kernel
theorem dX2_platesIn_4 : decode cX2_platesIn 4 = .ok (.iload_n 3, 1) := by decide +kernel
theorem dX2_platesIn_5 : decode cX2_platesIn 5 = .ok (.aload_n 0, 1) := by decide +kernel
theorem dX2_platesIn_6 : decode cX2_platesIn 6 = .ok (.getfield 29, 3) := by decide +kernel
theorem dX2_platesIn_9 : decode cX2_platesIn 9 = .ok (.if_icmp .gt 32, 3) := by decide +kernel
theorem dX2_platesIn_12 : decode cX2_platesIn 12 = .ok (.iload_n 2, 1) := by decide +kernel
theorem dX2_platesIn_13 : decode cX2_platesIn 13 = .ok (.aload_n 0, 1) := by decide +kernel
theorem dX2_platesIn_14 : decode cX2_platesIn 14 = .ok (.iload_n 1, 1) := by decide +kernel
theorem dX2_platesIn_15 : decode cX2_platesIn 15 = .ok (.aload_n 0, 1) := by decide +kernel
theorem dX2_platesIn_16 : decode cX2_platesIn 16 = .ok (.getfield 29, 3) := by decide +kernel
theorem dX2_platesIn_19 : decode cX2_platesIn 19 = .ok (.imul, 1) := by decide +kernel
theorem dX2_platesIn_20 : decode cX2_platesIn 20 = .ok (.iload_n 3, 1) := by decide +kernel
theorem dX2_platesIn_21 : decode cX2_platesIn 21 = .ok (.iadd, 1) := by decide +kernel
theorem dX2_platesIn_22 : decode cX2_platesIn 22 = .ok (.invokevirtual 98, 3) := by decide +kernel
theorem dX2_platesIn_25 : decode cX2_platesIn 25 = .ok (.ifCond .eq 7, 3) := by decide +kernel
theorem dX2_platesIn_28 : decode cX2_platesIn 28 = .ok (.iconst 1, 1) := by decide +kernel
theorem dX2_platesIn_29 : decode cX2_platesIn 29 = .ok (.goto 4, 3) := by decide +kernel
theorem dX2_platesIn_32 : decode cX2_platesIn 32 = .ok (.iconst 0, 1) := by decide +kernel
theorem dX2_platesIn_33 : decode cX2_platesIn 33 = .ok (.iadd, 1) := by decide +kernel
theorem dX2_platesIn_34 : decode cX2_platesIn 34 = .ok (.istore_n 2, 1) := by decide +kernel
theorem dX2_platesIn_35 : decode cX2_platesIn 35 = .ok (.iinc 3 1, 3) := by decide +kernel
theorem dX2_platesIn_38 : decode cX2_platesIn 38 = .ok (.goto (-34), 3) := by decide +kernel
theorem dX2_platesIn_41 : decode cX2_platesIn 41 = .ok (.iload_n 2, 1) := by decide +kernel
theorem dX2_platesIn_42 : decode cX2_platesIn 42 = .ok (.ireturn, 1) := by decide +kernel
set_option maxRecDepth 20000 in
theorem ggX2_blanksIn_X2_isBlank : GoodIn wsX2_blanksIn wsX2_isBlank := goodIn_r _ [6, 7, 8, 9, 5, 10, 11, 12, 13, 14, 15, 16, 17, 18, 19, 20, 21, 22, 23, 24, 25] (by decide +kernel) (by decide +kernel)
set_option maxRecDepth 20000 in
theorem gX2_blanksIn_X2_isBlank : GoodIn wsX2_blanksIn (wsV RX2 88 RX2 yX2_isBlank wsX2_isBlank) := goodIn_app (goodIn_of _ (by decide +kernel)) ggX2_blanksIn_X2_isBlank
theorem dX2_blanksIn_0 : decode cX2_blanksIn 0 = .ok (.iconst 0, 1) := by decide +kernel
theorem dX2_blanksIn_1 : decode cX2_blanksIn 1 = .ok (.istore_n 2, 1) := by decide +kernel
theorem dX2_blanksIn_2 : decode cX2_blanksIn 2 = .ok (.iconst 1, 1) := by decide +kernel
theorem dX2_blanksIn_3 : decode cX2_blanksIn 3 = .ok (.istore_n 3, 1) := by decide +kernel
theorem dX2_blanksIn_4 : decode cX2_blanksIn 4 = .ok (.iload_n 3, 1) := by decide +kernel
theorem dX2_blanksIn_5 : decode cX2_blanksIn 5 = .ok (.aload_n 0, 1) := by decide +kernel
theorem dX2_blanksIn_6 : decode cX2_blanksIn 6 = .ok (.getfield 29, 3) := by decide +kernel
theorem dX2_blanksIn_9 : decode cX2_blanksIn 9 = .ok (.if_icmp .gt 32, 3) := by decide +kernel
theorem dX2_blanksIn_12 : decode cX2_blanksIn 12 = .ok (.iload_n 2, 1) := by decide +kernel
theorem dX2_blanksIn_13 : decode cX2_blanksIn 13 = .ok (.aload_n 0, 1) := by decide +kernel
theorem dX2_blanksIn_14 : decode cX2_blanksIn 14 = .ok (.iload_n 1, 1) := by decide +kernel
theorem dX2_blanksIn_15 : decode cX2_blanksIn 15 = .ok (.aload_n 0, 1) := by decide +kernel
theorem dX2_blanksIn_16 : decode cX2_blanksIn 16 = .ok (.getfield 29, 3) := by decide +kernel
theorem dX2_blanksIn_19 : decode cX2_blanksIn 19 = .ok (.imul, 1) := by decide +kernel
theorem dX2_blanksIn_20 : decode cX2_blanksIn 20 = .ok (.iload_n 3, 1) := by decide +kernel
theorem dX2_blanksIn_21 : decode cX2_blanksIn 21 = .ok (.iadd, 1) := by decide +kernel
theorem dX2_blanksIn_22 : decode cX2_blanksIn 22 = .ok (.invokevirtual 88, 3) := by decide +kernel
theorem dX2_blanksIn_25 : decode cX2_blanksIn 25 = .ok (.ifCond .eq 7, 3) := by decide +kernel
theorem dX2_blanksIn_28 : decode cX2_blanksIn 28 = .ok (.iconst 1, 1) := by decide +kernel
theorem dX2_blanksIn_29 : decode cX2_blanksIn 29 = .ok (.goto 4, 3) := by decide +kernel
theorem dX2_blanksIn_32 : decode cX2_blanksIn 32 = .ok (.iconst 0, 1) := by decide +kernel
theorem dX2_blanksIn_33 : decode cX2_blanksIn 33 = .ok (.iadd, 1) := by decide +kernel
theorem dX2_blanksIn_34 : decode cX2_blanksIn 34 = .ok (.istore_n 2, 1) := by decide +kernel
theorem dX2_blanksIn_35 : decode cX2_blanksIn 35 = .ok (.iinc 3 1, 3) := by decide +kernel
theorem dX2_blanksIn_38 : decode cX2_blanksIn 38 = .ok (.goto (-34), 3) := by decide +kernel
theorem dX2_blanksIn_41 : decode cX2_blanksIn 41 = .ok (.iload_n 2, 1) := by decide +kernel
theorem dX2_blanksIn_42 : decode cX2_blanksIn 42 = .ok (.ireturn, 1) := by decide +kernel
set_option maxRecDepth 20000 in
theorem ggX2_coloured_X7_sideOfPage : GoodIn wsX2_coloured wsX7_sideOfPage := goodIn_r _ [4] (by decide +kernel) (by decide +kernel)
set_option maxRecDepth 20000 in
theorem gX2_coloured_X7_sideOfPage_n101 : GoodIn wsX2_coloured (wsX7_sideOfPage) := ggX2_coloured_X7_sideOfPage
set_option maxRecDepth 20000 in
theorem ggX2_coloured_X2_kind : GoodIn wsX2_coloured wsX2_kind := goodIn_r _ [9, 10, 11, 12, 13, 14, 15, 16, 17, 18, 19, 20, 21, 22, 23, 24] (by decide +kernel) (by decide +kernel)
set_option maxRecDepth 20000 in
theorem gX2_coloured_X2_kind : GoodIn wsX2_coloured (wsV RX2 95 RX2 yX2_kind wsX2_kind) := goodIn_app (goodIn_of _ (by decide +kernel)) ggX2_coloured_X2_kind
theorem dX2_coloured_0 : decode cX2_coloured 0 = .ok (.iconst 1, 1) := by decide +kernel
theorem dX2_coloured_1 : decode cX2_coloured 1 = .ok (.istore_n 3, 1) := by decide +kernel
theorem dX2_coloured_2 : decode cX2_coloured 2 = .ok (.iload_n 3, 1) := by decide +kernel
theorem dX2_coloured_3 : decode cX2_coloured 3 = .ok (.aload_n 0, 1) := by decide +kernel
theorem dX2_coloured_4 : decode cX2_coloured 4 = .ok (.getfield 29, 3) := by decide +kernel
theorem dX2_coloured_7 : decode cX2_coloured 7 = .ok (.if_icmp .gt 40, 3) := by decide +kernel
theorem dX2_coloured_10 : decode cX2_coloured 10 = .ok (.iload_n 1, 1) := by decide +kernel
theorem dX2_coloured_11 : decode cX2_coloured 11 = .ok (.aload_n 0, 1) := by decide +kernel
theorem dX2_coloured_12 : decode cX2_coloured 12 = .ok (.getfield 29, 3) := by decide +kernel
theorem dX2_coloured_15 : decode cX2_coloured 15 = .ok (.imul, 1) := by decide +kernel
theorem dX2_coloured_16 : decode cX2_coloured 16 = .ok (.iload_n 3, 1) := by decide +kernel
theorem dX2_coloured_17 : decode cX2_coloured 17 = .ok (.iadd, 1) := by decide +kernel
theorem dX2_coloured_18 : decode cX2_coloured 18 = .ok (.istore 4, 2) := by decide +kernel
theorem dX2_coloured_20 : decode cX2_coloured 20 = .ok (.iload 4, 2) := by decide +kernel
theorem dX2_coloured_22 : decode cX2_coloured 22 = .ok (.invokestatic 101, 3) := by decide +kernel
theorem dX2_coloured_25 : decode cX2_coloured 25 = .ok (.iload_n 2, 1) := by decide +kernel
theorem dX2_coloured_26 : decode cX2_coloured 26 = .ok (.if_icmp .ne 15, 3) := by decide +kernel
theorem dX2_coloured_29 : decode cX2_coloured 29 = .ok (.aload_n 0, 1) := by decide +kernel
theorem dX2_coloured_30 : decode cX2_coloured 30 = .ok (.iload 4, 2) := by decide +kernel
theorem dX2_coloured_32 : decode cX2_coloured 32 = .ok (.invokevirtual 95, 3) := by decide +kernel
theorem dX2_coloured_35 : decode cX2_coloured 35 = .ok (.iconst 3, 1) := by decide +kernel
theorem dX2_coloured_36 : decode cX2_coloured 36 = .ok (.if_icmp .ne 5, 3) := by decide +kernel
theorem dX2_coloured_39 : decode cX2_coloured 39 = .ok (.iconst 1, 1) := by decide +kernel
theorem dX2_coloured_40 : decode cX2_coloured 40 = .ok (.ireturn, 1) := by decide +kernel
theorem dX2_coloured_41 : decode cX2_coloured 41 = .ok (.iinc 3 1, 3) := by decide +kernel
theorem dX2_coloured_44 : decode cX2_coloured 44 = .ok (.goto (-42), 3) := by decide +kernel
theorem dX2_coloured_47 : decode cX2_coloured 47 = .ok (.iconst 0, 1) := by decide +kernel
theorem dX2_coloured_48 : decode cX2_coloured 48 = .ok (.ireturn, 1) := by decide +kernel
set_option maxRecDepth 20000 in
theorem ggX2_colouredSides_X2_coloured : GoodIn wsX2_colouredSides wsX2_coloured := goodIn_r _ [6, 7, 8, 9, 10, 11, 12, 13, 5, 14, 15, 16, 17, 18, 19, 20, 21, 22, 23, 24, 25, 26, 27, 28, 29] (by decide +kernel) (by decide +kernel)
set_option maxRecDepth 20000 in
theorem gX2_colouredSides_X2_coloured : GoodIn wsX2_colouredSides (wsV RX2 104 RX2 yX2_coloured wsX2_coloured) := goodIn_app (goodIn_of _ (by decide +kernel)) ggX2_colouredSides_X2_coloured
theorem dX2_colouredSides_0 : decode cX2_colouredSides 0 = .ok (.iconst 0, 1) := by decide +kernel
theorem dX2_colouredSides_1 : decode cX2_colouredSides 1 = .ok (.istore_n 1, 1) := by decide +kernel
theorem dX2_colouredSides_2 : decode cX2_colouredSides 2 = .ok (.iconst 0, 1) := by decide +kernel
theorem dX2_colouredSides_3 : decode cX2_colouredSides 3 = .ok (.istore_n 2, 1) := by decide +kernel
theorem dX2_colouredSides_4 : decode cX2_colouredSides 4 = .ok (.iload_n 2, 1) := by decide +kernel
theorem dX2_colouredSides_5 : decode cX2_colouredSides 5 = .ok (.aload_n 0, 1) := by decide +kernel
theorem dX2_colouredSides_6 : decode cX2_colouredSides 6 = .ok (.getfield 36, 3) := by decide +kernel
theorem dX2_colouredSides_9 : decode cX2_colouredSides 9 = .ok (.if_icmp .ge 25, 3) := by decide +kernel
theorem dX2_colouredSides_12 : decode cX2_colouredSides 12 = .ok (.iload_n 1, 1) := by decide +kernel
theorem dX2_colouredSides_13 : decode cX2_colouredSides 13 = .ok (.aload_n 0, 1) := by decide +kernel
theorem dX2_colouredSides_14 : decode cX2_colouredSides 14 = .ok (.iload_n 2, 1) := by decide +kernel
theorem dX2_colouredSides_15 : decode cX2_colouredSides 15 = .ok (.iconst 0, 1) := by decide +kernel
theorem dX2_colouredSides_16 : decode cX2_colouredSides 16 = .ok (.invokevirtual 104, 3) := by decide +kernel
theorem dX2_colouredSides_19 : decode cX2_colouredSides 19 = .ok (.aload_n 0, 1) := by decide +kernel
theorem dX2_colouredSides_20 : decode cX2_colouredSides 20 = .ok (.iload_n 2, 1) := by decide +kernel
theorem dX2_colouredSides_21 : decode cX2_colouredSides 21 = .ok (.iconst 1, 1) := by decide +kernel
theorem dX2_colouredSides_22 : decode cX2_colouredSides 22 = .ok (.invokevirtual 104, 3) := by decide +kernel
theorem dX2_colouredSides_25 : decode cX2_colouredSides 25 = .ok (.iadd, 1) := by decide +kernel
theorem dX2_colouredSides_26 : decode cX2_colouredSides 26 = .ok (.iadd, 1) := by decide +kernel
theorem dX2_colouredSides_27 : decode cX2_colouredSides 27 = .ok (.istore_n 1, 1) := by decide +kernel
theorem dX2_colouredSides_28 : decode cX2_colouredSides 28 = .ok (.iinc 2 1, 3) := by decide +kernel
theorem dX2_colouredSides_31 : decode cX2_colouredSides 31 = .ok (.goto (-27), 3) := by decide +kernel
theorem dX2_colouredSides_34 : decode cX2_colouredSides 34 = .ok (.iload_n 1, 1) := by decide +kernel
theorem dX2_colouredSides_35 : decode cX2_colouredSides 35 = .ok (.ireturn, 1) := by decide +kernel
set_option maxRecDepth 20000 in
theorem ggX3_init_X0_init : GoodIn wsX3_init wsX0_init := goodIn_r _ [16, 17, 2, 3, 18, 9, 10, 19, 20, 21, 22, 23, 24, 25, 26, 27, 28, 29, 36, 31] (by decide +kernel) (by decide +kernel)
set_option maxRecDepth 20000 in
theorem gX3_init_X0_init : GoodIn wsX3_init (wsX0_init) := ggX3_init_X0_init
set_option maxRecDepth 20000 in
theorem ggX3_init_X5_init : GoodIn wsX3_init wsX5_init := goodIn_r _ [22, 23, 2, 3, 24, 25, 36] (by decide +kernel) (by decide +kernel)
set_option maxRecDepth 20000 in
theorem gX3_init_X5_init : GoodIn wsX3_init (wsX5_init) := ggX3_init_X5_init
theorem dX3_init_0 : decode cX3_init 0 = .ok (.aload_n 0, 1) := by decide +kernel
theorem dX3_init_1 : decode cX3_init 1 = .ok (.invokespecial 5, 3) := by decide +kernel
theorem dX3_init_4 : decode cX3_init 4 = .ok (.aload_n 0, 1) := by decide +kernel
theorem dX3_init_5 : decode cX3_init 5 = .ok (.new 11, 3) := by decide +kernel
theorem dX3_init_8 : decode cX3_init 8 = .ok (.dup, 1) := by decide +kernel
theorem dX3_init_9 : decode cX3_init 9 = .ok (.invokespecial 13, 3) := by decide +kernel
theorem dX3_init_12 : decode cX3_init 12 = .ok (.putfield 14, 3) := by decide +kernel
theorem dX3_init_15 : decode cX3_init 15 = .ok (.aload_n 0, 1) := by decide +kernel
theorem dX3_init_16 : decode cX3_init 16 = .ok (.new 18, 3) := by decide +kernel
theorem dX3_init_19 : decode cX3_init 19 = .ok (.dup, 1) := by decide +kernel
theorem dX3_init_20 : decode cX3_init 20 = .ok (.bipush 13, 2) := by decide +kernel
theorem dX3_init_22 : decode cX3_init 22 = .ok (.invokespecial 20, 3) := by decide +kernel
theorem dX3_init_25 : decode cX3_init 25 = .ok (.putfield 23, 3) := by decide +kernel
theorem dX3_init_28 : decode cX3_init 28 = .ok (.aload_n 0, 1) := by decide +kernel
theorem dX3_init_29 : decode cX3_init 29 = .ok (.new 18, 3) := by decide +kernel
theorem dX3_init_32 : decode cX3_init 32 = .ok (.dup, 1) := by decide +kernel
theorem dX3_init_33 : decode cX3_init 33 = .ok (.sipush 676, 3) := by decide +kernel
theorem dX3_init_36 : decode cX3_init 36 = .ok (.invokespecial 20, 3) := by decide +kernel
theorem dX3_init_39 : decode cX3_init 39 = .ok (.putfield 27, 3) := by decide +kernel
theorem dX3_init_42 : decode cX3_init 42 = .ok (.aload_n 0, 1) := by decide +kernel
theorem dX3_init_43 : decode cX3_init 43 = .ok (.iconst 0, 1) := by decide +kernel
theorem dX3_init_44 : decode cX3_init 44 = .ok (.putfield 30, 3) := by decide +kernel
theorem dX3_init_47 : decode cX3_init 47 = .ok (.return_, 1) := by decide +kernel
theorem dX3_chosen_0 : decode cX3_chosen 0 = .ok (.aload_n 0, 1) := by decide +kernel
theorem dX3_chosen_1 : decode cX3_chosen 1 = .ok (.getfield 14, 3) := by decide +kernel
theorem dX3_chosen_4 : decode cX3_chosen 4 = .ok (.areturn, 1) := by decide +kernel
set_option maxRecDepth 20000 in
theorem ggX3_solve_X0_copy : GoodIn wsX3_solve wsX0_copy := goodIn_r _ [8, 9, 10, 11, 12, 13, 14, 15, 16, 17, 18, 19, 20, 21, 22, 23, 143, 144] (by decide +kernel) (by decide +kernel)
set_option maxRecDepth 20000 in
theorem gX3_solve_X0_copy : GoodIn wsX3_solve (wsV RX3 34 RX0 yX0_copy wsX0_copy) := goodIn_app (goodIn_of _ (by decide +kernel)) ggX3_solve_X0_copy
set_option maxRecDepth 20000 in
theorem ggX3_solve_X0_putSetting : GoodIn wsX3_solve wsX0_putSetting := goodIn_r _ [27, 9, 28, 21, 22, 13, 23, 19, 143, 144] (by decide +kernel) (by decide +kernel)
set_option maxRecDepth 20000 in
theorem gX3_solve_X0_putSetting : GoodIn wsX3_solve (wsV RX3 38 RX0 yX0_putSetting wsX0_putSetting) := goodIn_app (goodIn_of _ (by decide +kernel)) ggX3_solve_X0_putSetting
set_option maxRecDepth 20000 in
theorem ggX3_solve_X3_countPagesAhead : GoodIn wsX3_solve wsX3_countPagesAhead := goodIn_r _ [33, 34, 2, 35, 21, 22, 13, 23, 19, 36, 37, 38, 7, 39, 9, 40, 16, 17, 18, 41, 42, 43, 44, 45, 46, 47, 48, 49, 50, 51, 52, 53, 139, 140, 141, 142, 144, 143] (by decide +kernel) (by decide +kernel)
set_option maxRecDepth 20000 in
theorem gX3_solve_X3_countPagesAhead : GoodIn wsX3_solve (wsV RX3 42 RX3 yX3_countPagesAhead wsX3_countPagesAhead) := goodIn_app (goodIn_of _ (by decide +kernel)) ggX3_solve_X3_countPagesAhead
set_option maxRecDepth 20000 in
theorem ggX3_solve_X3_weighEnds : GoodIn wsX3_solve wsX3_weighEnds := goodIn_r _ [57, 2, 1, 36, 37, 38, 7, 39, 9, 40, 16, 17, 13, 18, 19, 58, 59, 60, 32, 61, 34, 41, 62, 63, 64, 65, 66, 67, 68, 69, 70, 71, 72, 73, 74, 75, 76, 77, 78, 79, 80, 81, 82, 83, 35, 21, 22, 23, 139, 140, 141, 142, 143, 144] (by decide +kernel) (by decide +kernel)
set_option maxRecDepth 20000 in
theorem gX3_solve_X3_weighEnds : GoodIn wsX3_solve (wsV RX3 45 RX3 yX3_weighEnds wsX3_weighEnds) := goodIn_app (goodIn_of _ (by decide +kernel)) ggX3_solve_X3_weighEnds
set_option maxRecDepth 20000 in
theorem ggX3_solve_X0_lots : GoodIn wsX3_solve wsX0_lots := goodIn_r _ [39, 9, 40, 16, 17, 13, 18, 19, 143, 144] (by decide +kernel) (by decide +kernel)
set_option maxRecDepth 20000 in
theorem gX3_solve_X0_lots : GoodIn wsX3_solve (wsV RX3 48 RX0 yX0_lots wsX0_lots) := goodIn_app (goodIn_of _ (by decide +kernel)) ggX3_solve_X0_lots
set_option maxRecDepth 20000 in
theorem ggX3_solve_X3_weigh : GoodIn wsX3_solve wsX3_weigh := goodIn_r _ [87, 3, 2, 88, 89, 90, 91, 92, 93, 94, 7, 95, 50, 51, 52, 53, 9, 40, 16, 17, 13, 18, 19, 46, 47, 48, 49, 96, 97, 98, 32, 99, 58, 59, 60, 61, 34, 41, 62, 63, 64, 100, 101, 102, 103, 104, 105, 106, 107, 108, 1, 109, 110, 111, 112, 69, 66, 70, 113, 114, 115, 116, 117, 118, 119, 120, 121, 83, 122, 76, 77, 78, 79, 80, 81, 82, 35, 21, 22, 23, 139, 140, 141, 142, 143, 144] (by decide +kernel) (by decide +kernel)
set_option maxRecDepth 20000 in
theorem gX3_solve_X3_weigh : GoodIn wsX3_solve (wsV RX3 52 RX3 yX3_weigh wsX3_weigh) := goodIn_app (goodIn_of _ (by decide +kernel)) ggX3_solve_X3_weigh
set_option maxRecDepth 20000 in
theorem ggX3_solve_X3_leastFrom : GoodIn wsX3_solve wsX3_leastFrom := goodIn_r _ [121, 83, 41, 16, 17, 13, 18, 19, 139, 140, 141, 142, 144] (by decide +kernel) (by decide +kernel)
set_option maxRecDepth 20000 in
theorem gX3_solve_X3_leastFrom : GoodIn wsX3_solve (wsV RX3 55 RX3 yX3_leastFrom wsX3_leastFrom) := goodIn_app (goodIn_of _ (by decide +kernel)) ggX3_solve_X3_leastFrom
set_option maxRecDepth 20000 in
theorem ggX3_solve_X3_chooseFirst : GoodIn wsX3_solve wsX3_chooseFirst := goodIn_r _ [126, 2, 118, 119, 120, 32, 121, 83, 41, 16, 17, 13, 18, 19, 92, 93, 94, 7, 95, 50, 51, 52, 53, 9, 40, 46, 47, 48, 49, 96, 97, 98, 99, 3, 88, 89, 90, 91, 58, 59, 60, 61, 34, 62, 63, 64, 100, 101, 102, 103, 104, 105, 106, 107, 108, 1, 109, 110, 111, 112, 69, 66, 70, 113, 114, 115, 116, 117, 122, 76, 77, 78, 127, 128, 129, 130, 28, 21, 22, 23, 139, 140, 141, 142, 144, 143] (by decide +kernel) (by decide +kernel)
set_option maxRecDepth 20000 in
theorem gX3_solve_X3_chooseFirst : GoodIn wsX3_solve (wsV RX3 60 RX3 yX3_chooseFirst wsX3_chooseFirst) := goodIn_app (goodIn_of _ (by decide +kernel)) ggX3_solve_X3_chooseFirst
set_option maxRecDepth 20000 in
theorem ggX3_solve_X0_blank : GoodIn wsX3_solve wsX0_blank := goodIn_r _ [134, 9, 40, 16, 17, 13, 18, 19, 143, 144] (by decide +kernel) (by decide +kernel)
set_option maxRecDepth 20000 in
theorem gX3_solve_X0_blank : GoodIn wsX3_solve (wsV RX3 63 RX0 yX0_blank wsX0_blank) := goodIn_app (goodIn_of _ (by decide +kernel)) ggX3_solve_X0_blank
set_option maxRecDepth 20000 in
theorem ggX3_solve_X0_place : GoodIn wsX3_solve wsX0_place := goodIn_r _ [138, 9, 40, 16, 17, 13, 18, 19, 143, 144] (by decide +kernel) (by decide +kernel)
set_option maxRecDepth 20000 in
theorem gX3_solve_X0_place : GoodIn wsX3_solve (wsV RX3 67 RX0 yX0_place wsX0_place) := goodIn_app (goodIn_of _ (by decide +kernel)) ggX3_solve_X0_place
set_option maxRecDepth 20000 in
theorem ggX3_solve_X3_standingBehind : GoodIn wsX3_solve wsX3_standingBehind := goodIn_r _ [108, 1, 2, 58, 59, 60, 32, 61, 34, 41, 16, 17, 13, 18, 19, 62, 63, 64, 109, 110, 111, 112, 69, 66, 70, 100, 51, 52, 7, 53, 9, 40, 113, 114, 115, 116, 117, 139, 140, 141, 142, 144, 143] (by decide +kernel) (by decide +kernel)
set_option maxRecDepth 20000 in
theorem gX3_solve_X3_standingBehind : GoodIn wsX3_solve (wsV RX3 70 RX3 yX3_standingBehind wsX3_standingBehind) := goodIn_app (goodIn_of _ (by decide +kernel)) ggX3_solve_X3_standingBehind
theorem dX3_solve_0 : decode cX3_solve 0 = .ok (.aload_n 0, 1) := by decide +kernel
theorem dX3_solve_1 : decode cX3_solve 1 = .ok (.iload_n 2, 1) := by decide +kernel
theorem dX3_solve_2 : decode cX3_solve 2 = .ok (.putfield 30, 3) := by decide +kernel
theorem dX3_solve_5 : decode cX3_solve 5 = .ok (.aload_n 0, 1) := by decide +kernel
theorem dX3_solve_6 : decode cX3_solve 6 = .ok (.getfield 14, 3) := by decide +kernel
theorem dX3_solve_9 : decode cX3_solve 9 = .ok (.aload_n 1, 1) := by decide +kernel
theorem dX3_solve_10 : decode cX3_solve 10 = .ok (.invokevirtual 34, 3) := by decide +kernel
theorem dX3_solve_13 : decode cX3_solve 13 = .ok (.aload_n 0, 1) := by decide +kernel
theorem dX3_solve_14 : decode cX3_solve 14 = .ok (.getfield 14, 3) := by decide +kernel
theorem dX3_solve_17 : decode cX3_solve 17 = .ok (.iconst 0, 1) := by decide +kernel
theorem dX3_solve_18 : decode cX3_solve 18 = .ok (.aload_n 0, 1) := by decide +kernel
theorem dX3_solve_19 : decode cX3_solve 19 = .ok (.getfield 30, 3) := by decide +kernel
theorem dX3_solve_22 : decode cX3_solve 22 = .ok (.invokevirtual 38, 3) := by decide +kernel
theorem dX3_solve_25 : decode cX3_solve 25 = .ok (.aload_n 0, 1) := by decide +kernel
theorem dX3_solve_26 : decode cX3_solve 26 = .ok (.invokevirtual 42, 3) := by decide +kernel
theorem dX3_solve_29 : decode cX3_solve 29 = .ok (.aload_n 0, 1) := by decide +kernel
theorem dX3_solve_30 : decode cX3_solve 30 = .ok (.invokevirtual 45, 3) := by decide +kernel
theorem dX3_solve_33 : decode cX3_solve 33 = .ok (.aload_n 0, 1) := by decide +kernel
theorem dX3_solve_34 : decode cX3_solve 34 = .ok (.getfield 14, 3) := by decide +kernel
theorem dX3_solve_37 : decode cX3_solve 37 = .ok (.invokevirtual 48, 3) := by decide +kernel
theorem dX3_solve_40 : decode cX3_solve 40 = .ok (.iconst 1, 1) := by decide +kernel
theorem dX3_solve_41 : decode cX3_solve 41 = .ok (.isub, 1) := by decide +kernel
theorem dX3_solve_42 : decode cX3_solve 42 = .ok (.istore_n 3, 1) := by decide +kernel
theorem dX3_solve_43 : decode cX3_solve 43 = .ok (.iload_n 3, 1) := by decide +kernel
theorem dX3_solve_44 : decode cX3_solve 44 = .ok (.ifCond .lt 14, 3) := by decide +kernel
theorem dX3_solve_47 : decode cX3_solve 47 = .ok (.aload_n 0, 1) := by decide +kernel
theorem dX3_solve_48 : decode cX3_solve 48 = .ok (.iload_n 3, 1) := by decide +kernel
theorem dX3_solve_49 : decode cX3_solve 49 = .ok (.invokevirtual 52, 3) := by decide +kernel
theorem dX3_solve_52 : decode cX3_solve 52 = .ok (.iinc 3 (-1), 3) := by decide +kernel
theorem dX3_solve_55 : decode cX3_solve 55 = .ok (.goto (-12), 3) := by decide +kernel
theorem dX3_solve_58 : decode cX3_solve 58 = .ok (.aload_n 0, 1) := by decide +kernel
theorem dX3_solve_59 : decode cX3_solve 59 = .ok (.iconst 0, 1) := by decide +kernel
theorem dX3_solve_60 : decode cX3_solve 60 = .ok (.iconst 0, 1) := by decide +kernel
theorem dX3_solve_61 : decode cX3_solve 61 = .ok (.invokevirtual 55, 3) := by decide +kernel
theorem dX3_solve_64 : decode cX3_solve 64 = .ok (.ldc 59, 2) := by decide +kernel
theorem dX3_solve_66 : decode cX3_solve 66 = .ok (.if_icmp .lt 5, 3) := by decide +kernel
theorem dX3_solve_69 : decode cX3_solve 69 = .ok (.iconst 0, 1) := by decide +kernel
theorem dX3_solve_70 : decode cX3_solve 70 = .ok (.ireturn, 1) := by decide +kernel
theorem dX3_solve_71 : decode cX3_solve 71 = .ok (.iconst 0, 1) := by decide +kernel
theorem dX3_solve_72 : decode cX3_solve 72 = .ok (.istore_n 3, 1) := by decide +kernel
theorem dX3_solve_73 : decode cX3_solve 73 = .ok (.iconst 0, 1) := by decide +kernel
theorem dX3_solve_74 : decode cX3_solve 74 = .ok (.istore 4, 2) := by decide +kernel
theorem dX3_solve_76 : decode cX3_solve 76 = .ok (.iload 4, 2) := by decide +kernel
theorem dX3_solve_78 : decode cX3_solve 78 = .ok (.aload_n 0, 1) := by decide +kernel
theorem dX3_solve_79 : decode cX3_solve 79 = .ok (.getfield 14, 3) := by decide +kernel
theorem dX3_solve_82 : decode cX3_solve 82 = .ok (.invokevirtual 48, 3) := by decide +kernel
theorem dX3_solve_85 : decode cX3_solve 85 = .ok (.if_icmp .ge 42, 3) := by decide +kernel
theorem dX3_solve_88 : decode cX3_solve 88 = .ok (.aload_n 0, 1) := by decide +kernel
theorem dX3_solve_89 : decode cX3_solve 89 = .ok (.iload 4, 2) := by decide +kernel
theorem dX3_solve_91 : decode cX3_solve 91 = .ok (.iload_n 3, 1) := by decide +kernel
theorem dX3_solve_92 : decode cX3_solve 92 = .ok (.invokevirtual 60, 3) := by decide +kernel
theorem dX3_solve_95 : decode cX3_solve 95 = .ok (.aload_n 0, 1) := by decide +kernel
theorem dX3_solve_96 : decode cX3_solve 96 = .ok (.iload 4, 2) := by decide +kernel
theorem dX3_solve_98 : decode cX3_solve 98 = .ok (.iload_n 3, 1) := by decide +kernel
theorem dX3_solve_99 : decode cX3_solve 99 = .ok (.aload_n 0, 1) := by decide +kernel
theorem dX3_solve_100 : decode cX3_solve 100 = .ok (.getfield 14, 3) := by decide +kernel
theorem dX3_solve_103 : decode cX3_solve 103 = .ok (.iload 4, 2) := by decide +kernel
theorem dX3_solve_105 : decode cX3_solve 105 = .ok (.invokevirtual 63, 3) := by decide +kernel
theorem dX3_solve_108 : decode cX3_solve 108 = .ok (.aload_n 0, 1) := by decide +kernel
theorem dX3_solve_109 : decode cX3_solve 109 = .ok (.getfield 14, 3) := by decide +kernel
theorem dX3_solve_112 : decode cX3_solve 112 = .ok (.iload 4, 2) := by decide +kernel
theorem dX3_solve_114 : decode cX3_solve 114 = .ok (.invokevirtual 67, 3) := by decide +kernel
theorem dX3_solve_117 : decode cX3_solve 117 = .ok (.invokevirtual 70, 3) := by decide +kernel
theorem dX3_solve_120 : decode cX3_solve 120 = .ok (.istore_n 3, 1) := by decide +kernel
theorem dX3_solve_121 : decode cX3_solve 121 = .ok (.iinc 4 1, 3) := by decide +kernel
theorem dX3_solve_124 : decode cX3_solve 124 = .ok (.goto (-48), 3) := by decide +kernel
theorem dX3_solve_127 : decode cX3_solve 127 = .ok (.iconst 1, 1) := by decide +kernel
theorem dX3_solve_128 : decode cX3_solve 128 = .ok (.ireturn, 1) := by decide +kernel
set_option maxRecDepth 20000 in
theorem ggX3_countPagesAhead_X5_put : GoodIn wsX3_countPagesAhead wsX5_put := goodIn_r _ [7, 8, 36] (by decide +kernel) (by decide +kernel)
set_option maxRecDepth 20000 in
theorem gX3_countPagesAhead_X5_put : GoodIn wsX3_countPagesAhead (wsV RX3 74 RX5 yX5_put wsX5_put) := goodIn_app (goodIn_of _ (by decide +kernel)) ggX3_countPagesAhead_X5_put
set_option maxRecDepth 20000 in
theorem ggX3_countPagesAhead_X0_lots : GoodIn wsX3_countPagesAhead wsX0_lots := goodIn_r _ [13, 14, 15, 16, 17, 6, 18, 8, 37, 36] (by decide +kernel) (by decide +kernel)
set_option maxRecDepth 20000 in
theorem gX3_countPagesAhead_X0_lots : GoodIn wsX3_countPagesAhead (wsV RX3 48 RX0 yX0_lots wsX0_lots) := goodIn_app (goodIn_of _ (by decide +kernel)) ggX3_countPagesAhead_X0_lots
set_option maxRecDepth 20000 in
theorem ggX3_countPagesAhead_X5_at : GoodIn wsX3_countPagesAhead wsX5_at := goodIn_r _ [18, 8, 36] (by decide +kernel) (by decide +kernel)
set_option maxRecDepth 20000 in
theorem gX3_countPagesAhead_X5_at : GoodIn wsX3_countPagesAhead (wsV RX3 77 RX5 yX5_at wsX5_at) := goodIn_app (goodIn_of _ (by decide +kernel)) ggX3_countPagesAhead_X5_at
set_option maxRecDepth 20000 in
theorem ggX3_countPagesAhead_X0_ownPages : GoodIn wsX3_countPagesAhead wsX0_ownPages := goodIn_r _ [23, 24, 25, 26, 12, 27, 14, 15, 16, 17, 6, 18, 8, 28, 29, 30, 31, 37, 36] (by decide +kernel) (by decide +kernel)
set_option maxRecDepth 20000 in
theorem gX3_countPagesAhead_X0_ownPages : GoodIn wsX3_countPagesAhead (wsV RX3 80 RX0 yX0_ownPages wsX0_ownPages) := goodIn_app (goodIn_of _ (by decide +kernel)) ggX3_countPagesAhead_X0_ownPages
theorem dX3_countPagesAhead_0 : decode cX3_countPagesAhead 0 = .ok (.aload_n 0, 1) := by decide +kernel
theorem dX3_countPagesAhead_1 : decode cX3_countPagesAhead 1 = .ok (.getfield 23, 3) := by decide +kernel
theorem dX3_countPagesAhead_4 : decode cX3_countPagesAhead 4 = .ok (.iconst 0, 1) := by decide +kernel
theorem dX3_countPagesAhead_5 : decode cX3_countPagesAhead 5 = .ok (.iconst 0, 1) := by decide +kernel
theorem dX3_countPagesAhead_6 : decode cX3_countPagesAhead 6 = .ok (.invokevirtual 74, 3) := by decide +kernel
theorem dX3_countPagesAhead_9 : decode cX3_countPagesAhead 9 = .ok (.iconst 0, 1) := by decide +kernel
theorem dX3_countPagesAhead_10 : decode cX3_countPagesAhead 10 = .ok (.istore_n 1, 1) := by decide +kernel
theorem dX3_countPagesAhead_11 : decode cX3_countPagesAhead 11 = .ok (.iload_n 1, 1) := by decide +kernel
theorem dX3_countPagesAhead_12 : decode cX3_countPagesAhead 12 = .ok (.aload_n 0, 1) := by decide +kernel
theorem dX3_countPagesAhead_13 : decode cX3_countPagesAhead 13 = .ok (.getfield 14, 3) := by decide +kernel
theorem dX3_countPagesAhead_16 : decode cX3_countPagesAhead 16 = .ok (.invokevirtual 48, 3) := by decide +kernel
theorem dX3_countPagesAhead_19 : decode cX3_countPagesAhead 19 = .ok (.if_icmp .ge 36, 3) := by decide +kernel
theorem dX3_countPagesAhead_22 : decode cX3_countPagesAhead 22 = .ok (.aload_n 0, 1) := by decide +kernel
theorem dX3_countPagesAhead_23 : decode cX3_countPagesAhead 23 = .ok (.getfield 23, 3) := by decide +kernel
theorem dX3_countPagesAhead_26 : decode cX3_countPagesAhead 26 = .ok (.iload_n 1, 1) := by decide +kernel
theorem dX3_countPagesAhead_27 : decode cX3_countPagesAhead 27 = .ok (.iconst 1, 1) := by decide +kernel
theorem dX3_countPagesAhead_28 : decode cX3_countPagesAhead 28 = .ok (.iadd, 1) := by decide +kernel
theorem dX3_countPagesAhead_29 : decode cX3_countPagesAhead 29 = .ok (.aload_n 0, 1) := by decide +kernel
theorem dX3_countPagesAhead_30 : decode cX3_countPagesAhead 30 = .ok (.getfield 23, 3) := by decide +kernel
theorem dX3_countPagesAhead_33 : decode cX3_countPagesAhead 33 = .ok (.iload_n 1, 1) := by decide +kernel
theorem dX3_countPagesAhead_34 : decode cX3_countPagesAhead 34 = .ok (.invokevirtual 77, 3) := by decide +kernel
theorem dX3_countPagesAhead_37 : decode cX3_countPagesAhead 37 = .ok (.aload_n 0, 1) := by decide +kernel
theorem dX3_countPagesAhead_38 : decode cX3_countPagesAhead 38 = .ok (.getfield 14, 3) := by decide +kernel
theorem dX3_countPagesAhead_41 : decode cX3_countPagesAhead 41 = .ok (.iload_n 1, 1) := by decide +kernel
theorem dX3_countPagesAhead_42 : decode cX3_countPagesAhead 42 = .ok (.invokevirtual 80, 3) := by decide +kernel
theorem dX3_countPagesAhead_45 : decode cX3_countPagesAhead 45 = .ok (.iadd, 1) := by decide +kernel
theorem dX3_countPagesAhead_46 : decode cX3_countPagesAhead 46 = .ok (.invokevirtual 74, 3) := by decide +kernel
theorem dX3_countPagesAhead_49 : decode cX3_countPagesAhead 49 = .ok (.iinc 1 1, 3) := by decide +kernel
theorem dX3_countPagesAhead_52 : decode cX3_countPagesAhead 52 = .ok (.goto (-41), 3) := by decide +kernel
theorem dX3_countPagesAhead_55 : decode cX3_countPagesAhead 55 = .ok (.return_, 1) := by decide +kernel
set_option maxRecDepth 20000 in
theorem ggX3_weighEnds_X0_lots : GoodIn wsX3_weighEnds wsX0_lots := goodIn_r _ [7, 8, 9, 10, 11, 12, 13, 14, 52, 53] (by decide +kernel) (by decide +kernel)
set_option maxRecDepth 20000 in
theorem gX3_weighEnds_X0_lots : GoodIn wsX3_weighEnds (wsV RX3 48 RX0 yX0_lots wsX0_lots) := goodIn_app (goodIn_of _ (by decide +kernel)) ggX3_weighEnds_X0_lots
set_option maxRecDepth 20000 in
theorem ggX3_weighEnds_X3_pagesAhead : GoodIn wsX3_weighEnds wsX3_pagesAhead := goodIn_r _ [19, 20, 21, 10, 11, 12, 13, 14, 22, 23, 18, 24, 48, 49, 50, 51, 53] (by decide +kernel) (by decide +kernel)
set_option maxRecDepth 20000 in
theorem gX3_weighEnds_X3_pagesAhead : GoodIn wsX3_weighEnds (wsV RX3 83 RX3 yX3_pagesAhead wsX3_pagesAhead) := goodIn_app (goodIn_of _ (by decide +kernel)) ggX3_weighEnds_X3_pagesAhead
set_option maxRecDepth 20000 in
theorem ggX3_weighEnds_X7_gatheringsFor : GoodIn wsX3_weighEnds wsX7_gatheringsFor := goodIn_r _ [27, 28, 29, 26, 30] (by decide +kernel) (by decide +kernel)
set_option maxRecDepth 20000 in
theorem gX3_weighEnds_X7_gatheringsFor_n86 : GoodIn wsX3_weighEnds (wsX7_gatheringsFor) := ggX3_weighEnds_X7_gatheringsFor
set_option maxRecDepth 20000 in
theorem ggX3_weighEnds_X0_costOfGathering : GoodIn wsX3_weighEnds wsX0_costOfGathering := goodIn_r _ [34, 35, 36, 37, 6, 38, 8, 9, 10, 11, 12, 13, 14, 52, 53] (by decide +kernel) (by decide +kernel)
set_option maxRecDepth 20000 in
theorem gX3_weighEnds_X0_costOfGathering : GoodIn wsX3_weighEnds (wsV RX3 89 RX0 yX0_costOfGathering wsX0_costOfGathering) := goodIn_app (goodIn_of _ (by decide +kernel)) ggX3_weighEnds_X0_costOfGathering
set_option maxRecDepth 20000 in
theorem ggX3_weighEnds_X3_putLeast : GoodIn wsX3_weighEnds wsX3_putLeast := goodIn_r _ [42, 43, 44, 45, 46, 12, 47, 14, 48, 49, 50, 51, 53] (by decide +kernel) (by decide +kernel)
set_option maxRecDepth 20000 in
theorem gX3_weighEnds_X3_putLeast : GoodIn wsX3_weighEnds (wsV RX3 92 RX3 yX3_putLeast wsX3_putLeast) := goodIn_app (goodIn_of _ (by decide +kernel)) ggX3_weighEnds_X3_putLeast
theorem dX3_weighEnds_0 : decode cX3_weighEnds 0 = .ok (.aload_n 0, 1) := by decide +kernel
theorem dX3_weighEnds_1 : decode cX3_weighEnds 1 = .ok (.getfield 14, 3) := by decide +kernel
theorem dX3_weighEnds_4 : decode cX3_weighEnds 4 = .ok (.invokevirtual 48, 3) := by decide +kernel
theorem dX3_weighEnds_7 : decode cX3_weighEnds 7 = .ok (.istore_n 1, 1) := by decide +kernel
theorem dX3_weighEnds_8 : decode cX3_weighEnds 8 = .ok (.iconst 0, 1) := by decide +kernel
theorem dX3_weighEnds_9 : decode cX3_weighEnds 9 = .ok (.istore_n 2, 1) := by decide +kernel
theorem dX3_weighEnds_10 : decode cX3_weighEnds 10 = .ok (.iload_n 2, 1) := by decide +kernel
theorem dX3_weighEnds_11 : decode cX3_weighEnds 11 = .ok (.iload_n 1, 1) := by decide +kernel
theorem dX3_weighEnds_12 : decode cX3_weighEnds 12 = .ok (.iconst 1, 1) := by decide +kernel
theorem dX3_weighEnds_13 : decode cX3_weighEnds 13 = .ok (.iadd, 1) := by decide +kernel
theorem dX3_weighEnds_14 : decode cX3_weighEnds 14 = .ok (.iconst 4, 1) := by decide +kernel
theorem dX3_weighEnds_15 : decode cX3_weighEnds 15 = .ok (.imul, 1) := by decide +kernel
theorem dX3_weighEnds_16 : decode cX3_weighEnds 16 = .ok (.if_icmp .ge 38, 3) := by decide +kernel
theorem dX3_weighEnds_19 : decode cX3_weighEnds 19 = .ok (.aload_n 0, 1) := by decide +kernel
theorem dX3_weighEnds_20 : decode cX3_weighEnds 20 = .ok (.iload_n 1, 1) := by decide +kernel
theorem dX3_weighEnds_21 : decode cX3_weighEnds 21 = .ok (.iload_n 2, 1) := by decide +kernel
theorem dX3_weighEnds_22 : decode cX3_weighEnds 22 = .ok (.invokevirtual 83, 3) := by decide +kernel
theorem dX3_weighEnds_25 : decode cX3_weighEnds 25 = .ok (.aload_n 0, 1) := by decide +kernel
theorem dX3_weighEnds_26 : decode cX3_weighEnds 26 = .ok (.getfield 30, 3) := by decide +kernel
theorem dX3_weighEnds_29 : decode cX3_weighEnds 29 = .ok (.invokestatic 86, 3) := by decide +kernel
theorem dX3_weighEnds_32 : decode cX3_weighEnds 32 = .ok (.istore_n 3, 1) := by decide +kernel
theorem dX3_weighEnds_33 : decode cX3_weighEnds 33 = .ok (.aload_n 0, 1) := by decide +kernel
theorem dX3_weighEnds_34 : decode cX3_weighEnds 34 = .ok (.iload_n 1, 1) := by decide +kernel
theorem dX3_weighEnds_35 : decode cX3_weighEnds 35 = .ok (.iload_n 2, 1) := by decide +kernel
theorem dX3_weighEnds_36 : decode cX3_weighEnds 36 = .ok (.iload_n 3, 1) := by decide +kernel
theorem dX3_weighEnds_37 : decode cX3_weighEnds 37 = .ok (.aload_n 0, 1) := by decide +kernel
theorem dX3_weighEnds_38 : decode cX3_weighEnds 38 = .ok (.getfield 14, 3) := by decide +kernel
