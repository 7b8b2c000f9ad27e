theorem dX0_init_0 : decode cX0_init 0 = .ok (.aload_n 0, 1) := by decide +kernel
theorem dX0_init_1 : decode cX0_init 1 = .ok (.invokespecial 1, 3) := by decide +kernel
theorem dX0_init_4 : decode cX0_init 4 = .ok (.return_, 1) := by decide +kernel
theorem dX1_init_0 : decode cX1_init 0 = .ok (.aload_n 0, 1) := by decide +kernel
theorem dX1_init_1 : decode cX1_init 1 = .ok (.invokespecial 3, 3) := by decide +kernel
theorem dX1_init_4 : decode cX1_init 4 = .ok (.aload_n 0, 1) := by decide +kernel
theorem dX1_init_5 : decode cX1_init 5 = .ok (.bipush 6, 2) := by decide +kernel
theorem dX1_init_7 : decode cX1_init 7 = .ok (.newarray .int, 2) := by decide +kernel
theorem dX1_init_9 : decode cX1_init 9 = .ok (.putfield 9, 3) := by decide +kernel
theorem dX1_init_12 : decode cX1_init 12 = .ok (.return_, 1) := by decide +kernel
theorem dX1_hasPlace_0 : decode cX1_hasPlace 0 = .ok (.iload_n 1, 1) := by decide +kernel
theorem dX1_hasPlace_1 : decode cX1_hasPlace 1 = .ok (.ifCond .lt 24, 3) := by decide +kernel
theorem dX1_hasPlace_4 : decode cX1_hasPlace 4 = .ok (.iload_n 1, 1) := by decide +kernel
theorem dX1_hasPlace_5 : decode cX1_hasPlace 5 = .ok (.aload_n 0, 1) := by decide +kernel
theorem dX1_hasPlace_6 : decode cX1_hasPlace 6 = .ok (.getfield 15, 3) := by decide +kernel
theorem dX1_hasPlace_9 : decode cX1_hasPlace 9 = .ok (.if_icmp .ge 16, 3) := by decide +kernel
theorem dX1_hasPlace_12 : decode cX1_hasPlace 12 = .ok (.iload_n 1, 1) := by decide +kernel
theorem dX1_hasPlace_13 : decode cX1_hasPlace 13 = .ok (.aload_n 0, 1) := by decide +kernel
theorem dX1_hasPlace_14 : decode cX1_hasPlace 14 = .ok (.getfield 9, 3) := by decide +kernel
theorem dX1_hasPlace_17 : decode cX1_hasPlace 17 = .ok (.arraylength, 1) := by decide +kernel
theorem dX1_hasPlace_18 : decode cX1_hasPlace 18 = .ok (.if_icmp .ge 7, 3) := by decide +kernel
theorem dX1_hasPlace_21 : decode cX1_hasPlace 21 = .ok (.iconst 1, 1) := by decide +kernel
theorem dX1_hasPlace_22 : decode cX1_hasPlace 22 = .ok (.goto 4, 3) := by decide +kernel
theorem dX1_hasPlace_25 : decode cX1_hasPlace 25 = .ok (.iconst 0, 1) := by decide +kernel
theorem dX1_hasPlace_26 : decode cX1_hasPlace 26 = .ok (.ireturn, 1) := by decide +kernel
set_option maxRecDepth 20000 in
theorem ggX1_setPlace_X1_hasPlace : GoodIn wsX1_setPlace wsX1_hasPlace := goodIn_r _ [6, 7, 1, 8, 9] (by decide +kernel) (by decide +kernel)
set_option maxRecDepth 20000 in
theorem gX1_setPlace_X1_hasPlace : GoodIn wsX1_setPlace (wsV RX1 19 RX1 yX1_hasPlace wsX1_hasPlace) := goodIn_app (goodIn_of _ (by decide +kernel)) ggX1_setPlace_X1_hasPlace
theorem dX1_setPlace_0 : decode cX1_setPlace 0 = .ok (.aload_n 0, 1) := by decide +kernel
theorem dX1_setPlace_1 : decode cX1_setPlace 1 = .ok (.iload_n 1, 1) := by decide +kernel
theorem dX1_setPlace_2 : decode cX1_setPlace 2 = .ok (.invokevirtual 19, 3) := by decide +kernel
theorem dX1_setPlace_5 : decode cX1_setPlace 5 = .ok (.ifCond .eq 10, 3) := by decide +kernel
theorem dX1_setPlace_8 : decode cX1_setPlace 8 = .ok (.aload_n 0, 1) := by decide +kernel
theorem dX1_setPlace_9 : decode cX1_setPlace 9 = .ok (.getfield 9, 3) := by decide +kernel
theorem dX1_setPlace_12 : decode cX1_setPlace 12 = .ok (.iload_n 1, 1) := by decide +kernel
theorem dX1_setPlace_13 : decode cX1_setPlace 13 = .ok (.iload_n 2, 1) := by decide +kernel
theorem dX1_setPlace_14 : decode cX1_setPlace 14 = .ok (.iastore, 1) := by decide +kernel
theorem dX1_setPlace_15 : decode cX1_setPlace 15 = .ok (.return_, 1) := by decide +kernel
theorem dX1_drawerIn_0 : decode cX1_drawerIn 0 = .ok (.aload_n 0, 1) := by decide +kernel
theorem dX1_drawerIn_1 : decode cX1_drawerIn 1 = .ok (.getfield 15, 3) := by decide +kernel
theorem dX1_drawerIn_4 : decode cX1_drawerIn 4 = .ok (.ifCond .le 19, 3) := by decide +kernel
theorem dX1_drawerIn_7 : decode cX1_drawerIn 7 = .ok (.aload_n 0, 1) := by decide +kernel
theorem dX1_drawerIn_8 : decode cX1_drawerIn 8 = .ok (.getfield 15, 3) := by decide +kernel
theorem dX1_drawerIn_11 : decode cX1_drawerIn 11 = .ok (.aload_n 0, 1) := by decide +kernel
theorem dX1_drawerIn_12 : decode cX1_drawerIn 12 = .ok (.getfield 9, 3) := by decide +kernel
theorem dX1_drawerIn_15 : decode cX1_drawerIn 15 = .ok (.arraylength, 1) := by decide +kernel
theorem dX1_drawerIn_16 : decode cX1_drawerIn 16 = .ok (.if_icmp .gt 7, 3) := by decide +kernel
theorem dX1_drawerIn_19 : decode cX1_drawerIn 19 = .ok (.iload_n 1, 1) := by decide +kernel
theorem dX1_drawerIn_20 : decode cX1_drawerIn 20 = .ok (.ifCond .ge 6, 3) := by decide +kernel
theorem dX1_drawerIn_23 : decode cX1_drawerIn 23 = .ok (.bipush (-9), 2) := by decide +kernel
theorem dX1_drawerIn_25 : decode cX1_drawerIn 25 = .ok (.ireturn, 1) := by decide +kernel
theorem dX1_drawerIn_26 : decode cX1_drawerIn 26 = .ok (.aload_n 0, 1) := by decide +kernel
theorem dX1_drawerIn_27 : decode cX1_drawerIn 27 = .ok (.getfield 9, 3) := by decide +kernel
theorem dX1_drawerIn_30 : decode cX1_drawerIn 30 = .ok (.iload_n 1, 1) := by decide +kernel
theorem dX1_drawerIn_31 : decode cX1_drawerIn 31 = .ok (.aload_n 0, 1) := by decide +kernel
theorem dX1_drawerIn_32 : decode cX1_drawerIn 32 = .ok (.getfield 15, 3) := by decide +kernel
theorem dX1_drawerIn_35 : decode cX1_drawerIn 35 = .ok (.irem, 1) := by decide +kernel
theorem dX1_drawerIn_36 : decode cX1_drawerIn 36 = .ok (.iaload, 1) := by decide +kernel
theorem dX1_drawerIn_37 : decode cX1_drawerIn 37 = .ok (.ireturn, 1) := by decide +kernel
set_option maxRecDepth 20000 in
theorem ggX1_comingsTillAnother_X1_drawerIn : GoodIn wsX1_comingsTillAnother wsX1_drawerIn := goodIn_r _ [6, 1, 7, 8, 9] (by decide +kernel) (by decide +kernel)
set_option maxRecDepth 20000 in
theorem gX1_comingsTillAnother_X1_drawerIn : GoodIn wsX1_comingsTillAnother (wsV RX1 23 RX1 yX1_drawerIn wsX1_drawerIn) := goodIn_app (goodIn_of _ (by decide +kernel)) ggX1_comingsTillAnother_X1_drawerIn
theorem dX1_comingsTillAnother_0 : decode cX1_comingsTillAnother 0 = .ok (.iconst 1, 1) := by decide +kernel
theorem dX1_comingsTillAnother_1 : decode cX1_comingsTillAnother 1 = .ok (.istore 4, 2) := by decide +kernel
theorem dX1_comingsTillAnother_3 : decode cX1_comingsTillAnother 3 = .ok (.iload 4, 2) := by decide +kernel
theorem dX1_comingsTillAnother_5 : decode cX1_comingsTillAnother 5 = .ok (.aload_n 0, 1) := by decide +kernel
theorem dX1_comingsTillAnother_6 : decode cX1_comingsTillAnother 6 = .ok (.getfield 15, 3) := by decide +kernel
theorem dX1_comingsTillAnother_9 : decode cX1_comingsTillAnother 9 = .ok (.if_icmp .gt 26, 3) := by decide +kernel
theorem dX1_comingsTillAnother_12 : decode cX1_comingsTillAnother 12 = .ok (.aload_n 0, 1) := by decide +kernel
theorem dX1_comingsTillAnother_13 : decode cX1_comingsTillAnother 13 = .ok (.iload_n 2, 1) := by decide +kernel
theorem dX1_comingsTillAnother_14 : decode cX1_comingsTillAnother 14 = .ok (.iload 4, 2) := by decide +kernel
theorem dX1_comingsTillAnother_16 : decode cX1_comingsTillAnother 16 = .ok (.iload_n 3, 1) := by decide +kernel
theorem dX1_comingsTillAnother_17 : decode cX1_comingsTillAnother 17 = .ok (.imul, 1) := by decide +kernel
theorem dX1_comingsTillAnother_18 : decode cX1_comingsTillAnother 18 = .ok (.iadd, 1) := by decide +kernel
theorem dX1_comingsTillAnother_19 : decode cX1_comingsTillAnother 19 = .ok (.invokevirtual 23, 3) := by decide +kernel
theorem dX1_comingsTillAnother_22 : decode cX1_comingsTillAnother 22 = .ok (.iload_n 1, 1) := by decide +kernel
theorem dX1_comingsTillAnother_23 : decode cX1_comingsTillAnother 23 = .ok (.if_icmp .eq 6, 3) := by decide +kernel
theorem dX1_comingsTillAnother_26 : decode cX1_comingsTillAnother 26 = .ok (.iload 4, 2) := by decide +kernel
theorem dX1_comingsTillAnother_28 : decode cX1_comingsTillAnother 28 = .ok (.ireturn, 1) := by decide +kernel
theorem dX1_comingsTillAnother_29 : decode cX1_comingsTillAnother 29 = .ok (.iinc 4 1, 3) := by decide +kernel
theorem dX1_comingsTillAnother_32 : decode cX1_comingsTillAnother 32 = .ok (.goto (-29), 3) := by decide +kernel
theorem dX1_comingsTillAnother_35 : decode cX1_comingsTillAnother 35 = .ok (.iconst 0, 1) := by decide +kernel
theorem dX1_comingsTillAnother_36 : decode cX1_comingsTillAnother 36 = .ok (.ireturn, 1) := by decide +kernel
set_option maxRecDepth 20000 in
theorem ggX1_otherDrawer_X1_comingsTillAnother : GoodIn wsX1_otherDrawer wsX1_comingsTillAnother := goodIn_r _ [5, 6, 7, 8, 9, 4, 10, 11, 12, 13] (by decide +kernel) (by decide +kernel)
set_option maxRecDepth 20000 in
theorem gX1_otherDrawer_X1_comingsTillAnother : GoodIn wsX1_otherDrawer (wsV RX1 27 RX1 yX1_comingsTillAnother wsX1_comingsTillAnother) := goodIn_app (goodIn_of _ (by decide +kernel)) ggX1_otherDrawer_X1_comingsTillAnother
set_option maxRecDepth 20000 in
theorem ggX1_otherDrawer_X1_drawerIn : GoodIn wsX1_otherDrawer wsX1_drawerIn := goodIn_r _ [10, 6, 11, 12, 13] (by decide +kernel) (by decide +kernel)
set_option maxRecDepth 20000 in
theorem gX1_otherDrawer_X1_drawerIn : GoodIn wsX1_otherDrawer (wsV RX1 23 RX1 yX1_drawerIn wsX1_drawerIn) := goodIn_app (goodIn_of _ (by decide +kernel)) ggX1_otherDrawer_X1_drawerIn
theorem dX1_otherDrawer_0 : decode cX1_otherDrawer 0 = .ok (.aload_n 0, 1) := by decide +kernel
theorem dX1_otherDrawer_1 : decode cX1_otherDrawer 1 = .ok (.iload_n 1, 1) := by decide +kernel
theorem dX1_otherDrawer_2 : decode cX1_otherDrawer 2 = .ok (.iload_n 2, 1) := by decide +kernel
theorem dX1_otherDrawer_3 : decode cX1_otherDrawer 3 = .ok (.iload_n 3, 1) := by decide +kernel
theorem dX1_otherDrawer_4 : decode cX1_otherDrawer 4 = .ok (.invokevirtual 27, 3) := by decide +kernel
theorem dX1_otherDrawer_7 : decode cX1_otherDrawer 7 = .ok (.istore 4, 2) := by decide +kernel
theorem dX1_otherDrawer_9 : decode cX1_otherDrawer 9 = .ok (.iload 4, 2) := by decide +kernel
theorem dX1_otherDrawer_11 : decode cX1_otherDrawer 11 = .ok (.ifCond .ne 8, 3) := by decide +kernel
theorem dX1_otherDrawer_14 : decode cX1_otherDrawer 14 = .ok (.bipush (-9), 2) := by decide +kernel
theorem dX1_otherDrawer_16 : decode cX1_otherDrawer 16 = .ok (.goto 13, 3) := by decide +kernel
theorem dX1_otherDrawer_19 : decode cX1_otherDrawer 19 = .ok (.aload_n 0, 1) := by decide +kernel
theorem dX1_otherDrawer_20 : decode cX1_otherDrawer 20 = .ok (.iload_n 2, 1) := by decide +kernel
theorem dX1_otherDrawer_21 : decode cX1_otherDrawer 21 = .ok (.iload 4, 2) := by decide +kernel
theorem dX1_otherDrawer_23 : decode cX1_otherDrawer 23 = .ok (.iload_n 3, 1) := by decide +kernel
theorem dX1_otherDrawer_24 : decode cX1_otherDrawer 24 = .ok (.imul, 1) := by decide +kernel
theorem dX1_otherDrawer_25 : decode cX1_otherDrawer 25 = .ok (.iadd, 1) := by decide +kernel
theorem dX1_otherDrawer_26 : decode cX1_otherDrawer 26 = .ok (.invokevirtual 23, 3) := by decide +kernel
theorem dX1_otherDrawer_29 : decode cX1_otherDrawer 29 = .ok (.ireturn, 1) := by decide +kernel
set_option maxRecDepth 20000 in
theorem ggX1_takeFrom_X1_drawerIn : GoodIn wsX1_takeFrom wsX1_drawerIn := goodIn_r _ [6, 1, 7, 16, 17] (by decide +kernel) (by decide +kernel)
set_option maxRecDepth 20000 in
theorem gX1_takeFrom_X1_drawerIn : GoodIn wsX1_takeFrom (wsV RX1 23 RX1 yX1_drawerIn wsX1_drawerIn) := goodIn_app (goodIn_of _ (by decide +kernel)) ggX1_takeFrom_X1_drawerIn
set_option maxRecDepth 20000 in
theorem ggX1_takeFrom_X1_setPlace : GoodIn wsX1_takeFrom wsX1_setPlace := goodIn_r _ [11, 7, 12, 13, 14, 5, 15, 1, 16, 17] (by decide +kernel) (by decide +kernel)
set_option maxRecDepth 20000 in
theorem gX1_takeFrom_X1_setPlace : GoodIn wsX1_takeFrom (wsV RX1 31 RX1 yX1_setPlace wsX1_setPlace) := goodIn_app (goodIn_of _ (by decide +kernel)) ggX1_takeFrom_X1_setPlace
theorem dX1_takeFrom_0 : decode cX1_takeFrom 0 = .ok (.aload_n 0, 1) := by decide +kernel
theorem dX1_takeFrom_1 : decode cX1_takeFrom 1 = .ok (.aload_n 1, 1) := by decide +kernel
theorem dX1_takeFrom_2 : decode cX1_takeFrom 2 = .ok (.getfield 15, 3) := by decide +kernel
theorem dX1_takeFrom_5 : decode cX1_takeFrom 5 = .ok (.putfield 15, 3) := by decide +kernel
theorem dX1_takeFrom_8 : decode cX1_takeFrom 8 = .ok (.iconst 0, 1) := by decide +kernel
theorem dX1_takeFrom_9 : decode cX1_takeFrom 9 = .ok (.istore_n 2, 1) := by decide +kernel
theorem dX1_takeFrom_10 : decode cX1_takeFrom 10 = .ok (.iload_n 2, 1) := by decide +kernel
theorem dX1_takeFrom_11 : decode cX1_takeFrom 11 = .ok (.aload_n 0, 1) := by decide +kernel
theorem dX1_takeFrom_12 : decode cX1_takeFrom 12 = .ok (.getfield 15, 3) := by decide +kernel
theorem dX1_takeFrom_15 : decode cX1_takeFrom 15 = .ok (.if_icmp .ge 19, 3) := by decide +kernel
theorem dX1_takeFrom_18 : decode cX1_takeFrom 18 = .ok (.aload_n 0, 1) := by decide +kernel
theorem dX1_takeFrom_19 : decode cX1_takeFrom 19 = .ok (.iload_n 2, 1) := by decide +kernel
theorem dX1_takeFrom_20 : decode cX1_takeFrom 20 = .ok (.aload_n 1, 1) := by decide +kernel
theorem dX1_takeFrom_21 : decode cX1_takeFrom 21 = .ok (.iload_n 2, 1) := by decide +kernel
theorem dX1_takeFrom_22 : decode cX1_takeFrom 22 = .ok (.invokevirtual 23, 3) := by decide +kernel
theorem dX1_takeFrom_25 : decode cX1_takeFrom 25 = .ok (.invokevirtual 31, 3) := by decide +kernel
theorem dX1_takeFrom_28 : decode cX1_takeFrom 28 = .ok (.iinc 2 1, 3) := by decide +kernel
theorem dX1_takeFrom_31 : decode cX1_takeFrom 31 = .ok (.goto (-21), 3) := by decide +kernel
theorem dX1_takeFrom_34 : decode cX1_takeFrom 34 = .ok (.return_, 1) := by decide +kernel
set_option maxRecDepth 20000 in
theorem ggX1_sort_X1_drawerIn : GoodIn wsX1_sort wsX1_drawerIn := goodIn_r _ [6, 1, 7, 20, 21] (by decide +kernel) (by decide +kernel)
set_option maxRecDepth 20000 in
theorem gX1_sort_X1_drawerIn : GoodIn wsX1_sort (wsV RX1 23 RX1 yX1_drawerIn wsX1_drawerIn) := goodIn_app (goodIn_of _ (by decide +kernel)) ggX1_sort_X1_drawerIn
set_option maxRecDepth 20000 in
theorem ggX1_sort_X1_swap : GoodIn wsX1_sort wsX1_swap := goodIn_r _ [11, 2, 3, 4, 5, 6, 1, 7, 12, 13, 14, 15, 16, 17, 18, 19, 20, 21] (by decide +kernel) (by decide +kernel)
set_option maxRecDepth 20000 in
theorem gX1_sort_X1_swap : GoodIn wsX1_sort (wsV RX1 35 RX1 yX1_swap wsX1_swap) := goodIn_app (goodIn_of _ (by decide +kernel)) ggX1_sort_X1_swap
theorem dX1_sort_0 : decode cX1_sort 0 = .ok (.aload_n 0, 1) := by decide +kernel
theorem dX1_sort_1 : decode cX1_sort 1 = .ok (.getfield 15, 3) := by decide +kernel
theorem dX1_sort_4 : decode cX1_sort 4 = .ok (.iconst 1, 1) := by decide +kernel
theorem dX1_sort_5 : decode cX1_sort 5 = .ok (.isub, 1) := by decide +kernel
theorem dX1_sort_6 : decode cX1_sort 6 = .ok (.istore_n 1, 1) := by decide +kernel
theorem dX1_sort_7 : decode cX1_sort 7 = .ok (.iload_n 1, 1) := by decide +kernel
theorem dX1_sort_8 : decode cX1_sort 8 = .ok (.ifCond .le 45, 3) := by decide +kernel
theorem dX1_sort_11 : decode cX1_sort 11 = .ok (.iconst 0, 1) := by decide +kernel
theorem dX1_sort_12 : decode cX1_sort 12 = .ok (.istore_n 2, 1) := by decide +kernel
theorem dX1_sort_13 : decode cX1_sort 13 = .ok (.iload_n 2, 1) := by decide +kernel
theorem dX1_sort_14 : decode cX1_sort 14 = .ok (.iload_n 1, 1) := by decide +kernel
theorem dX1_sort_15 : decode cX1_sort 15 = .ok (.if_icmp .ge 32, 3) := by decide +kernel
theorem dX1_sort_18 : decode cX1_sort 18 = .ok (.aload_n 0, 1) := by decide +kernel
theorem dX1_sort_19 : decode cX1_sort 19 = .ok (.iload_n 2, 1) := by decide +kernel
theorem dX1_sort_20 : decode cX1_sort 20 = .ok (.invokevirtual 23, 3) := by decide +kernel
theorem dX1_sort_23 : decode cX1_sort 23 = .ok (.aload_n 0, 1) := by decide +kernel
theorem dX1_sort_24 : decode cX1_sort 24 = .ok (.iload_n 2, 1) := by decide +kernel
theorem dX1_sort_25 : decode cX1_sort 25 = .ok (.iconst 1, 1) := by decide +kernel
theorem dX1_sort_26 : decode cX1_sort 26 = .ok (.iadd, 1) := by decide +kernel
theorem dX1_sort_27 : decode cX1_sort 27 = .ok (.invokevirtual 23, 3) := by decide +kernel
theorem dX1_sort_30 : decode cX1_sort 30 = .ok (.if_icmp .le 11, 3) := by decide +kernel
theorem dX1_sort_33 : decode cX1_sort 33 = .ok (.aload_n 0, 1) := by decide +kernel
theorem dX1_sort_34 : decode cX1_sort 34 = .ok (.iload_n 2, 1) := by decide +kernel
theorem dX1_sort_35 : decode cX1_sort 35 = .ok (.iload_n 2, 1) := by decide +kernel
theorem dX1_sort_36 : decode cX1_sort 36 = .ok (.iconst 1, 1) := by decide +kernel
theorem dX1_sort_37 : decode cX1_sort 37 = .ok (.iadd, 1) := by decide +kernel
theorem dX1_sort_38 : decode cX1_sort 38 = .ok (.invokevirtual 35, 3) := by decide +kernel
theorem dX1_sort_41 : decode cX1_sort 41 = .ok (.iinc 2 1, 3) := by decide +kernel
theorem dX1_sort_44 : decode cX1_sort 44 = .ok (.goto (-31), 3) := by decide +kernel
theorem dX1_sort_47 : decode cX1_sort 47 = .ok (.iinc 1 (-1), 3) := by decide +kernel
theorem dX1_sort_50 : decode cX1_sort 50 = .ok (.goto (-43), 3) := by decide +kernel
theorem dX1_sort_53 : decode cX1_sort 53 = .ok (.return_, 1) := by decide +kernel
set_option maxRecDepth 20000 in
theorem ggX1_goToNextOrder_X1_drawerIn : GoodIn wsX1_goToNextOrder wsX1_drawerIn := goodIn_r _ [6, 1, 7, 20, 21] (by decide +kernel) (by decide +kernel)
set_option maxRecDepth 20000 in
theorem gX1_goToNextOrder_X1_drawerIn : GoodIn wsX1_goToNextOrder (wsV RX1 23 RX1 yX1_drawerIn wsX1_drawerIn) := goodIn_app (goodIn_of _ (by decide +kernel)) ggX1_goToNextOrder_X1_drawerIn
set_option maxRecDepth 20000 in
theorem ggX1_goToNextOrder_X1_swap : GoodIn wsX1_goToNextOrder wsX1_swap := goodIn_r _ [11, 2, 3, 4, 5, 6, 1, 7, 12, 13, 14, 15, 16, 17, 18, 19, 20, 21] (by decide +kernel) (by decide +kernel)
set_option maxRecDepth 20000 in
theorem gX1_goToNextOrder_X1_swap : GoodIn wsX1_goToNextOrder (wsV RX1 35 RX1 yX1_swap wsX1_swap) := goodIn_app (goodIn_of _ (by decide +kernel)) ggX1_goToNextOrder_X1_swap
theorem dX1_goToNextOrder_0 : decode cX1_goToNextOrder 0 = .ok (.aload_n 0, 1) := by decide +kernel
theorem dX1_goToNextOrder_1 : decode cX1_goToNextOrder 1 = .ok (.getfield 15, 3) := by decide +kernel
theorem dX1_goToNextOrder_4 : decode cX1_goToNextOrder 4 = .ok (.iconst 2, 1) := by decide +kernel
theorem dX1_goToNextOrder_5 : decode cX1_goToNextOrder 5 = .ok (.isub, 1) := by decide +kernel
theorem dX1_goToNextOrder_6 : decode cX1_goToNextOrder 6 = .ok (.istore_n 1, 1) := by decide +kernel
theorem dX1_goToNextOrder_7 : decode cX1_goToNextOrder 7 = .ok (.iload_n 1, 1) := by decide +kernel
theorem dX1_goToNextOrder_8 : decode cX1_goToNextOrder 8 = .ok (.ifCond .lt 27, 3) := by decide +kernel
theorem dX1_goToNextOrder_11 : decode cX1_goToNextOrder 11 = .ok (.aload_n 0, 1) := by decide +kernel
theorem dX1_goToNextOrder_12 : decode cX1_goToNextOrder 12 = .ok (.iload_n 1, 1) := by decide +kernel
theorem dX1_goToNextOrder_13 : decode cX1_goToNextOrder 13 = .ok (.invokevirtual 23, 3) := by decide +kernel
theorem dX1_goToNextOrder_16 : decode cX1_goToNextOrder 16 = .ok (.aload_n 0, 1) := by decide +kernel
theorem dX1_goToNextOrder_17 : decode cX1_goToNextOrder 17 = .ok (.iload_n 1, 1) := by decide +kernel
theorem dX1_goToNextOrder_18 : decode cX1_goToNextOrder 18 = .ok (.iconst 1, 1) := by decide +kernel
theorem dX1_goToNextOrder_19 : decode cX1_goToNextOrder 19 = .ok (.iadd, 1) := by decide +kernel
theorem dX1_goToNextOrder_20 : decode cX1_goToNextOrder 20 = .ok (.invokevirtual 23, 3) := by decide +kernel
theorem dX1_goToNextOrder_23 : decode cX1_goToNextOrder 23 = .ok (.if_icmp .ge 6, 3) := by decide +kernel
theorem dX1_goToNextOrder_26 : decode cX1_goToNextOrder 26 = .ok (.goto 9, 3) := by decide +kernel
theorem dX1_goToNextOrder_29 : decode cX1_goToNextOrder 29 = .ok (.iinc 1 (-1), 3) := by decide +kernel
theorem dX1_goToNextOrder_32 : decode cX1_goToNextOrder 32 = .ok (.goto (-25), 3) := by decide +kernel
theorem dX1_goToNextOrder_35 : decode cX1_goToNextOrder 35 = .ok (.iload_n 1, 1) := by decide +kernel
theorem dX1_goToNextOrder_36 : decode cX1_goToNextOrder 36 = .ok (.ifCond .ge 5, 3) := by decide +kernel
theorem dX1_goToNextOrder_39 : decode cX1_goToNextOrder 39 = .ok (.iconst 0, 1) := by decide +kernel
theorem dX1_goToNextOrder_40 : decode cX1_goToNextOrder 40 = .ok (.ireturn, 1) := by decide +kernel
theorem dX1_goToNextOrder_41 : decode cX1_goToNextOrder 41 = .ok (.aload_n 0, 1) := by decide +kernel
theorem dX1_goToNextOrder_42 : decode cX1_goToNextOrder 42 = .ok (.getfield 15, 3) := by decide +kernel
theorem dX1_goToNextOrder_45 : decode cX1_goToNextOrder 45 = .ok (.iconst 1, 1) := by decide +kernel
theorem dX1_goToNextOrder_46 : decode cX1_goToNextOrder 46 = .ok (.isub, 1) := by decide +kernel
theorem dX1_goToNextOrder_47 : decode cX1_goToNextOrder 47 = .ok (.istore_n 2, 1) := by decide +kernel
theorem dX1_goToNextOrder_48 : decode cX1_goToNextOrder 48 = .ok (.iload_n 2, 1) := by decide +kernel
theorem dX1_goToNextOrder_49 : decode cX1_goToNextOrder 49 = .ok (.iload_n 1, 1) := by decide +kernel
theorem dX1_goToNextOrder_50 : decode cX1_goToNextOrder 50 = .ok (.iconst 1, 1) := by decide +kernel
theorem dX1_goToNextOrder_51 : decode cX1_goToNextOrder 51 = .ok (.iadd, 1) := by decide +kernel
theorem dX1_goToNextOrder_52 : decode cX1_goToNextOrder 52 = .ok (.if_icmp .le 25, 3) := by decide +kernel
theorem dX1_goToNextOrder_55 : decode cX1_goToNextOrder 55 = .ok (.aload_n 0, 1) := by decide +kernel
theorem dX1_goToNextOrder_56 : decode cX1_goToNextOrder 56 = .ok (.iload_n 2, 1) := by decide +kernel
theorem dX1_goToNextOrder_57 : decode cX1_goToNextOrder 57 = .ok (.invokevirtual 23, 3) := by decide +kernel
theorem dX1_goToNextOrder_60 : decode cX1_goToNextOrder 60 = .ok (.aload_n 0, 1) := by decide +kernel
theorem dX1_goToNextOrder_61 : decode cX1_goToNextOrder 61 = .ok (.iload_n 1, 1) := by decide +kernel
theorem dX1_goToNextOrder_62 : decode cX1_goToNextOrder 62 = .ok (.invokevirtual 23, 3) := by decide +kernel
theorem dX1_goToNextOrder_65 : decode cX1_goToNextOrder 65 = .ok (.if_icmp .le 6, 3) := by decide +kernel
theorem dX1_goToNextOrder_68 : decode cX1_goToNextOrder 68 = .ok (.goto 9, 3) := by decide +kernel
theorem dX1_goToNextOrder_71 : decode cX1_goToNextOrder 71 = .ok (.iinc 2 (-1), 3) := by decide +kernel
theorem dX1_goToNextOrder_74 : decode cX1_goToNextOrder 74 = .ok (.goto (-26), 3) := by decide +kernel
theorem dX1_goToNextOrder_77 : decode cX1_goToNextOrder 77 = .ok (.aload_n 0, 1) := by decide +kernel
theorem dX1_goToNextOrder_78 : decode cX1_goToNextOrder 78 = .ok (.iload_n 1, 1) := by decide +kernel
theorem dX1_goToNextOrder_79 : decode cX1_goToNextOrder 79 = .ok (.iload_n 2, 1) := by decide +kernel
theorem dX1_goToNextOrder_80 : decode cX1_goToNextOrder 80 = .ok (.invokevirtual 35, 3) := by decide +kernel
theorem dX1_goToNextOrder_83 : decode cX1_goToNextOrder 83 = .ok (.aload_n 0, 1) := by decide +kernel
theorem dX1_goToNextOrder_84 : decode cX1_goToNextOrder 84 = .ok (.getfield 15, 3) := by decide +kernel
theorem dX1_goToNextOrder_87 : decode cX1_goToNextOrder 87 = .ok (.iconst 1, 1) := by decide +kernel
theorem dX1_goToNextOrder_88 : decode cX1_goToNextOrder 88 = .ok (.isub, 1) := by decide +kernel
theorem dX1_goToNextOrder_89 : decode cX1_goToNextOrder 89 = .ok (.istore_n 3, 1) := by decide +kernel
theorem dX1_goToNextOrder_90 : decode cX1_goToNextOrder 90 = .ok (.iload_n 1, 1) := by decide +kernel
theorem dX1_goToNextOrder_91 : decode cX1_goToNextOrder 91 = .ok (.iconst 1, 1) := by decide +kernel
theorem dX1_goToNextOrder_92 : decode cX1_goToNextOrder 92 = .ok (.iadd, 1) := by decide +kernel
theorem dX1_goToNextOrder_93 : decode cX1_goToNextOrder 93 = .ok (.istore 4, 2) := by decide +kernel
theorem dX1_goToNextOrder_95 : decode cX1_goToNextOrder 95 = .ok (.iload 4, 2) := by decide +kernel
theorem dX1_goToNextOrder_97 : decode cX1_goToNextOrder 97 = .ok (.iload_n 3, 1) := by decide +kernel
theorem dX1_goToNextOrder_98 : decode cX1_goToNextOrder 98 = .ok (.if_icmp .ge 19, 3) := by decide +kernel
theorem dX1_goToNextOrder_101 : decode cX1_goToNextOrder 101 = .ok (.aload_n 0, 1) := by decide +kernel
theorem dX1_goToNextOrder_102 : decode cX1_goToNextOrder 102 = .ok (.iload 4, 2) := by decide +kernel
theorem dX1_goToNextOrder_104 : decode cX1_goToNextOrder 104 = .ok (.iload_n 3, 1) := by decide +kernel
theorem dX1_goToNextOrder_105 : decode cX1_goToNextOrder 105 = .ok (.invokevirtual 35, 3) := by decide +kernel
theorem dX1_goToNextOrder_108 : decode cX1_goToNextOrder 108 = .ok (.iinc 3 (-1), 3) := by decide +kernel
theorem dX1_goToNextOrder_111 : decode cX1_goToNextOrder 111 = .ok (.iinc 4 1, 3) := by decide +kernel
theorem dX1_goToNextOrder_114 : decode cX1_goToNextOrder 114 = .ok (.goto (-19), 3) := by decide +kernel
theorem dX1_goToNextOrder_117 : decode cX1_goToNextOrder 117 = .ok (.iconst 1, 1) := by decide +kernel
theorem dX1_goToNextOrder_118 : decode cX1_goToNextOrder 118 = .ok (.ireturn, 1) := by decide +kernel
set_option maxRecDepth 20000 in
theorem ggX1_swap_X1_drawerIn : GoodIn wsX1_swap wsX1_drawerIn := goodIn_r _ [5, 6, 7, 16, 17] (by decide +kernel) (by decide +kernel)
set_option maxRecDepth 20000 in
theorem gX1_swap_X1_drawerIn : GoodIn wsX1_swap (wsV RX1 23 RX1 yX1_drawerIn wsX1_drawerIn) := goodIn_app (goodIn_of _ (by decide +kernel)) ggX1_swap_X1_drawerIn
set_option maxRecDepth 20000 in
theorem ggX1_swap_X1_setPlace : GoodIn wsX1_swap wsX1_setPlace := goodIn_r _ [11, 7, 12, 13, 14, 4, 15, 6, 16, 17] (by decide +kernel) (by decide +kernel)
set_option maxRecDepth 20000 in
theorem gX1_swap_X1_setPlace : GoodIn wsX1_swap (wsV RX1 31 RX1 yX1_setPlace wsX1_setPlace) := goodIn_app (goodIn_of _ (by decide +kernel)) ggX1_swap_X1_setPlace
theorem dX1_swap_0 : decode cX1_swap 0 = .ok (.aload_n 0, 1) := by decide +kernel
theorem dX1_swap_1 : decode cX1_swap 1 = .ok (.iload_n 1, 1) := by decide +kernel
theorem dX1_swap_2 : decode cX1_swap 2 = .ok (.invokevirtual 23, 3) := by decide +kernel
theorem dX1_swap_5 : decode cX1_swap 5 = .ok (.istore_n 3, 1) := by decide +kernel
theorem dX1_swap_6 : decode cX1_swap 6 = .ok (.aload_n 0, 1) := by decide +kernel
theorem dX1_swap_7 : decode cX1_swap 7 = .ok (.iload_n 1, 1) := by decide +kernel
theorem dX1_swap_8 : decode cX1_swap 8 = .ok (.aload_n 0, 1) := by decide +kernel
theorem dX1_swap_9 : decode cX1_swap 9 = .ok (.iload_n 2, 1) := by decide +kernel
theorem dX1_swap_10 : decode cX1_swap 10 = .ok (.invokevirtual 23, 3) := by decide +kernel
theorem dX1_swap_13 : decode cX1_swap 13 = .ok (.invokevirtual 31, 3) := by decide +kernel
theorem dX1_swap_16 : decode cX1_swap 16 = .ok (.aload_n 0, 1) := by decide +kernel
theorem dX1_swap_17 : decode cX1_swap 17 = .ok (.iload_n 2, 1) := by decide +kernel
theorem dX1_swap_18 : decode cX1_swap 18 = .ok (.iload_n 3, 1) := by decide +kernel
theorem dX1_swap_19 : decode cX1_swap 19 = .ok (.invokevirtual 31, 3) := by decide +kernel
theorem dX1_swap_22 : decode cX1_swap 22 = .ok (.return_, 1) := by decide +kernel
theorem dX2_init_0 : decode cX2_init 0 = .ok (.aload_n 0, 1) := by decide +kernel
theorem dX2_init_1 : decode cX2_init 1 = .ok (.invokespecial 3, 3) := by decide +kernel
theorem dX2_init_4 : decode cX2_init 4 = .ok (.aload_n 0, 1) := by decide +kernel
theorem dX2_init_5 : decode cX2_init 5 = .ok (.bipush 60, 2) := by decide +kernel
theorem dX2_init_7 : decode cX2_init 7 = .ok (.newarray .int, 2) := by decide +kernel
theorem dX2_init_9 : decode cX2_init 9 = .ok (.putfield 9, 3) := by decide +kernel
theorem dX2_init_12 : decode cX2_init 12 = .ok (.aload_n 0, 1) := by decide +kernel
theorem dX2_init_13 : decode cX2_init 13 = .ok (.bipush (-9), 2) := by decide +kernel
theorem dX2_init_15 : decode cX2_init 15 = .ok (.putfield 15, 3) := by decide +kernel
theorem dX2_init_18 : decode cX2_init 18 = .ok (.return_, 1) := by decide +kernel
theorem dX2_hasRow_0 : decode cX2_hasRow 0 = .ok (.aload_n 0, 1) := by decide +kernel
theorem dX2_hasRow_1 : decode cX2_hasRow 1 = .ok (.getfield 15, 3) := by decide +kernel
theorem dX2_hasRow_4 : decode cX2_hasRow 4 = .ok (.bipush (-9), 2) := by decide +kernel
theorem dX2_hasRow_6 : decode cX2_hasRow 6 = .ok (.if_icmp .eq 7, 3) := by decide +kernel
theorem dX2_hasRow_9 : decode cX2_hasRow 9 = .ok (.iconst 1, 1) := by decide +kernel
theorem dX2_hasRow_10 : decode cX2_hasRow 10 = .ok (.goto 4, 3) := by decide +kernel
theorem dX2_hasRow_13 : decode cX2_hasRow 13 = .ok (.iconst 0, 1) := by decide +kernel
theorem dX2_hasRow_14 : decode cX2_hasRow 14 = .ok (.ireturn, 1) := by decide +kernel
theorem dX2_empty_0 : decode cX2_empty 0 = .ok (.aload_n 0, 1) := by decide +kernel
theorem dX2_empty_1 : decode cX2_empty 1 = .ok (.bipush (-9), 2) := by decide +kernel
theorem dX2_empty_3 : decode cX2_empty 3 = .ok (.putfield 15, 3) := by decide +kernel
theorem dX2_empty_6 : decode cX2_empty 6 = .ok (.aload_n 0, 1) := by decide +kernel
theorem dX2_empty_7 : decode cX2_empty 7 = .ok (.iconst 0, 1) := by decide +kernel
theorem dX2_empty_8 : decode cX2_empty 8 = .ok (.putfield 19, 3) := by decide +kernel
theorem dX2_empty_11 : decode cX2_empty 11 = .ok (.return_, 1) := by decide +kernel
theorem dX2_begin_0 : decode cX2_begin 0 = .ok (.aload_n 0, 1) := by decide +kernel
theorem dX2_begin_1 : decode cX2_begin 1 = .ok (.iload_n 1, 1) := by decide +kernel
theorem dX2_begin_2 : decode cX2_begin 2 = .ok (.putfield 15, 3) := by decide +kernel
theorem dX2_begin_5 : decode cX2_begin 5 = .ok (.aload_n 0, 1) := by decide +kernel
theorem dX2_begin_6 : decode cX2_begin 6 = .ok (.iload_n 2, 1) := by decide +kernel
theorem dX2_begin_7 : decode cX2_begin 7 = .ok (.putfield 19, 3) := by decide +kernel
theorem dX2_begin_10 : decode cX2_begin 10 = .ok (.iconst 0, 1) := by decide +kernel
theorem dX2_begin_11 : decode cX2_begin 11 = .ok (.istore_n 3, 1) := by decide +kernel
theorem dX2_begin_12 : decode cX2_begin 12 = .ok (.iload_n 3, 1) := by decide +kernel
theorem dX2_begin_13 : decode cX2_begin 13 = .ok (.aload_n 0, 1) := by decide +kernel
theorem dX2_begin_14 : decode cX2_begin 14 = .ok (.getfield 9, 3) := by decide +kernel
theorem dX2_begin_17 : decode cX2_begin 17 = .ok (.arraylength, 1) := by decide +kernel
theorem dX2_begin_18 : decode cX2_begin 18 = .ok (.if_icmp .ge 16, 3) := by decide +kernel
theorem dX2_begin_21 : decode cX2_begin 21 = .ok (.aload_n 0, 1) := by decide +kernel
theorem dX2_begin_22 : decode cX2_begin 22 = .ok (.getfield 9, 3) := by decide +kernel
theorem dX2_begin_25 : decode cX2_begin 25 = .ok (.iload_n 3, 1) := by decide +kernel
theorem dX2_begin_26 : decode cX2_begin 26 = .ok (.iconst 0, 1) := by decide +kernel
theorem dX2_begin_27 : decode cX2_begin 27 = .ok (.iastore, 1) := by decide +kernel
theorem dX2_begin_28 : decode cX2_begin 28 = .ok (.iinc 3 1, 3) := by decide +kernel
theorem dX2_begin_31 : decode cX2_begin 31 = .ok (.goto (-19), 3) := by decide +kernel
theorem dX2_begin_34 : decode cX2_begin 34 = .ok (.return_, 1) := by decide +kernel
theorem dX2_hasCell_0 : decode cX2_hasCell 0 = .ok (.iload_n 1, 1) := by decide +kernel
theorem dX2_hasCell_1 : decode cX2_hasCell 1 = .ok (.ifCond .lt 24, 3) := by decide +kernel
theorem dX2_hasCell_4 : decode cX2_hasCell 4 = .ok (.iload_n 1, 1) := by decide +kernel
theorem dX2_hasCell_5 : decode cX2_hasCell 5 = .ok (.aload_n 0, 1) := by decide +kernel
theorem dX2_hasCell_6 : decode cX2_hasCell 6 = .ok (.getfield 19, 3) := by decide +kernel
theorem dX2_hasCell_9 : decode cX2_hasCell 9 = .ok (.if_icmp .ge 16, 3) := by decide +kernel
theorem dX2_hasCell_12 : decode cX2_hasCell 12 = .ok (.iload_n 1, 1) := by decide +kernel
theorem dX2_hasCell_13 : decode cX2_hasCell 13 = .ok (.aload_n 0, 1) := by decide +kernel
theorem dX2_hasCell_14 : decode cX2_hasCell 14 = .ok (.getfield 9, 3) := by decide +kernel
theorem dX2_hasCell_17 : decode cX2_hasCell 17 = .ok (.arraylength, 1) := by decide +kernel
theorem dX2_hasCell_18 : decode cX2_hasCell 18 = .ok (.if_icmp .ge 7, 3) := by decide +kernel
theorem dX2_hasCell_21 : decode cX2_hasCell 21 = .ok (.iconst 1, 1) := by decide +kernel
theorem dX2_hasCell_22 : decode cX2_hasCell 22 = .ok (.goto 4, 3) := by decide +kernel
theorem dX2_hasCell_25 : decode cX2_hasCell 25 = .ok (.iconst 0, 1) := by decide +kernel
theorem dX2_hasCell_26 : decode cX2_hasCell 26 = .ok (.ireturn, 1) := by decide +kernel
theorem dX2_hasCells_0 : decode cX2_hasCells 0 = .ok (.aload_n 0, 1) := by decide +kernel
theorem dX2_hasCells_1 : decode cX2_hasCells 1 = .ok (.getfield 19, 3) := by decide +kernel
theorem dX2_hasCells_4 : decode cX2_hasCells 4 = .ok (.aload_n 0, 1) := by decide +kernel
theorem dX2_hasCells_5 : decode cX2_hasCells 5 = .ok (.getfield 9, 3) := by decide +kernel
theorem dX2_hasCells_8 : decode cX2_hasCells 8 = .ok (.arraylength, 1) := by decide +kernel
theorem dX2_hasCells_9 : decode cX2_hasCells 9 = .ok (.if_icmp .gt 33, 3) := by decide +kernel
theorem dX2_hasCells_12 : decode cX2_hasCells 12 = .ok (.iload_n 1, 1) := by decide +kernel
theorem dX2_hasCells_13 : decode cX2_hasCells 13 = .ok (.ifCond .lt 29, 3) := by decide +kernel
theorem dX2_hasCells_16 : decode cX2_hasCells 16 = .ok (.iload_n 1, 1) := by decide +kernel
theorem dX2_hasCells_17 : decode cX2_hasCells 17 = .ok (.aload_n 0, 1) := by decide +kernel
theorem dX2_hasCells_18 : decode cX2_hasCells 18 = .ok (.getfield 19, 3) := by decide +kernel
theorem dX2_hasCells_21 : decode cX2_hasCells 21 = .ok (.if_icmp .gt 21, 3) := by decide +kernel
theorem dX2_hasCells_24 : decode cX2_hasCells 24 = .ok (.iload_n 2, 1) := by decide +kernel
theorem dX2_hasCells_25 : decode cX2_hasCells 25 = .ok (.ifCond .lt 17, 3) := by decide +kernel
theorem dX2_hasCells_28 : decode cX2_hasCells 28 = .ok (.iload_n 2, 1) := by decide +kernel
theorem dX2_hasCells_29 : decode cX2_hasCells 29 = .ok (.aload_n 0, 1) := by decide +kernel
theorem dX2_hasCells_30 : decode cX2_hasCells 30 = .ok (.getfield 19, 3) := by decide +kernel
theorem dX2_hasCells_33 : decode cX2_hasCells 33 = .ok (.iload_n 1, 1) := by decide +kernel
theorem dX2_hasCells_34 : decode cX2_hasCells 34 = .ok (.isub, 1) := by decide +kernel
theorem dX2_hasCells_35 : decode cX2_hasCells 35 = .ok (.if_icmp .gt 7, 3) := by decide +kernel
theorem dX2_hasCells_38 : decode cX2_hasCells 38 = .ok (.iconst 1, 1) := by decide +kernel
theorem dX2_hasCells_39 : decode cX2_hasCells 39 = .ok (.goto 4, 3) := by decide +kernel
theorem dX2_hasCells_42 : decode cX2_hasCells 42 = .ok (.iconst 0, 1) := by decide +kernel
theorem dX2_hasCells_43 : decode cX2_hasCells 43 = .ok (.ireturn, 1) := by decide +kernel
set_option maxRecDepth 20000 in
theorem ggX2_numberAt_X2_hasCell : GoodIn wsX2_numberAt wsX2_hasCell := goodIn_r _ [6, 7, 1, 8, 9, 10] (by decide +kernel) (by decide +kernel)
set_option maxRecDepth 20000 in
theorem gX2_numberAt_X2_hasCell : GoodIn wsX2_numberAt (wsV RX2 22 RX2 yX2_hasCell wsX2_hasCell) := goodIn_app (goodIn_of _ (by decide +kernel)) ggX2_numberAt_X2_hasCell
theorem dX2_numberAt_0 : decode cX2_numberAt 0 = .ok (.aload_n 0, 1) := by decide +kernel
theorem dX2_numberAt_1 : decode cX2_numberAt 1 = .ok (.iload_n 1, 1) := by decide +kernel
theorem dX2_numberAt_2 : decode cX2_numberAt 2 = .ok (.invokevirtual 22, 3) := by decide +kernel
theorem dX2_numberAt_5 : decode cX2_numberAt 5 = .ok (.ifCond .eq 12, 3) := by decide +kernel
theorem dX2_numberAt_8 : decode cX2_numberAt 8 = .ok (.aload_n 0, 1) := by decide +kernel
theorem dX2_numberAt_9 : decode cX2_numberAt 9 = .ok (.getfield 9, 3) := by decide +kernel
theorem dX2_numberAt_12 : decode cX2_numberAt 12 = .ok (.iload_n 1, 1) := by decide +kernel
theorem dX2_numberAt_13 : decode cX2_numberAt 13 = .ok (.iaload, 1) := by decide +kernel
theorem dX2_numberAt_14 : decode cX2_numberAt 14 = .ok (.goto 4, 3) := by decide +kernel
theorem dX2_numberAt_17 : decode cX2_numberAt 17 = .ok (.iconst 0, 1) := by decide +kernel
theorem dX2_numberAt_18 : decode cX2_numberAt 18 = .ok (.ireturn, 1) := by decide +kernel
set_option maxRecDepth 20000 in
theorem ggX2_write_X2_hasCell : GoodIn wsX2_write wsX2_hasCell := goodIn_r _ [6, 7, 1, 13, 14, 15] (by decide +kernel) (by decide +kernel)
set_option maxRecDepth 20000 in
theorem gX2_write_X2_hasCell : GoodIn wsX2_write (wsV RX2 22 RX2 yX2_hasCell wsX2_hasCell) := goodIn_app (goodIn_of _ (by decide +kernel)) ggX2_write_X2_hasCell
set_option maxRecDepth 20000 in
theorem ggX2_write_X2_cutToLane : GoodIn wsX2_write wsX2_cutToLane := goodIn_r _ [11, 12, 13, 14, 15] (by decide +kernel) (by decide +kernel)
set_option maxRecDepth 20000 in
theorem gX2_write_X2_cutToLane : GoodIn wsX2_write (wsV RX2 26 RX2 yX2_cutToLane wsX2_cutToLane) := goodIn_app (goodIn_of _ (by decide +kernel)) ggX2_write_X2_cutToLane
theorem dX2_write_0 : decode cX2_write 0 = .ok (.aload_n 0, 1) := by decide +kernel
theorem dX2_write_1 : decode cX2_write 1 = .ok (.iload_n 1, 1) := by decide +kernel
theorem dX2_write_2 : decode cX2_write 2 = .ok (.invokevirtual 22, 3) := by decide +kernel
theorem dX2_write_5 : decode cX2_write 5 = .ok (.ifCond .eq 14, 3) := by decide +kernel
theorem dX2_write_8 : decode cX2_write 8 = .ok (.aload_n 0, 1) := by decide +kernel
theorem dX2_write_9 : decode cX2_write 9 = .ok (.getfield 9, 3) := by decide +kernel
theorem dX2_write_12 : decode cX2_write 12 = .ok (.iload_n 1, 1) := by decide +kernel
theorem dX2_write_13 : decode cX2_write 13 = .ok (.aload_n 0, 1) := by decide +kernel
theorem dX2_write_14 : decode cX2_write 14 = .ok (.iload_n 2, 1) := by decide +kernel
theorem dX2_write_15 : decode cX2_write 15 = .ok (.invokevirtual 26, 3) := by decide +kernel
theorem dX2_write_18 : decode cX2_write 18 = .ok (.iastore, 1) := by decide +kernel
theorem dX2_write_19 : decode cX2_write 19 = .ok (.return_, 1) := by decide +kernel
theorem dX2_cutToLane_0 : decode cX2_cutToLane 0 = .ok (.aload_n 0, 1) := by decide +kernel
theorem dX2_cutToLane_1 : decode cX2_cutToLane 1 = .ok (.getfield 15, 3) := by decide +kernel
theorem dX2_cutToLane_4 : decode cX2_cutToLane 4 = .ok (.ifCond .ne 6, 3) := by decide +kernel
theorem dX2_cutToLane_7 : decode cX2_cutToLane 7 = .ok (.iload_n 1, 1) := by decide +kernel
theorem dX2_cutToLane_8 : decode cX2_cutToLane 8 = .ok (.i2b, 1) := by decide +kernel
theorem dX2_cutToLane_9 : decode cX2_cutToLane 9 = .ok (.ireturn, 1) := by decide +kernel
theorem dX2_cutToLane_10 : decode cX2_cutToLane 10 = .ok (.aload_n 0, 1) := by decide +kernel
theorem dX2_cutToLane_11 : decode cX2_cutToLane 11 = .ok (.getfield 15, 3) := by decide +kernel
theorem dX2_cutToLane_14 : decode cX2_cutToLane 14 = .ok (.iconst 1, 1) := by decide +kernel
theorem dX2_cutToLane_15 : decode cX2_cutToLane 15 = .ok (.if_icmp .ne 8, 3) := by decide +kernel
theorem dX2_cutToLane_18 : decode cX2_cutToLane 18 = .ok (.iload_n 1, 1) := by decide +kernel
theorem dX2_cutToLane_19 : decode cX2_cutToLane 19 = .ok (.i2s, 1) := by decide +kernel
theorem dX2_cutToLane_20 : decode cX2_cutToLane 20 = .ok (.goto 4, 3) := by decide +kernel
theorem dX2_cutToLane_23 : decode cX2_cutToLane 23 = .ok (.iload_n 1, 1) := by decide +kernel
theorem dX2_cutToLane_24 : decode cX2_cutToLane 24 = .ok (.ireturn, 1) := by decide +kernel
set_option maxRecDepth 20000 in
theorem ggX2_faultOfLane_X2_hasRow : GoodIn wsX2_faultOfLane wsX2_hasRow := goodIn_r _ [6, 1, 7, 8, 9] (by decide +kernel) (by decide +kernel)
set_option maxRecDepth 20000 in
theorem gX2_faultOfLane_X2_hasRow : GoodIn wsX2_faultOfLane (wsV RX2 30 RX2 yX2_hasRow wsX2_hasRow) := goodIn_app (goodIn_of _ (by decide +kernel)) ggX2_faultOfLane_X2_hasRow
theorem dX2_faultOfLane_0 : decode cX2_faultOfLane 0 = .ok (.aload_n 0, 1) := by decide +kernel
theorem dX2_faultOfLane_1 : decode cX2_faultOfLane 1 = .ok (.invokevirtual 30, 3) := by decide +kernel
theorem dX2_faultOfLane_4 : decode cX2_faultOfLane 4 = .ok (.ifCond .ne 5, 3) := by decide +kernel
theorem dX2_faultOfLane_7 : decode cX2_faultOfLane 7 = .ok (.iconst 1, 1) := by decide +kernel
theorem dX2_faultOfLane_8 : decode cX2_faultOfLane 8 = .ok (.ireturn, 1) := by decide +kernel
theorem dX2_faultOfLane_9 : decode cX2_faultOfLane 9 = .ok (.aload_n 0, 1) := by decide +kernel
theorem dX2_faultOfLane_10 : decode cX2_faultOfLane 10 = .ok (.getfield 15, 3) := by decide +kernel
theorem dX2_faultOfLane_13 : decode cX2_faultOfLane 13 = .ok (.iload_n 1, 1) := by decide +kernel
theorem dX2_faultOfLane_14 : decode cX2_faultOfLane 14 = .ok (.if_icmp .ne 7, 3) := by decide +kernel
theorem dX2_faultOfLane_17 : decode cX2_faultOfLane 17 = .ok (.iconst 0, 1) := by decide +kernel
theorem dX2_faultOfLane_18 : decode cX2_faultOfLane 18 = .ok (.goto 4, 3) := by decide +kernel
theorem dX2_faultOfLane_21 : decode cX2_faultOfLane 21 = .ok (.iconst 2, 1) := by decide +kernel
theorem dX2_faultOfLane_22 : decode cX2_faultOfLane 22 = .ok (.ireturn, 1) := by decide +kernel
set_option maxRecDepth 20000 in
theorem ggX2_faultOfCells_X2_faultOfLane : GoodIn wsX2_faultOfCells wsX2_faultOfLane := goodIn_r _ [5, 6, 7, 8, 9, 4, 10, 17, 18, 19] (by decide +kernel) (by decide +kernel)
set_option maxRecDepth 20000 in
theorem gX2_faultOfCells_X2_faultOfLane : GoodIn wsX2_faultOfCells (wsV RX2 34 RX2 yX2_faultOfLane wsX2_faultOfLane) := goodIn_app (goodIn_of _ (by decide +kernel)) ggX2_faultOfCells_X2_faultOfLane
set_option maxRecDepth 20000 in
theorem ggX2_faultOfCells_X2_hasCells : GoodIn wsX2_faultOfCells wsX2_hasCells := goodIn_r _ [14, 15, 16, 17, 18, 19] (by decide +kernel) (by decide +kernel)
set_option maxRecDepth 20000 in
theorem gX2_faultOfCells_X2_hasCells : GoodIn wsX2_faultOfCells (wsV RX2 37 RX2 yX2_hasCells wsX2_hasCells) := goodIn_app (goodIn_of _ (by decide +kernel)) ggX2_faultOfCells_X2_hasCells
theorem dX2_faultOfCells_0 : decode cX2_faultOfCells 0 = .ok (.aload_n 0, 1) := by decide +kernel
theorem dX2_faultOfCells_1 : decode cX2_faultOfCells 1 = .ok (.iload_n 1, 1) := by decide +kernel
theorem dX2_faultOfCells_2 : decode cX2_faultOfCells 2 = .ok (.invokevirtual 34, 3) := by decide +kernel
theorem dX2_faultOfCells_5 : decode cX2_faultOfCells 5 = .ok (.istore 4, 2) := by decide +kernel
theorem dX2_faultOfCells_7 : decode cX2_faultOfCells 7 = .ok (.iload 4, 2) := by decide +kernel
theorem dX2_faultOfCells_9 : decode cX2_faultOfCells 9 = .ok (.ifCond .eq 6, 3) := by decide +kernel
theorem dX2_faultOfCells_12 : decode cX2_faultOfCells 12 = .ok (.iload 4, 2) := by decide +kernel
theorem dX2_faultOfCells_14 : decode cX2_faultOfCells 14 = .ok (.ireturn, 1) := by decide +kernel
theorem dX2_faultOfCells_15 : decode cX2_faultOfCells 15 = .ok (.iload_n 3, 1) := by decide +kernel
theorem dX2_faultOfCells_16 : decode cX2_faultOfCells 16 = .ok (.ifCond .ge 5, 3) := by decide +kernel
theorem dX2_faultOfCells_19 : decode cX2_faultOfCells 19 = .ok (.iconst 4, 1) := by decide +kernel
theorem dX2_faultOfCells_20 : decode cX2_faultOfCells 20 = .ok (.ireturn, 1) := by decide +kernel
theorem dX2_faultOfCells_21 : decode cX2_faultOfCells 21 = .ok (.aload_n 0, 1) := by decide +kernel
theorem dX2_faultOfCells_22 : decode cX2_faultOfCells 22 = .ok (.iload_n 2, 1) := by decide +kernel
theorem dX2_faultOfCells_23 : decode cX2_faultOfCells 23 = .ok (.iload_n 3, 1) := by decide +kernel
theorem dX2_faultOfCells_24 : decode cX2_faultOfCells 24 = .ok (.invokevirtual 37, 3) := by decide +kernel
theorem dX2_faultOfCells_27 : decode cX2_faultOfCells 27 = .ok (.ifCond .eq 7, 3) := by decide +kernel
theorem dX2_faultOfCells_30 : decode cX2_faultOfCells 30 = .ok (.iconst 0, 1) := by decide +kernel
theorem dX2_faultOfCells_31 : decode cX2_faultOfCells 31 = .ok (.goto 4, 3) := by decide +kernel
theorem dX2_faultOfCells_34 : decode cX2_faultOfCells 34 = .ok (.iconst 3, 1) := by decide +kernel
theorem dX2_faultOfCells_35 : decode cX2_faultOfCells 35 = .ok (.ireturn, 1) := by decide +kernel
set_option maxRecDepth 20000 in
theorem ggX2_holdsHours_X2_numberAt : GoodIn wsX2_holdsHours wsX2_numberAt := goodIn_r _ [5, 6, 7, 8, 9, 4, 10, 11, 15, 16, 17] (by decide +kernel) (by decide +kernel)
set_option maxRecDepth 20000 in
theorem gX2_holdsHours_X2_numberAt : GoodIn wsX2_holdsHours (wsV RX2 41 RX2 yX2_numberAt wsX2_numberAt) := goodIn_app (goodIn_of _ (by decide +kernel)) ggX2_holdsHours_X2_numberAt
set_option maxRecDepth 20000 in
theorem ggX2_holdsHours_X6_within : GoodIn wsX2_holdsHours wsX6_within := goodIn_r _ [14] (by decide +kernel) (by decide +kernel)
set_option maxRecDepth 20000 in
theorem gX2_holdsHours_X6_within_n44 : GoodIn wsX2_holdsHours (wsX6_within) := ggX2_holdsHours_X6_within
theorem dX2_holdsHours_0 : decode cX2_holdsHours 0 = .ok (.iconst 0, 1) := by decide +kernel
theorem dX2_holdsHours_1 : decode cX2_holdsHours 1 = .ok (.istore_n 3, 1) := by decide +kernel
theorem dX2_holdsHours_2 : decode cX2_holdsHours 2 = .ok (.iload_n 3, 1) := by decide +kernel
theorem dX2_holdsHours_3 : decode cX2_holdsHours 3 = .ok (.iload_n 2, 1) := by decide +kernel
theorem dX2_holdsHours_4 : decode cX2_holdsHours 4 = .ok (.if_icmp .ge 27, 3) := by decide +kernel
theorem dX2_holdsHours_7 : decode cX2_holdsHours 7 = .ok (.aload_n 0, 1) := by decide +kernel
theorem dX2_holdsHours_8 : decode cX2_holdsHours 8 = .ok (.iload_n 1, 1) := by decide +kernel
theorem dX2_holdsHours_9 : decode cX2_holdsHours 9 = .ok (.iload_n 3, 1) := by decide +kernel
theorem dX2_holdsHours_10 : decode cX2_holdsHours 10 = .ok (.iadd, 1) := by decide +kernel
theorem dX2_holdsHours_11 : decode cX2_holdsHours 11 = .ok (.invokevirtual 41, 3) := by decide +kernel
theorem dX2_holdsHours_14 : decode cX2_holdsHours 14 = .ok (.iconst 0, 1) := by decide +kernel
theorem dX2_holdsHours_15 : decode cX2_holdsHours 15 = .ok (.bipush 23, 2) := by decide +kernel
theorem dX2_holdsHours_17 : decode cX2_holdsHours 17 = .ok (.invokestatic 44, 3) := by decide +kernel
theorem dX2_holdsHours_20 : decode cX2_holdsHours 20 = .ok (.ifCond .ne 5, 3) := by decide +kernel
theorem dX2_holdsHours_23 : decode cX2_holdsHours 23 = .ok (.iconst 0, 1) := by decide +kernel
theorem dX2_holdsHours_24 : decode cX2_holdsHours 24 = .ok (.ireturn, 1) := by decide +kernel
theorem dX2_holdsHours_25 : decode cX2_holdsHours 25 = .ok (.iinc 3 1, 3) := by decide +kernel
theorem dX2_holdsHours_28 : decode cX2_holdsHours 28 = .ok (.goto (-26), 3) := by decide +kernel
theorem dX2_holdsHours_31 : decode cX2_holdsHours 31 = .ok (.iconst 1, 1) := by decide +kernel
theorem dX2_holdsHours_32 : decode cX2_holdsHours 32 = .ok (.ireturn, 1) := by decide +kernel
theorem dX3_init_0 : decode cX3_init 0 = .ok (.aload_n 0, 1) := by decide +kernel
theorem dX3_init_1 : decode cX3_init 1 = .ok (.invokespecial 3, 3) := by decide +kernel
theorem dX3_init_4 : decode cX3_init 4 = .ok (.aload_n 0, 1) := by decide +kernel
theorem dX3_init_5 : decode cX3_init 5 = .ok (.bipush 60, 2) := by decide +kernel
theorem dX3_init_7 : decode cX3_init 7 = .ok (.newarray .int, 2) := by decide +kernel
theorem dX3_init_9 : decode cX3_init 9 = .ok (.putfield 9, 3) := by decide +kernel
theorem dX3_init_12 : decode cX3_init 12 = .ok (.return_, 1) := by decide +kernel
set_option maxRecDepth 20000 in
theorem ggX3_take_X2_numberAt : GoodIn wsX3_take wsX2_numberAt := goodIn_r _ [7, 8, 9, 10, 11, 6, 12, 13, 16, 17, 18] (by decide +kernel) (by decide +kernel)
set_option maxRecDepth 20000 in
theorem gX3_take_X2_numberAt : GoodIn wsX3_take (wsV RX3 19 RX2 yX2_numberAt wsX2_numberAt) := goodIn_app (goodIn_of _ (by decide +kernel)) ggX3_take_X2_numberAt
theorem dX3_take_0 : decode cX3_take 0 = .ok (.aload_n 0, 1) := by decide +kernel
theorem dX3_take_1 : decode cX3_take 1 = .ok (.iload_n 3, 1) := by decide +kernel
theorem dX3_take_2 : decode cX3_take 2 = .ok (.putfield 15, 3) := by decide +kernel
theorem dX3_take_5 : decode cX3_take 5 = .ok (.iconst 0, 1) := by decide +kernel
theorem dX3_take_6 : decode cX3_take 6 = .ok (.istore 4, 2) := by decide +kernel
theorem dX3_take_8 : decode cX3_take 8 = .ok (.iload 4, 2) := by decide +kernel
theorem dX3_take_10 : decode cX3_take 10 = .ok (.iload_n 3, 1) := by decide +kernel
theorem dX3_take_11 : decode cX3_take 11 = .ok (.if_icmp .ge 34, 3) := by decide +kernel
theorem dX3_take_14 : decode cX3_take 14 = .ok (.iload 4, 2) := by decide +kernel
theorem dX3_take_16 : decode cX3_take 16 = .ok (.aload_n 0, 1) := by decide +kernel
theorem dX3_take_17 : decode cX3_take 17 = .ok (.getfield 9, 3) := by decide +kernel
theorem dX3_take_20 : decode cX3_take 20 = .ok (.arraylength, 1) := by decide +kernel
theorem dX3_take_21 : decode cX3_take 21 = .ok (.if_icmp .ge 24, 3) := by decide +kernel
theorem dX3_take_24 : decode cX3_take 24 = .ok (.aload_n 0, 1) := by decide +kernel
theorem dX3_take_25 : decode cX3_take 25 = .ok (.getfield 9, 3) := by decide +kernel
theorem dX3_take_28 : decode cX3_take 28 = .ok (.iload 4, 2) := by decide +kernel
theorem dX3_take_30 : decode cX3_take 30 = .ok (.aload_n 1, 1) := by decide +kernel
theorem dX3_take_31 : decode cX3_take 31 = .ok (.iload_n 2, 1) := by decide +kernel
theorem dX3_take_32 : decode cX3_take 32 = .ok (.iload 4, 2) := by decide +kernel
theorem dX3_take_34 : decode cX3_take 34 = .ok (.iadd, 1) := by decide +kernel
theorem dX3_take_35 : decode cX3_take 35 = .ok (.invokevirtual 19, 3) := by decide +kernel
theorem dX3_take_38 : decode cX3_take 38 = .ok (.iastore, 1) := by decide +kernel
theorem dX3_take_39 : decode cX3_take 39 = .ok (.iinc 4 1, 3) := by decide +kernel
theorem dX3_take_42 : decode cX3_take 42 = .ok (.goto (-34), 3) := by decide +kernel
theorem dX3_take_45 : decode cX3_take 45 = .ok (.return_, 1) := by decide +kernel
theorem dX3_codeAt_0 : decode cX3_codeAt 0 = .ok (.iload_n 1, 1) := by decide +kernel
theorem dX3_codeAt_1 : decode cX3_codeAt 1 = .ok (.ifCond .lt 29, 3) := by decide +kernel
theorem dX3_codeAt_4 : decode cX3_codeAt 4 = .ok (.iload_n 1, 1) := by decide +kernel
theorem dX3_codeAt_5 : decode cX3_codeAt 5 = .ok (.aload_n 0, 1) := by decide +kernel
theorem dX3_codeAt_6 : decode cX3_codeAt 6 = .ok (.getfield 15, 3) := by decide +kernel
theorem dX3_codeAt_9 : decode cX3_codeAt 9 = .ok (.if_icmp .ge 21, 3) := by decide +kernel
theorem dX3_codeAt_12 : decode cX3_codeAt 12 = .ok (.iload_n 1, 1) := by decide +kernel
theorem dX3_codeAt_13 : decode cX3_codeAt 13 = .ok (.aload_n 0, 1) := by decide +kernel
theorem dX3_codeAt_14 : decode cX3_codeAt 14 = .ok (.getfield 9, 3) := by decide +kernel
theorem dX3_codeAt_17 : decode cX3_codeAt 17 = .ok (.arraylength, 1) := by decide +kernel
theorem dX3_codeAt_18 : decode cX3_codeAt 18 = .ok (.if_icmp .ge 12, 3) := by decide +kernel
theorem dX3_codeAt_21 : decode cX3_codeAt 21 = .ok (.aload_n 0, 1) := by decide +kernel
theorem dX3_codeAt_22 : decode cX3_codeAt 22 = .ok (.getfield 9, 3) := by decide +kernel
theorem dX3_codeAt_25 : decode cX3_codeAt 25 = .ok (.iload_n 1, 1) := by decide +kernel
theorem dX3_codeAt_26 : decode cX3_codeAt 26 = .ok (.iaload, 1) := by decide +kernel
theorem dX3_codeAt_27 : decode cX3_codeAt 27 = .ok (.goto 4, 3) := by decide +kernel
theorem dX3_codeAt_30 : decode cX3_codeAt 30 = .ok (.iconst (-1), 1) := by decide +kernel
theorem dX3_codeAt_31 : decode cX3_codeAt 31 = .ok (.ireturn, 1) := by decide +kernel
set_option maxRecDepth 20000 in
theorem ggX3_hasDigit_X3_codeAt : GoodIn wsX3_hasDigit wsX3_codeAt := goodIn_r _ [5, 6, 7, 11, 12] (by decide +kernel) (by decide +kernel)
set_option maxRecDepth 20000 in
theorem gX3_hasDigit_X3_codeAt : GoodIn wsX3_hasDigit (wsV RX3 25 RX3 yX3_codeAt wsX3_codeAt) := goodIn_app (goodIn_of _ (by decide +kernel)) ggX3_hasDigit_X3_codeAt
set_option maxRecDepth 20000 in
theorem ggX3_hasDigit_X6_within : GoodIn wsX3_hasDigit wsX6_within := goodIn_r _ [10] (by decide +kernel) (by decide +kernel)
set_option maxRecDepth 20000 in
theorem gX3_hasDigit_X6_within_n28 : GoodIn wsX3_hasDigit (wsX6_within) := ggX3_hasDigit_X6_within
theorem dX3_hasDigit_0 : decode cX3_hasDigit 0 = .ok (.aload_n 0, 1) := by decide +kernel
theorem dX3_hasDigit_1 : decode cX3_hasDigit 1 = .ok (.iload_n 1, 1) := by decide +kernel
theorem dX3_hasDigit_2 : decode cX3_hasDigit 2 = .ok (.invokevirtual 25, 3) := by decide +kernel
theorem dX3_hasDigit_5 : decode cX3_hasDigit 5 = .ok (.bipush 48, 2) := by decide +kernel
theorem dX3_hasDigit_7 : decode cX3_hasDigit 7 = .ok (.bipush 48, 2) := by decide +kernel
theorem dX3_hasDigit_9 : decode cX3_hasDigit 9 = .ok (.iload_n 2, 1) := by decide +kernel
theorem dX3_hasDigit_10 : decode cX3_hasDigit 10 = .ok (.iadd, 1) := by decide +kernel
theorem dX3_hasDigit_11 : decode cX3_hasDigit 11 = .ok (.invokestatic 28, 3) := by decide +kernel
theorem dX3_hasDigit_14 : decode cX3_hasDigit 14 = .ok (.ireturn, 1) := by decide +kernel
set_option maxRecDepth 20000 in
theorem ggX3_digitAt_X3_codeAt : GoodIn wsX3_digitAt wsX3_codeAt := goodIn_r _ [5, 6, 7, 8, 9] (by decide +kernel) (by decide +kernel)
set_option maxRecDepth 20000 in
theorem gX3_digitAt_X3_codeAt : GoodIn wsX3_digitAt (wsV RX3 25 RX3 yX3_codeAt wsX3_codeAt) := goodIn_app (goodIn_of _ (by decide +kernel)) ggX3_digitAt_X3_codeAt
theorem dX3_digitAt_0 : decode cX3_digitAt 0 = .ok (.aload_n 0, 1) := by decide +kernel
theorem dX3_digitAt_1 : decode cX3_digitAt 1 = .ok (.iload_n 1, 1) := by decide +kernel
theorem dX3_digitAt_2 : decode cX3_digitAt 2 = .ok (.invokevirtual 25, 3) := by decide +kernel
theorem dX3_digitAt_5 : decode cX3_digitAt 5 = .ok (.bipush 48, 2) := by decide +kernel
theorem dX3_digitAt_7 : decode cX3_digitAt 7 = .ok (.isub, 1) := by decide +kernel
theorem dX3_digitAt_8 : decode cX3_digitAt 8 = .ok (.ireturn, 1) := by decide +kernel
set_option maxRecDepth 20000 in
theorem ggX3_places_X3_hasDigit : GoodIn wsX3_places wsX3_hasDigit := goodIn_r _ [5, 6, 7, 8, 4, 9, 10, 11, 12, 13, 14, 15, 16] (by decide +kernel) (by decide +kernel)
set_option maxRecDepth 20000 in
theorem gX3_places_X3_hasDigit : GoodIn wsX3_places (wsV RX3 32 RX3 yX3_hasDigit wsX3_hasDigit) := goodIn_app (goodIn_of _ (by decide +kernel)) ggX3_places_X3_hasDigit
theorem dX3_places_0 : decode cX3_places 0 = .ok (.iconst 0, 1) := by decide +kernel
theorem dX3_places_1 : decode cX3_places 1 = .ok (.istore_n 1, 1) := by decide +kernel
theorem dX3_places_2 : decode cX3_places 2 = .ok (.iconst 0, 1) := by decide +kernel
theorem dX3_places_3 : decode cX3_places 3 = .ok (.istore_n 2, 1) := by decide +kernel
theorem dX3_places_4 : decode cX3_places 4 = .ok (.iload_n 2, 1) := by decide +kernel
theorem dX3_places_5 : decode cX3_places 5 = .ok (.bipush 6, 2) := by decide +kernel
theorem dX3_places_7 : decode cX3_places 7 = .ok (.if_icmp .ge 23, 3) := by decide +kernel
theorem dX3_places_10 : decode cX3_places 10 = .ok (.aload_n 0, 1) := by decide +kernel
theorem dX3_places_11 : decode cX3_places 11 = .ok (.iconst 2, 1) := by decide +kernel
theorem dX3_places_12 : decode cX3_places 12 = .ok (.iload_n 2, 1) := by decide +kernel
theorem dX3_places_13 : decode cX3_places 13 = .ok (.iadd, 1) := by decide +kernel
theorem dX3_places_14 : decode cX3_places 14 = .ok (.iconst 4, 1) := by decide +kernel
theorem dX3_places_15 : decode cX3_places 15 = .ok (.invokevirtual 32, 3) := by decide +kernel
theorem dX3_places_18 : decode cX3_places 18 = .ok (.ifCond .eq 12, 3) := by decide +kernel
theorem dX3_places_21 : decode cX3_places 21 = .ok (.iinc 1 1, 3) := by decide +kernel
theorem dX3_places_24 : decode cX3_places 24 = .ok (.iinc 2 1, 3) := by decide +kernel
theorem dX3_places_27 : decode cX3_places 27 = .ok (.goto (-23), 3) := by decide +kernel
theorem dX3_places_30 : decode cX3_places 30 = .ok (.iload_n 1, 1) := by decide +kernel
theorem dX3_places_31 : decode cX3_places 31 = .ok (.ireturn, 1) := by decide +kernel
set_option maxRecDepth 20000 in
theorem ggX3_thingsTold_X3_places : GoodIn wsX3_thingsTold wsX3_places := goodIn_r _ [6, 7, 8, 9, 5, 10, 11, 12, 13, 14, 1, 15, 16, 17, 18, 19, 20] (by decide +kernel) (by decide +kernel)
set_option maxRecDepth 20000 in
theorem gX3_thingsTold_X3_places : GoodIn wsX3_thingsTold (wsV RX3 36 RX3 yX3_places wsX3_places) := goodIn_app (goodIn_of _ (by decide +kernel)) ggX3_thingsTold_X3_places
theorem dX3_thingsTold_0 : decode cX3_thingsTold 0 = .ok (.aload_n 0, 1) := by decide +kernel
theorem dX3_thingsTold_1 : decode cX3_thingsTold 1 = .ok (.getfield 15, 3) := by decide +kernel
theorem dX3_thingsTold_4 : decode cX3_thingsTold 4 = .ok (.iconst 2, 1) := by decide +kernel
theorem dX3_thingsTold_5 : decode cX3_thingsTold 5 = .ok (.isub, 1) := by decide +kernel
theorem dX3_thingsTold_6 : decode cX3_thingsTold 6 = .ok (.aload_n 0, 1) := by decide +kernel
theorem dX3_thingsTold_7 : decode cX3_thingsTold 7 = .ok (.invokevirtual 36, 3) := by decide +kernel
theorem dX3_thingsTold_10 : decode cX3_thingsTold 10 = .ok (.isub, 1) := by decide +kernel
theorem dX3_thingsTold_11 : decode cX3_thingsTold 11 = .ok (.bipush 6, 2) := by decide +kernel
theorem dX3_thingsTold_13 : decode cX3_thingsTold 13 = .ok (.idiv, 1) := by decide +kernel
theorem dX3_thingsTold_14 : decode cX3_thingsTold 14 = .ok (.ireturn, 1) := by decide +kernel
set_option maxRecDepth 20000 in
theorem ggX3_firstFault_X3_codeAt : GoodIn wsX3_firstFault wsX3_codeAt := goodIn_r _ [6, 1, 7, 27, 28] (by decide +kernel) (by decide +kernel)
set_option maxRecDepth 20000 in
theorem gX3_firstFault_X3_codeAt : GoodIn wsX3_firstFault (wsV RX3 25 RX3 yX3_codeAt wsX3_codeAt) := goodIn_app (goodIn_of _ (by decide +kernel)) ggX3_firstFault_X3_codeAt
set_option maxRecDepth 20000 in
theorem ggX3_firstFault_X3_hasDigit : GoodIn wsX3_firstFault wsX3_hasDigit := goodIn_r _ [11, 2, 3, 4, 5, 6, 1, 7, 12, 13, 14, 27, 28] (by decide +kernel) (by decide +kernel)
set_option maxRecDepth 20000 in
theorem gX3_firstFault_X3_hasDigit : GoodIn wsX3_firstFault (wsV RX3 32 RX3 yX3_hasDigit wsX3_hasDigit) := goodIn_app (goodIn_of _ (by decide +kernel)) ggX3_firstFault_X3_hasDigit
set_option maxRecDepth 20000 in
theorem ggX3_firstFault_X3_places : GoodIn wsX3_firstFault wsX3_places := goodIn_r _ [18, 8, 9, 10, 5, 11, 2, 3, 4, 6, 1, 7, 12, 13, 14, 27, 28] (by decide +kernel) (by decide +kernel)
set_option maxRecDepth 20000 in
theorem gX3_firstFault_X3_places : GoodIn wsX3_firstFault (wsV RX3 36 RX3 yX3_places wsX3_places) := goodIn_app (goodIn_of _ (by decide +kernel)) ggX3_firstFault_X3_places
set_option maxRecDepth 20000 in
theorem ggX3_firstFault_X3_goesOn : GoodIn wsX3_firstFault wsX3_goesOn := goodIn_r _ [22, 2, 3, 4, 5, 6, 1, 7, 23, 24, 25, 26, 8, 9, 10, 11, 12, 13, 14, 27, 28] (by decide +kernel) (by decide +kernel)
set_option maxRecDepth 20000 in
theorem gX3_firstFault_X3_goesOn : GoodIn wsX3_firstFault (wsV RX3 40 RX3 yX3_goesOn wsX3_goesOn) := goodIn_app (goodIn_of _ (by decide +kernel)) ggX3_firstFault_X3_goesOn
theorem dX3_firstFault_0 : decode cX3_firstFault 0 = .ok (.aload_n 0, 1) := by decide +kernel
theorem dX3_firstFault_1 : decode cX3_firstFault 1 = .ok (.iconst 0, 1) := by decide +kernel
theorem dX3_firstFault_2 : decode cX3_firstFault 2 = .ok (.invokevirtual 25, 3) := by decide +kernel
theorem dX3_firstFault_5 : decode cX3_firstFault 5 = .ok (.bipush 103, 2) := by decide +kernel
theorem dX3_firstFault_7 : decode cX3_firstFault 7 = .ok (.if_icmp .eq 5, 3) := by decide +kernel
theorem dX3_firstFault_10 : decode cX3_firstFault 10 = .ok (.iconst 0, 1) := by decide +kernel
theorem dX3_firstFault_11 : decode cX3_firstFault 11 = .ok (.ireturn, 1) := by decide +kernel
theorem dX3_firstFault_12 : decode cX3_firstFault 12 = .ok (.aload_n 0, 1) := by decide +kernel
theorem dX3_firstFault_13 : decode cX3_firstFault 13 = .ok (.iconst 1, 1) := by decide +kernel
theorem dX3_firstFault_14 : decode cX3_firstFault 14 = .ok (.bipush 9, 2) := by decide +kernel
theorem dX3_firstFault_16 : decode cX3_firstFault 16 = .ok (.invokevirtual 32, 3) := by decide +kernel
theorem dX3_firstFault_19 : decode cX3_firstFault 19 = .ok (.ifCond .ne 5, 3) := by decide +kernel
theorem dX3_firstFault_22 : decode cX3_firstFault 22 = .ok (.iconst 1, 1) := by decide +kernel
theorem dX3_firstFault_23 : decode cX3_firstFault 23 = .ok (.ireturn, 1) := by decide +kernel
theorem dX3_firstFault_24 : decode cX3_firstFault 24 = .ok (.aload_n 0, 1) := by decide +kernel
theorem dX3_firstFault_25 : decode cX3_firstFault 25 = .ok (.invokevirtual 36, 3) := by decide +kernel
theorem dX3_firstFault_28 : decode cX3_firstFault 28 = .ok (.istore_n 1, 1) := by decide +kernel
theorem dX3_firstFault_29 : decode cX3_firstFault 29 = .ok (.iload_n 1, 1) := by decide +kernel
theorem dX3_firstFault_30 : decode cX3_firstFault 30 = .ok (.ifCond .ne 5, 3) := by decide +kernel
theorem dX3_firstFault_33 : decode cX3_firstFault 33 = .ok (.iconst 2, 1) := by decide +kernel
theorem dX3_firstFault_34 : decode cX3_firstFault 34 = .ok (.ireturn, 1) := by decide +kernel
theorem dX3_firstFault_35 : decode cX3_firstFault 35 = .ok (.iconst 2, 1) := by decide +kernel
theorem dX3_firstFault_36 : decode cX3_firstFault 36 = .ok (.iload_n 1, 1) := by decide +kernel
theorem dX3_firstFault_37 : decode cX3_firstFault 37 = .ok (.iadd, 1) := by decide +kernel
theorem dX3_firstFault_38 : decode cX3_firstFault 38 = .ok (.istore_n 2, 1) := by decide +kernel
theorem dX3_firstFault_39 : decode cX3_firstFault 39 = .ok (.iconst 0, 1) := by decide +kernel
theorem dX3_firstFault_40 : decode cX3_firstFault 40 = .ok (.istore_n 3, 1) := by decide +kernel
theorem dX3_firstFault_41 : decode cX3_firstFault 41 = .ok (.iload_n 3, 1) := by decide +kernel
theorem dX3_firstFault_42 : decode cX3_firstFault 42 = .ok (.iconst 5, 1) := by decide +kernel
theorem dX3_firstFault_43 : decode cX3_firstFault 43 = .ok (.if_icmp .ge 60, 3) := by decide +kernel
theorem dX3_firstFault_46 : decode cX3_firstFault 46 = .ok (.iload_n 3, 1) := by decide +kernel
theorem dX3_firstFault_47 : decode cX3_firstFault 47 = .ok (.ifCond .le 13, 3) := by decide +kernel
theorem dX3_firstFault_50 : decode cX3_firstFault 50 = .ok (.iload_n 2, 1) := by decide +kernel
theorem dX3_firstFault_51 : decode cX3_firstFault 51 = .ok (.aload_n 0, 1) := by decide +kernel
theorem dX3_firstFault_52 : decode cX3_firstFault 52 = .ok (.getfield 15, 3) := by decide +kernel
theorem dX3_firstFault_55 : decode cX3_firstFault 55 = .ok (.if_icmp .ne 5, 3) := by decide +kernel
theorem dX3_firstFault_58 : decode cX3_firstFault 58 = .ok (.iconst (-1), 1) := by decide +kernel
theorem dX3_firstFault_59 : decode cX3_firstFault 59 = .ok (.ireturn, 1) := by decide +kernel
theorem dX3_firstFault_60 : decode cX3_firstFault 60 = .ok (.iconst 0, 1) := by decide +kernel
theorem dX3_firstFault_61 : decode cX3_firstFault 61 = .ok (.istore 4, 2) := by decide +kernel
theorem dX3_firstFault_63 : decode cX3_firstFault 63 = .ok (.iload 4, 2) := by decide +kernel
theorem dX3_firstFault_65 : decode cX3_firstFault 65 = .ok (.bipush 6, 2) := by decide +kernel
theorem dX3_firstFault_67 : decode cX3_firstFault 67 = .ok (.if_icmp .ge 27, 3) := by decide +kernel
theorem dX3_firstFault_70 : decode cX3_firstFault 70 = .ok (.aload_n 0, 1) := by decide +kernel
theorem dX3_firstFault_71 : decode cX3_firstFault 71 = .ok (.iload_n 2, 1) := by decide +kernel
theorem dX3_firstFault_72 : decode cX3_firstFault 72 = .ok (.iload 4, 2) := by decide +kernel
theorem dX3_firstFault_74 : decode cX3_firstFault 74 = .ok (.iadd, 1) := by decide +kernel
theorem dX3_firstFault_75 : decode cX3_firstFault 75 = .ok (.iload 4, 2) := by decide +kernel
theorem dX3_firstFault_77 : decode cX3_firstFault 77 = .ok (.invokevirtual 40, 3) := by decide +kernel
theorem dX3_firstFault_80 : decode cX3_firstFault 80 = .ok (.ifCond .ne 8, 3) := by decide +kernel
theorem dX3_firstFault_83 : decode cX3_firstFault 83 = .ok (.iload_n 2, 1) := by decide +kernel
theorem dX3_firstFault_84 : decode cX3_firstFault 84 = .ok (.iload 4, 2) := by decide +kernel
theorem dX3_firstFault_86 : decode cX3_firstFault 86 = .ok (.iadd, 1) := by decide +kernel
theorem dX3_firstFault_87 : decode cX3_firstFault 87 = .ok (.ireturn, 1) := by decide +kernel
theorem dX3_firstFault_88 : decode cX3_firstFault 88 = .ok (.iinc 4 1, 3) := by decide +kernel
theorem dX3_firstFault_91 : decode cX3_firstFault 91 = .ok (.goto (-28), 3) := by decide +kernel
theorem dX3_firstFault_94 : decode cX3_firstFault 94 = .ok (.iinc 2 6, 3) := by decide +kernel
theorem dX3_firstFault_97 : decode cX3_firstFault 97 = .ok (.iinc 3 1, 3) := by decide +kernel
theorem dX3_firstFault_100 : decode cX3_firstFault 100 = .ok (.goto (-59), 3) := by decide +kernel
theorem dX3_firstFault_103 : decode cX3_firstFault 103 = .ok (.iload_n 2, 1) := by decide +kernel
theorem dX3_firstFault_104 : decode cX3_firstFault 104 = .ok (.aload_n 0, 1) := by decide +kernel
theorem dX3_firstFault_105 : decode cX3_firstFault 105 = .ok (.getfield 15, 3) := by decide +kernel
theorem dX3_firstFault_108 : decode cX3_firstFault 108 = .ok (.if_icmp .ne 7, 3) := by decide +kernel
theorem dX3_firstFault_111 : decode cX3_firstFault 111 = .ok (.iconst (-1), 1) := by decide +kernel
theorem dX3_firstFault_112 : decode cX3_firstFault 112 = .ok (.goto 4, 3) := by decide +kernel
theorem dX3_firstFault_115 : decode cX3_firstFault 115 = .ok (.iload_n 2, 1) := by decide +kernel
theorem dX3_firstFault_116 : decode cX3_firstFault 116 = .ok (.ireturn, 1) := by decide +kernel
set_option maxRecDepth 20000 in
theorem ggX3_goesOn_X3_codeAt : GoodIn wsX3_goesOn wsX3_codeAt := goodIn_r _ [5, 6, 7, 19, 20] (by decide +kernel) (by decide +kernel)
set_option maxRecDepth 20000 in
theorem gX3_goesOn_X3_codeAt : GoodIn wsX3_goesOn (wsV RX3 25 RX3 yX3_codeAt wsX3_codeAt) := goodIn_app (goodIn_of _ (by decide +kernel)) ggX3_goesOn_X3_codeAt
set_option maxRecDepth 20000 in
theorem ggX3_goesOn_X3_kindAt : GoodIn wsX3_goesOn wsX3_kindAt := goodIn_r _ [11, 1, 2, 3, 4, 5, 6, 7, 19, 20] (by decide +kernel) (by decide +kernel)
set_option maxRecDepth 20000 in
theorem gX3_goesOn_X3_kindAt : GoodIn wsX3_goesOn (wsV RX3 43 RX3 yX3_kindAt wsX3_kindAt) := goodIn_app (goodIn_of _ (by decide +kernel)) ggX3_goesOn_X3_kindAt
set_option maxRecDepth 20000 in
theorem ggX3_goesOn_X3_hasDigit : GoodIn wsX3_goesOn wsX3_hasDigit := goodIn_r _ [15, 1, 2, 3, 4, 5, 6, 7, 16, 17, 18, 19, 20] (by decide +kernel) (by decide +kernel)
set_option maxRecDepth 20000 in
theorem gX3_goesOn_X3_hasDigit : GoodIn wsX3_goesOn (wsV RX3 32 RX3 yX3_hasDigit wsX3_hasDigit) := goodIn_app (goodIn_of _ (by decide +kernel)) ggX3_goesOn_X3_hasDigit
theorem dX3_goesOn_0 : decode cX3_goesOn 0 = .ok (.iload_n 2, 1) := by decide +kernel
theorem dX3_goesOn_1 : decode cX3_goesOn 1 = .ok (.tableswitch 74 0 4 #[35, 51, 74, 67, 67], 35) := by decide +kernel
theorem dX3_goesOn_36 : decode cX3_goesOn 36 = .ok (.aload_n 0, 1) := by decide +kernel
theorem dX3_goesOn_37 : decode cX3_goesOn 37 = .ok (.iload_n 1, 1) := by decide +kernel
theorem dX3_goesOn_38 : decode cX3_goesOn 38 = .ok (.invokevirtual 25, 3) := by decide +kernel
theorem dX3_goesOn_41 : decode cX3_goesOn 41 = .ok (.bipush 59, 2) := by decide +kernel
theorem dX3_goesOn_43 : decode cX3_goesOn 43 = .ok (.if_icmp .ne 7, 3) := by decide +kernel
theorem dX3_goesOn_46 : decode cX3_goesOn 46 = .ok (.iconst 1, 1) := by decide +kernel
theorem dX3_goesOn_47 : decode cX3_goesOn 47 = .ok (.goto 4, 3) := by decide +kernel
theorem dX3_goesOn_50 : decode cX3_goesOn 50 = .ok (.iconst 0, 1) := by decide +kernel
theorem dX3_goesOn_51 : decode cX3_goesOn 51 = .ok (.ireturn, 1) := by decide +kernel
theorem dX3_goesOn_52 : decode cX3_goesOn 52 = .ok (.aload_n 0, 1) := by decide +kernel
theorem dX3_goesOn_53 : decode cX3_goesOn 53 = .ok (.iload_n 1, 1) := by decide +kernel
theorem dX3_goesOn_54 : decode cX3_goesOn 54 = .ok (.invokevirtual 43, 3) := by decide +kernel
theorem dX3_goesOn_57 : decode cX3_goesOn 57 = .ok (.bipush (-9), 2) := by decide +kernel
theorem dX3_goesOn_59 : decode cX3_goesOn 59 = .ok (.if_icmp .eq 7, 3) := by decide +kernel
theorem dX3_goesOn_62 : decode cX3_goesOn 62 = .ok (.iconst 1, 1) := by decide +kernel
theorem dX3_goesOn_63 : decode cX3_goesOn 63 = .ok (.goto 4, 3) := by decide +kernel
theorem dX3_goesOn_66 : decode cX3_goesOn 66 = .ok (.iconst 0, 1) := by decide +kernel
theorem dX3_goesOn_67 : decode cX3_goesOn 67 = .ok (.ireturn, 1) := by decide +kernel
theorem dX3_goesOn_68 : decode cX3_goesOn 68 = .ok (.aload_n 0, 1) := by decide +kernel
theorem dX3_goesOn_69 : decode cX3_goesOn 69 = .ok (.iload_n 1, 1) := by decide +kernel
theorem dX3_goesOn_70 : decode cX3_goesOn 70 = .ok (.iconst 4, 1) := by decide +kernel
theorem dX3_goesOn_71 : decode cX3_goesOn 71 = .ok (.invokevirtual 32, 3) := by decide +kernel
theorem dX3_goesOn_74 : decode cX3_goesOn 74 = .ok (.ireturn, 1) := by decide +kernel
theorem dX3_goesOn_75 : decode cX3_goesOn 75 = .ok (.aload_n 0, 1) := by decide +kernel
theorem dX3_goesOn_76 : decode cX3_goesOn 76 = .ok (.iload_n 1, 1) := by decide +kernel
theorem dX3_goesOn_77 : decode cX3_goesOn 77 = .ok (.bipush 9, 2) := by decide +kernel
theorem dX3_goesOn_79 : decode cX3_goesOn 79 = .ok (.invokevirtual 32, 3) := by decide +kernel
theorem dX3_goesOn_82 : decode cX3_goesOn 82 = .ok (.ireturn, 1) := by decide +kernel
set_option maxRecDepth 20000 in
theorem ggX3_kindAt_X3_codeAt : GoodIn wsX3_kindAt wsX3_codeAt := goodIn_r _ [5, 6, 7, 8, 9] (by decide +kernel) (by decide +kernel)
set_option maxRecDepth 20000 in
theorem gX3_kindAt_X3_codeAt : GoodIn wsX3_kindAt (wsV RX3 25 RX3 yX3_codeAt wsX3_codeAt) := goodIn_app (goodIn_of _ (by decide +kernel)) ggX3_kindAt_X3_codeAt
theorem dX3_kindAt_0 : decode cX3_kindAt 0 = .ok (.aload_n 0, 1) := by decide +kernel
theorem dX3_kindAt_1 : decode cX3_kindAt 1 = .ok (.iload_n 1, 1) := by decide +kernel
theorem dX3_kindAt_2 : decode cX3_kindAt 2 = .ok (.invokevirtual 25, 3) := by decide +kernel
theorem dX3_kindAt_5 : decode cX3_kindAt 5 = .ok (.lookupswitch 41 #[(108, 37), (114, 39), (116, 35)], 35) := by decide +kernel
theorem dX3_kindAt_40 : decode cX3_kindAt 40 = .ok (.iconst 0, 1) := by decide +kernel
theorem dX3_kindAt_41 : decode cX3_kindAt 41 = .ok (.ireturn, 1) := by decide +kernel
theorem dX3_kindAt_42 : decode cX3_kindAt 42 = .ok (.iconst 1, 1) := by decide +kernel
theorem dX3_kindAt_43 : decode cX3_kindAt 43 = .ok (.ireturn, 1) := by decide +kernel
theorem dX3_kindAt_44 : decode cX3_kindAt 44 = .ok (.iconst 2, 1) := by decide +kernel
theorem dX3_kindAt_45 : decode cX3_kindAt 45 = .ok (.ireturn, 1) := by decide +kernel
theorem dX3_kindAt_46 : decode cX3_kindAt 46 = .ok (.bipush (-9), 2) := by decide +kernel
theorem dX3_kindAt_48 : decode cX3_kindAt 48 = .ok (.ireturn, 1) := by decide +kernel
set_option maxRecDepth 20000 in
theorem ggX3_tellThingTo_X3_places : GoodIn wsX3_tellThingTo wsX3_places := goodIn_r _ [10, 11, 12, 13, 9, 14, 15, 16, 17, 18, 19, 20, 21, 22, 23, 37, 38] (by decide +kernel) (by decide +kernel)
set_option maxRecDepth 20000 in
theorem gX3_tellThingTo_X3_places : GoodIn wsX3_tellThingTo (wsV RX3 36 RX3 yX3_places wsX3_places) := goodIn_app (goodIn_of _ (by decide +kernel)) ggX3_tellThingTo_X3_places
set_option maxRecDepth 20000 in
theorem ggX3_tellThingTo_X3_kindAt : GoodIn wsX3_tellThingTo wsX3_kindAt := goodIn_r _ [27, 15, 16, 17, 9, 18, 19, 20, 37, 38] (by decide +kernel) (by decide +kernel)
set_option maxRecDepth 20000 in
theorem gX3_tellThingTo_X3_kindAt : GoodIn wsX3_tellThingTo (wsV RX3 43 RX3 yX3_kindAt wsX3_kindAt) := goodIn_app (goodIn_of _ (by decide +kernel)) ggX3_tellThingTo_X3_kindAt
set_option maxRecDepth 20000 in
theorem ggX3_tellThingTo_X3_digitAt : GoodIn wsX3_tellThingTo wsX3_digitAt := goodIn_r _ [31, 15, 16, 17, 9, 18, 19, 20, 37, 38] (by decide +kernel) (by decide +kernel)
set_option maxRecDepth 20000 in
theorem gX3_tellThingTo_X3_digitAt : GoodIn wsX3_tellThingTo (wsV RX3 51 RX3 yX3_digitAt wsX3_digitAt) := goodIn_app (goodIn_of _ (by decide +kernel)) ggX3_tellThingTo_X3_digitAt
theorem dX3_tellThingTo_0 : decode cX3_tellThingTo 0 = .ok (.iconst 2, 1) := by decide +kernel
theorem dX3_tellThingTo_1 : decode cX3_tellThingTo 1 = .ok (.aload_n 0, 1) := by decide +kernel
theorem dX3_tellThingTo_2 : decode cX3_tellThingTo 2 = .ok (.invokevirtual 36, 3) := by decide +kernel
theorem dX3_tellThingTo_5 : decode cX3_tellThingTo 5 = .ok (.iadd, 1) := by decide +kernel
theorem dX3_tellThingTo_6 : decode cX3_tellThingTo 6 = .ok (.bipush 6, 2) := by decide +kernel
theorem dX3_tellThingTo_8 : decode cX3_tellThingTo 8 = .ok (.iload_n 2, 1) := by decide +kernel
theorem dX3_tellThingTo_9 : decode cX3_tellThingTo 9 = .ok (.imul, 1) := by decide +kernel
theorem dX3_tellThingTo_10 : decode cX3_tellThingTo 10 = .ok (.iadd, 1) := by decide +kernel
theorem dX3_tellThingTo_11 : decode cX3_tellThingTo 11 = .ok (.istore_n 3, 1) := by decide +kernel
theorem dX3_tellThingTo_12 : decode cX3_tellThingTo 12 = .ok (.aload_n 1, 1) := by decide +kernel
theorem dX3_tellThingTo_13 : decode cX3_tellThingTo 13 = .ok (.aload_n 0, 1) := by decide +kernel
theorem dX3_tellThingTo_14 : decode cX3_tellThingTo 14 = .ok (.iload_n 3, 1) := by decide +kernel
theorem dX3_tellThingTo_15 : decode cX3_tellThingTo 15 = .ok (.iconst 1, 1) := by decide +kernel
theorem dX3_tellThingTo_16 : decode cX3_tellThingTo 16 = .ok (.iadd, 1) := by decide +kernel
theorem dX3_tellThingTo_17 : decode cX3_tellThingTo 17 = .ok (.invokevirtual 43, 3) := by decide +kernel
theorem dX3_tellThingTo_20 : decode cX3_tellThingTo 20 = .ok (.putfield 46, 3) := by decide +kernel
theorem dX3_tellThingTo_23 : decode cX3_tellThingTo 23 = .ok (.aload_n 1, 1) := by decide +kernel
theorem dX3_tellThingTo_24 : decode cX3_tellThingTo 24 = .ok (.aload_n 0, 1) := by decide +kernel
theorem dX3_tellThingTo_25 : decode cX3_tellThingTo 25 = .ok (.iload_n 3, 1) := by decide +kernel
theorem dX3_tellThingTo_26 : decode cX3_tellThingTo 26 = .ok (.iconst 2, 1) := by decide +kernel
theorem dX3_tellThingTo_27 : decode cX3_tellThingTo 27 = .ok (.iadd, 1) := by decide +kernel
theorem dX3_tellThingTo_28 : decode cX3_tellThingTo 28 = .ok (.invokevirtual 51, 3) := by decide +kernel
theorem dX3_tellThingTo_31 : decode cX3_tellThingTo 31 = .ok (.putfield 54, 3) := by decide +kernel
theorem dX3_tellThingTo_34 : decode cX3_tellThingTo 34 = .ok (.aload_n 1, 1) := by decide +kernel
theorem dX3_tellThingTo_35 : decode cX3_tellThingTo 35 = .ok (.aload_n 0, 1) := by decide +kernel
theorem dX3_tellThingTo_36 : decode cX3_tellThingTo 36 = .ok (.iload_n 3, 1) := by decide +kernel
theorem dX3_tellThingTo_37 : decode cX3_tellThingTo 37 = .ok (.iconst 3, 1) := by decide +kernel
theorem dX3_tellThingTo_38 : decode cX3_tellThingTo 38 = .ok (.iadd, 1) := by decide +kernel
theorem dX3_tellThingTo_39 : decode cX3_tellThingTo 39 = .ok (.invokevirtual 51, 3) := by decide +kernel
theorem dX3_tellThingTo_42 : decode cX3_tellThingTo 42 = .ok (.putfield 57, 3) := by decide +kernel
theorem dX3_tellThingTo_45 : decode cX3_tellThingTo 45 = .ok (.aload_n 1, 1) := by decide +kernel
theorem dX3_tellThingTo_46 : decode cX3_tellThingTo 46 = .ok (.aload_n 0, 1) := by decide +kernel
theorem dX3_tellThingTo_47 : decode cX3_tellThingTo 47 = .ok (.iload_n 3, 1) := by decide +kernel
theorem dX3_tellThingTo_48 : decode cX3_tellThingTo 48 = .ok (.iconst 4, 1) := by decide +kernel
theorem dX3_tellThingTo_49 : decode cX3_tellThingTo 49 = .ok (.iadd, 1) := by decide +kernel
theorem dX3_tellThingTo_50 : decode cX3_tellThingTo 50 = .ok (.invokevirtual 51, 3) := by decide +kernel
theorem dX3_tellThingTo_53 : decode cX3_tellThingTo 53 = .ok (.putfield 60, 3) := by decide +kernel
theorem dX3_tellThingTo_56 : decode cX3_tellThingTo 56 = .ok (.aload_n 1, 1) := by decide +kernel
theorem dX3_tellThingTo_57 : decode cX3_tellThingTo 57 = .ok (.aload_n 0, 1) := by decide +kernel
theorem dX3_tellThingTo_58 : decode cX3_tellThingTo 58 = .ok (.iload_n 3, 1) := by decide +kernel
theorem dX3_tellThingTo_59 : decode cX3_tellThingTo 59 = .ok (.iconst 5, 1) := by decide +kernel
theorem dX3_tellThingTo_60 : decode cX3_tellThingTo 60 = .ok (.iadd, 1) := by decide +kernel
theorem dX3_tellThingTo_61 : decode cX3_tellThingTo 61 = .ok (.invokevirtual 51, 3) := by decide +kernel
theorem dX3_tellThingTo_64 : decode cX3_tellThingTo 64 = .ok (.putfield 63, 3) := by decide +kernel
theorem dX3_tellThingTo_67 : decode cX3_tellThingTo 67 = .ok (.return_, 1) := by decide +kernel
theorem dX4_init_0 : decode cX4_init 0 = .ok (.aload_n 0, 1) := by decide +kernel
theorem dX4_init_1 : decode cX4_init 1 = .ok (.invokespecial 1, 3) := by decide +kernel
theorem dX4_init_4 : decode cX4_init 4 = .ok (.return_, 1) := by decide +kernel
theorem dX5_init_0 : decode cX5_init 0 = .ok (.aload_n 0, 1) := by decide +kernel
theorem dX5_init_1 : decode cX5_init 1 = .ok (.invokespecial 1, 3) := by decide +kernel
theorem dX5_init_4 : decode cX5_init 4 = .ok (.return_, 1) := by decide +kernel
theorem dX5_begin_0 : decode cX5_begin 0 = .ok (.aload_n 0, 1) := by decide +kernel
theorem dX5_begin_1 : decode cX5_begin 1 = .ok (.aload_n 1, 1) := by decide +kernel
theorem dX5_begin_2 : decode cX5_begin 2 = .ok (.getfield 7, 3) := by decide +kernel
theorem dX5_begin_5 : decode cX5_begin 5 = .ok (.putfield 13, 3) := by decide +kernel
theorem dX5_begin_8 : decode cX5_begin 8 = .ok (.aload_n 0, 1) := by decide +kernel
theorem dX5_begin_9 : decode cX5_begin 9 = .ok (.aload_n 1, 1) := by decide +kernel
theorem dX5_begin_10 : decode cX5_begin 10 = .ok (.getfield 18, 3) := by decide +kernel
theorem dX5_begin_13 : decode cX5_begin 13 = .ok (.putfield 21, 3) := by decide +kernel
theorem dX5_begin_16 : decode cX5_begin 16 = .ok (.return_, 1) := by decide +kernel
set_option maxRecDepth 20000 in
theorem ggX5_goOn_X1_comingsTillAnother : GoodIn wsX5_goOn wsX1_comingsTillAnother := goodIn_r _ [7, 8, 9, 10, 11, 6, 12, 13, 17, 18] (by decide +kernel) (by decide +kernel)
set_option maxRecDepth 20000 in
theorem gX5_goOn_X1_comingsTillAnother : GoodIn wsX5_goOn (wsV RX5 22 RX1 yX1_comingsTillAnother wsX1_comingsTillAnother) := goodIn_app (goodIn_of _ (by decide +kernel)) ggX5_goOn_X1_comingsTillAnother
set_option maxRecDepth 20000 in
theorem ggX5_goOn_X1_drawerIn : GoodIn wsX5_goOn wsX1_drawerIn := goodIn_r _ [12, 8, 13, 17, 18] (by decide +kernel) (by decide +kernel)
set_option maxRecDepth 20000 in
theorem gX5_goOn_X1_drawerIn : GoodIn wsX5_goOn (wsV RX5 28 RX1 yX1_drawerIn wsX1_drawerIn) := goodIn_app (goodIn_of _ (by decide +kernel)) ggX5_goOn_X1_drawerIn
theorem dX5_goOn_0 : decode cX5_goOn 0 = .ok (.aload_n 1, 1) := by decide +kernel
theorem dX5_goOn_1 : decode cX5_goOn 1 = .ok (.aload_n 0, 1) := by decide +kernel
theorem dX5_goOn_2 : decode cX5_goOn 2 = .ok (.getfield 13, 3) := by decide +kernel
theorem dX5_goOn_5 : decode cX5_goOn 5 = .ok (.aload_n 0, 1) := by decide +kernel
theorem dX5_goOn_6 : decode cX5_goOn 6 = .ok (.getfield 21, 3) := by decide +kernel
theorem dX5_goOn_9 : decode cX5_goOn 9 = .ok (.iload_n 2, 1) := by decide +kernel
theorem dX5_goOn_10 : decode cX5_goOn 10 = .ok (.invokevirtual 22, 3) := by decide +kernel
theorem dX5_goOn_13 : decode cX5_goOn 13 = .ok (.istore_n 3, 1) := by decide +kernel
theorem dX5_goOn_14 : decode cX5_goOn 14 = .ok (.iload_n 3, 1) := by decide +kernel
theorem dX5_goOn_15 : decode cX5_goOn 15 = .ok (.ifCond .ne 5, 3) := by decide +kernel
theorem dX5_goOn_18 : decode cX5_goOn 18 = .ok (.iconst 0, 1) := by decide +kernel
theorem dX5_goOn_19 : decode cX5_goOn 19 = .ok (.ireturn, 1) := by decide +kernel
theorem dX5_goOn_20 : decode cX5_goOn 20 = .ok (.aload_n 0, 1) := by decide +kernel
theorem dX5_goOn_21 : decode cX5_goOn 21 = .ok (.dup, 1) := by decide +kernel
theorem dX5_goOn_22 : decode cX5_goOn 22 = .ok (.getfield 21, 3) := by decide +kernel
theorem dX5_goOn_25 : decode cX5_goOn 25 = .ok (.iload_n 3, 1) := by decide +kernel
theorem dX5_goOn_26 : decode cX5_goOn 26 = .ok (.iload_n 2, 1) := by decide +kernel
theorem dX5_goOn_27 : decode cX5_goOn 27 = .ok (.imul, 1) := by decide +kernel
theorem dX5_goOn_28 : decode cX5_goOn 28 = .ok (.iadd, 1) := by decide +kernel
theorem dX5_goOn_29 : decode cX5_goOn 29 = .ok (.putfield 21, 3) := by decide +kernel
theorem dX5_goOn_32 : decode cX5_goOn 32 = .ok (.aload_n 0, 1) := by decide +kernel
theorem dX5_goOn_33 : decode cX5_goOn 33 = .ok (.aload_n 1, 1) := by decide +kernel
theorem dX5_goOn_34 : decode cX5_goOn 34 = .ok (.aload_n 0, 1) := by decide +kernel
theorem dX5_goOn_35 : decode cX5_goOn 35 = .ok (.getfield 21, 3) := by decide +kernel
theorem dX5_goOn_38 : decode cX5_goOn 38 = .ok (.invokevirtual 28, 3) := by decide +kernel
theorem dX5_goOn_41 : decode cX5_goOn 41 = .ok (.putfield 13, 3) := by decide +kernel
theorem dX5_goOn_44 : decode cX5_goOn 44 = .ok (.iconst 1, 1) := by decide +kernel
theorem dX5_goOn_45 : decode cX5_goOn 45 = .ok (.ireturn, 1) := by decide +kernel
set_option maxRecDepth 20000 in
theorem ggX6_init_X1_init : GoodIn wsX6_init wsX1_init := goodIn_r _ [31, 32, 2, 3, 33, 34, 66, 67] (by decide +kernel) (by decide +kernel)
set_option maxRecDepth 20000 in
theorem gX6_init_X1_init_n31 : GoodIn wsX6_init (wsX1_init) := ggX6_init_X1_init
set_option maxRecDepth 20000 in
theorem ggX6_init_X3_init : GoodIn wsX6_init wsX3_init := goodIn_r _ [36, 37, 2, 3, 33, 38, 68, 69] (by decide +kernel) (by decide +kernel)
set_option maxRecDepth 20000 in
theorem gX6_init_X3_init_n44 : GoodIn wsX6_init (wsX3_init) := ggX6_init_X3_init
set_option maxRecDepth 20000 in
theorem ggX6_init_X5_init : GoodIn wsX6_init wsX5_init := goodIn_r _ [40, 41, 2, 3] (by decide +kernel) (by decide +kernel)
set_option maxRecDepth 20000 in
theorem gX6_init_X5_init_n51 : GoodIn wsX6_init (wsX5_init) := ggX6_init_X5_init
set_option maxRecDepth 20000 in
theorem ggX6_init_X2_init : GoodIn wsX6_init wsX2_init := goodIn_r _ [43, 44, 2, 3, 33, 45, 46, 72, 73, 74] (by decide +kernel) (by decide +kernel)
set_option maxRecDepth 20000 in
theorem gX6_init_X2_init_n56 : GoodIn wsX6_init (wsX2_init) := ggX6_init_X2_init
set_option maxRecDepth 20000 in
theorem ggX6_init_X4_init : GoodIn wsX6_init wsX4_init := goodIn_r _ [48, 49, 2, 3] (by decide +kernel) (by decide +kernel)
set_option maxRecDepth 20000 in
theorem gX6_init_X4_init_n57 : GoodIn wsX6_init (wsX4_init) := ggX6_init_X4_init
set_option maxRecDepth 20000 in
theorem ggX6_init_X0_init : GoodIn wsX6_init wsX0_init := goodIn_r _ [51, 52, 2, 3] (by decide +kernel) (by decide +kernel)
set_option maxRecDepth 20000 in
theorem gX6_init_X0_init_n58 : GoodIn wsX6_init (wsX0_init) := ggX6_init_X0_init
theorem dX6_init_0 : decode cX6_init 0 = .ok (.aload_n 0, 1) := by decide +kernel
theorem dX6_init_1 : decode cX6_init 1 = .ok (.invokespecial 3, 3) := by decide +kernel
theorem dX6_init_4 : decode cX6_init 4 = .ok (.aload_n 0, 1) := by decide +kernel
theorem dX6_init_5 : decode cX6_init 5 = .ok (.iconst 4, 1) := by decide +kernel
theorem dX6_init_6 : decode cX6_init 6 = .ok (.anewarray 11, 3) := by decide +kernel
theorem dX6_init_9 : decode cX6_init 9 = .ok (.putfield 13, 3) := by decide +kernel
theorem dX6_init_12 : decode cX6_init 12 = .ok (.aload_n 0, 1) := by decide +kernel
theorem dX6_init_13 : decode cX6_init 13 = .ok (.iconst 5, 1) := by decide +kernel
theorem dX6_init_14 : decode cX6_init 14 = .ok (.anewarray 17, 3) := by decide +kernel
theorem dX6_init_17 : decode cX6_init 17 = .ok (.putfield 19, 3) := by decide +kernel
theorem dX6_init_20 : decode cX6_init 20 = .ok (.aload_n 0, 1) := by decide +kernel
theorem dX6_init_21 : decode cX6_init 21 = .ok (.bipush 8, 2) := by decide +kernel
theorem dX6_init_23 : decode cX6_init 23 = .ok (.anewarray 23, 3) := by decide +kernel
theorem dX6_init_26 : decode cX6_init 26 = .ok (.putfield 25, 3) := by decide +kernel
theorem dX6_init_29 : decode cX6_init 29 = .ok (.aload_n 0, 1) := by decide +kernel
theorem dX6_init_30 : decode cX6_init 30 = .ok (.new 29, 3) := by decide +kernel
theorem dX6_init_33 : decode cX6_init 33 = .ok (.dup, 1) := by decide +kernel
theorem dX6_init_34 : decode cX6_init 34 = .ok (.invokespecial 31, 3) := by decide +kernel
theorem dX6_init_37 : decode cX6_init 37 = .ok (.putfield 32, 3) := by decide +kernel
theorem dX6_init_40 : decode cX6_init 40 = .ok (.aload_n 0, 1) := by decide +kernel
theorem dX6_init_41 : decode cX6_init 41 = .ok (.new 29, 3) := by decide +kernel
theorem dX6_init_44 : decode cX6_init 44 = .ok (.dup, 1) := by decide +kernel
theorem dX6_init_45 : decode cX6_init 45 = .ok (.invokespecial 31, 3) := by decide +kernel
theorem dX6_init_48 : decode cX6_init 48 = .ok (.putfield 36, 3) := by decide +kernel
theorem dX6_init_51 : decode cX6_init 51 = .ok (.aload_n 0, 1) := by decide +kernel
theorem dX6_init_52 : decode cX6_init 52 = .ok (.new 29, 3) := by decide +kernel
theorem dX6_init_55 : decode cX6_init 55 = .ok (.dup, 1) := by decide +kernel
theorem dX6_init_56 : decode cX6_init 56 = .ok (.invokespecial 31, 3) := by decide +kernel
theorem dX6_init_59 : decode cX6_init 59 = .ok (.putfield 39, 3) := by decide +kernel
theorem dX6_init_62 : decode cX6_init 62 = .ok (.aload_n 0, 1) := by decide +kernel
theorem dX6_init_63 : decode cX6_init 63 = .ok (.new 42, 3) := by decide +kernel
theorem dX6_init_66 : decode cX6_init 66 = .ok (.dup, 1) := by decide +kernel
theorem dX6_init_67 : decode cX6_init 67 = .ok (.invokespecial 44, 3) := by decide +kernel
theorem dX6_init_70 : decode cX6_init 70 = .ok (.putfield 45, 3) := by decide +kernel
theorem dX6_init_73 : decode cX6_init 73 = .ok (.aload_n 0, 1) := by decide +kernel
theorem dX6_init_74 : decode cX6_init 74 = .ok (.new 49, 3) := by decide +kernel
theorem dX6_init_77 : decode cX6_init 77 = .ok (.dup, 1) := by decide +kernel
theorem dX6_init_78 : decode cX6_init 78 = .ok (.invokespecial 51, 3) := by decide +kernel
theorem dX6_init_81 : decode cX6_init 81 = .ok (.putfield 52, 3) := by decide +kernel
theorem dX6_init_84 : decode cX6_init 84 = .ok (.iconst 0, 1) := by decide +kernel
theorem dX6_init_85 : decode cX6_init 85 = .ok (.istore_n 1, 1) := by decide +kernel
theorem dX6_init_86 : decode cX6_init 86 = .ok (.iload_n 1, 1) := by decide +kernel
theorem dX6_init_87 : decode cX6_init 87 = .ok (.aload_n 0, 1) := by decide +kernel
theorem dX6_init_88 : decode cX6_init 88 = .ok (.getfield 13, 3) := by decide +kernel
theorem dX6_init_91 : decode cX6_init 91 = .ok (.arraylength, 1) := by decide +kernel
theorem dX6_init_92 : decode cX6_init 92 = .ok (.if_icmp .ge 22, 3) := by decide +kernel
theorem dX6_init_95 : decode cX6_init 95 = .ok (.aload_n 0, 1) := by decide +kernel
theorem dX6_init_96 : decode cX6_init 96 = .ok (.getfield 13, 3) := by decide +kernel
theorem dX6_init_99 : decode cX6_init 99 = .ok (.iload_n 1, 1) := by decide +kernel
theorem dX6_init_100 : decode cX6_init 100 = .ok (.new 11, 3) := by decide +kernel
theorem dX6_init_103 : decode cX6_init 103 = .ok (.dup, 1) := by decide +kernel
theorem dX6_init_104 : decode cX6_init 104 = .ok (.invokespecial 56, 3) := by decide +kernel
theorem dX6_init_107 : decode cX6_init 107 = .ok (.aastore, 1) := by decide +kernel
theorem dX6_init_108 : decode cX6_init 108 = .ok (.iinc 1 1, 3) := by decide +kernel
theorem dX6_init_111 : decode cX6_init 111 = .ok (.goto (-25), 3) := by decide +kernel
theorem dX6_init_114 : decode cX6_init 114 = .ok (.iconst 0, 1) := by decide +kernel
theorem dX6_init_115 : decode cX6_init 115 = .ok (.istore_n 1, 1) := by decide +kernel
theorem dX6_init_116 : decode cX6_init 116 = .ok (.iload_n 1, 1) := by decide +kernel
theorem dX6_init_117 : decode cX6_init 117 = .ok (.aload_n 0, 1) := by decide +kernel
theorem dX6_init_118 : decode cX6_init 118 = .ok (.getfield 19, 3) := by decide +kernel
theorem dX6_init_121 : decode cX6_init 121 = .ok (.arraylength, 1) := by decide +kernel
theorem dX6_init_122 : decode cX6_init 122 = .ok (.if_icmp .ge 22, 3) := by decide +kernel
theorem dX6_init_125 : decode cX6_init 125 = .ok (.aload_n 0, 1) := by decide +kernel
theorem dX6_init_126 : decode cX6_init 126 = .ok (.getfield 19, 3) := by decide +kernel
theorem dX6_init_129 : decode cX6_init 129 = .ok (.iload_n 1, 1) := by decide +kernel
theorem dX6_init_130 : decode cX6_init 130 = .ok (.new 17, 3) := by decide +kernel
theorem dX6_init_133 : decode cX6_init 133 = .ok (.dup, 1) := by decide +kernel
theorem dX6_init_134 : decode cX6_init 134 = .ok (.invokespecial 57, 3) := by decide +kernel
theorem dX6_init_137 : decode cX6_init 137 = .ok (.aastore, 1) := by decide +kernel
theorem dX6_init_138 : decode cX6_init 138 = .ok (.iinc 1 1, 3) := by decide +kernel
theorem dX6_init_141 : decode cX6_init 141 = .ok (.goto (-25), 3) := by decide +kernel
theorem dX6_init_144 : decode cX6_init 144 = .ok (.iconst 0, 1) := by decide +kernel
theorem dX6_init_145 : decode cX6_init 145 = .ok (.istore_n 1, 1) := by decide +kernel
theorem dX6_init_146 : decode cX6_init 146 = .ok (.iload_n 1, 1) := by decide +kernel
theorem dX6_init_147 : decode cX6_init 147 = .ok (.aload_n 0, 1) := by decide +kernel
theorem dX6_init_148 : decode cX6_init 148 = .ok (.getfield 25, 3) := by decide +kernel
theorem dX6_init_151 : decode cX6_init 151 = .ok (.arraylength, 1) := by decide +kernel
theorem dX6_init_152 : decode cX6_init 152 = .ok (.if_icmp .ge 22, 3) := by decide +kernel
theorem dX6_init_155 : decode cX6_init 155 = .ok (.aload_n 0, 1) := by decide +kernel
theorem dX6_init_156 : decode cX6_init 156 = .ok (.getfield 25, 3) := by decide +kernel
theorem dX6_init_159 : decode cX6_init 159 = .ok (.iload_n 1, 1) := by decide +kernel
theorem dX6_init_160 : decode cX6_init 160 = .ok (.new 23, 3) := by decide +kernel
theorem dX6_init_163 : decode cX6_init 163 = .ok (.dup, 1) := by decide +kernel
theorem dX6_init_164 : decode cX6_init 164 = .ok (.invokespecial 58, 3) := by decide +kernel
theorem dX6_init_167 : decode cX6_init 167 = .ok (.aastore, 1) := by decide +kernel
theorem dX6_init_168 : decode cX6_init 168 = .ok (.iinc 1 1, 3) := by decide +kernel
theorem dX6_init_171 : decode cX6_init 171 = .ok (.goto (-25), 3) := by decide +kernel
theorem dX6_init_174 : decode cX6_init 174 = .ok (.return_, 1) := by decide +kernel
set_option maxRecDepth 20000 in
theorem ggX6_well_X6_sheetAt : GoodIn wsX6_well wsX6_sheetAt := goodIn_r _ [8, 9, 119, 120, 121, 122, 123, 124, 125, 126, 127, 128, 129, 130, 131] (by decide +kernel) (by decide +kernel)
set_option maxRecDepth 20000 in
theorem gX6_well_X6_sheetAt : GoodIn wsX6_well (wsV RX6 63 RX6 yX6_sheetAt wsX6_sheetAt) := goodIn_app (goodIn_of _ (by decide +kernel)) ggX6_well_X6_sheetAt
set_option maxRecDepth 20000 in
theorem ggX6_well_X6_within : GoodIn wsX6_well wsX6_within := goodIn_r _ [12] (by decide +kernel) (by decide +kernel)
set_option maxRecDepth 20000 in
theorem gX6_well_X6_within : GoodIn wsX6_well (va_wsS RX6 67 yX6_within wsX6_within) := goodIn_app (goodIn_of _ (by decide +kernel)) ggX6_well_X6_within
set_option maxRecDepth 20000 in
theorem ggX6_well_X2_faultOfCells : GoodIn wsX6_well wsX2_faultOfCells := goodIn_r _ [17, 18, 19, 20, 16, 21, 22, 23, 24, 25, 26, 27, 28, 29, 30, 31, 32, 132, 133, 134] (by decide +kernel) (by decide +kernel)
set_option maxRecDepth 20000 in
theorem gX6_well_X2_faultOfCells : GoodIn wsX6_well (wsV RX6 71 RX2 yX2_faultOfCells wsX2_faultOfCells) := goodIn_app (goodIn_of _ (by decide +kernel)) ggX6_well_X2_faultOfCells
set_option maxRecDepth 20000 in
theorem ggX6_well_X6_faulted : GoodIn wsX6_well wsX6_faulted := goodIn_r _ [36, 1, 119, 120, 121, 122, 123, 124, 125, 126, 127, 128, 129, 130, 131] (by decide +kernel) (by decide +kernel)
set_option maxRecDepth 20000 in
theorem gX6_well_X6_faulted : GoodIn wsX6_well (wsV RX6 75 RX6 yX6_faulted wsX6_faulted) := goodIn_app (goodIn_of _ (by decide +kernel)) ggX6_well_X6_faulted
set_option maxRecDepth 20000 in
theorem ggX6_well_X3_take : GoodIn wsX6_well wsX3_take := goodIn_r _ [41, 42, 43, 44, 45, 46, 16, 47, 32, 48, 49, 50, 51, 31, 135, 136, 132, 133, 134] (by decide +kernel) (by decide +kernel)
set_option maxRecDepth 20000 in
theorem gX6_well_X3_take : GoodIn wsX6_well (wsV RX6 79 RX3 yX3_take wsX3_take) := goodIn_app (goodIn_of _ (by decide +kernel)) ggX6_well_X3_take
set_option maxRecDepth 20000 in
theorem ggX6_well_X3_firstFault : GoodIn wsX6_well wsX3_firstFault := goodIn_r _ [55, 42, 56, 57, 58, 40, 59, 43, 60, 61, 62, 63, 11, 7, 12, 64, 65, 66, 67, 68, 69, 70, 71, 72, 73, 74, 75, 135, 136] (by decide +kernel) (by decide +kernel)
set_option maxRecDepth 20000 in
theorem gX6_well_X3_firstFault : GoodIn wsX6_well (wsV RX6 83 RX3 yX3_firstFault wsX3_firstFault) := goodIn_app (goodIn_of _ (by decide +kernel)) ggX6_well_X3_firstFault
set_option maxRecDepth 20000 in
theorem ggX6_well_X6_makeAnew : GoodIn wsX6_well wsX6_makeAnew := goodIn_r _ [79, 2, 80, 81, 82, 3, 83, 84, 85, 86, 40, 87, 56, 57, 58, 59, 42, 43, 88, 65, 66, 67, 60, 61, 62, 63, 11, 7, 12, 89, 90, 91, 92, 93, 94, 95, 96, 97, 98, 99, 100, 101, 102, 103, 64, 104, 105, 106, 107, 108, 109, 110, 111, 112, 113, 114, 115, 116, 117, 72, 73, 74, 75, 118, 119, 120, 121, 122, 123, 124, 125, 126, 127, 128, 129, 130, 131, 137, 138, 135, 136, 139, 140, 141, 142, 143] (by decide +kernel) (by decide +kernel)
set_option maxRecDepth 20000 in
theorem gX6_well_X6_makeAnew : GoodIn wsX6_well (wsV RX6 87 RX6 yX6_makeAnew wsX6_makeAnew) := goodIn_app (goodIn_of _ (by decide +kernel)) ggX6_well_X6_makeAnew
theorem dX6_well_0 : decode cX6_well 0 = .ok (.aload_n 0, 1) := by decide +kernel
theorem dX6_well_1 : decode cX6_well 1 = .ok (.iconst 0, 1) := by decide +kernel
theorem dX6_well_2 : decode cX6_well 2 = .ok (.putfield 59, 3) := by decide +kernel
theorem dX6_well_5 : decode cX6_well 5 = .ok (.aload_n 0, 1) := by decide +kernel
theorem dX6_well_6 : decode cX6_well 6 = .ok (.iload_n 1, 1) := by decide +kernel
theorem dX6_well_7 : decode cX6_well 7 = .ok (.invokevirtual 63, 3) := by decide +kernel
theorem dX6_well_10 : decode cX6_well 10 = .ok (.astore 5, 2) := by decide +kernel
theorem dX6_well_12 : decode cX6_well 12 = .ok (.aload 5, 2) := by decide +kernel
theorem dX6_well_14 : decode cX6_well 14 = .ok (.ifnonnull 5, 3) := by decide +kernel
theorem dX6_well_17 : decode cX6_well 17 = .ok (.iconst (-1), 1) := by decide +kernel
theorem dX6_well_18 : decode cX6_well 18 = .ok (.ireturn, 1) := by decide +kernel
theorem dX6_well_19 : decode cX6_well 19 = .ok (.iload_n 2, 1) := by decide +kernel
theorem dX6_well_20 : decode cX6_well 20 = .ok (.iconst 0, 1) := by decide +kernel
theorem dX6_well_21 : decode cX6_well 21 = .ok (.iconst 2, 1) := by decide +kernel
theorem dX6_well_22 : decode cX6_well 22 = .ok (.invokestatic 67, 3) := by decide +kernel
theorem dX6_well_25 : decode cX6_well 25 = .ok (.ifCond .ne 6, 3) := by decide +kernel
theorem dX6_well_28 : decode cX6_well 28 = .ok (.bipush (-2), 2) := by decide +kernel
theorem dX6_well_30 : decode cX6_well 30 = .ok (.ireturn, 1) := by decide +kernel
theorem dX6_well_31 : decode cX6_well 31 = .ok (.aload 5, 2) := by decide +kernel
theorem dX6_well_33 : decode cX6_well 33 = .ok (.iload_n 2, 1) := by decide +kernel
theorem dX6_well_34 : decode cX6_well 34 = .ok (.iload_n 3, 1) := by decide +kernel
theorem dX6_well_35 : decode cX6_well 35 = .ok (.iload 4, 2) := by decide +kernel
theorem dX6_well_37 : decode cX6_well 37 = .ok (.invokevirtual 71, 3) := by decide +kernel
theorem dX6_well_40 : decode cX6_well 40 = .ok (.istore 6, 2) := by decide +kernel
theorem dX6_well_42 : decode cX6_well 42 = .ok (.iload 6, 2) := by decide +kernel
theorem dX6_well_44 : decode cX6_well 44 = .ok (.ifCond .eq 10, 3) := by decide +kernel
theorem dX6_well_47 : decode cX6_well 47 = .ok (.aload_n 0, 1) := by decide +kernel
theorem dX6_well_48 : decode cX6_well 48 = .ok (.iload 6, 2) := by decide +kernel
theorem dX6_well_50 : decode cX6_well 50 = .ok (.invokevirtual 75, 3) := by decide +kernel
theorem dX6_well_53 : decode cX6_well 53 = .ok (.ireturn, 1) := by decide +kernel
theorem dX6_well_54 : decode cX6_well 54 = .ok (.aload_n 0, 1) := by decide +kernel
theorem dX6_well_55 : decode cX6_well 55 = .ok (.getfield 45, 3) := by decide +kernel
theorem dX6_well_58 : decode cX6_well 58 = .ok (.aload 5, 2) := by decide +kernel
theorem dX6_well_60 : decode cX6_well 60 = .ok (.iload_n 3, 1) := by decide +kernel
theorem dX6_well_61 : decode cX6_well 61 = .ok (.iload 4, 2) := by decide +kernel
theorem dX6_well_63 : decode cX6_well 63 = .ok (.invokevirtual 79, 3) := by decide +kernel
theorem dX6_well_66 : decode cX6_well 66 = .ok (.aload_n 0, 1) := by decide +kernel
theorem dX6_well_67 : decode cX6_well 67 = .ok (.getfield 45, 3) := by decide +kernel
theorem dX6_well_70 : decode cX6_well 70 = .ok (.invokevirtual 83, 3) := by decide +kernel
theorem dX6_well_73 : decode cX6_well 73 = .ok (.istore 7, 2) := by decide +kernel
theorem dX6_well_75 : decode cX6_well 75 = .ok (.iload 7, 2) := by decide +kernel
theorem dX6_well_77 : decode cX6_well 77 = .ok (.iconst (-1), 1) := by decide +kernel
theorem dX6_well_78 : decode cX6_well 78 = .ok (.if_icmp .eq 9, 3) := by decide +kernel
theorem dX6_well_81 : decode cX6_well 81 = .ok (.bipush (-100), 2) := by decide +kernel
theorem dX6_well_83 : decode cX6_well 83 = .ok (.iload 7, 2) := by decide +kernel
theorem dX6_well_85 : decode cX6_well 85 = .ok (.isub, 1) := by decide +kernel
theorem dX6_well_86 : decode cX6_well 86 = .ok (.ireturn, 1) := by decide +kernel
theorem dX6_well_87 : decode cX6_well 87 = .ok (.aload_n 0, 1) := by decide +kernel
theorem dX6_well_88 : decode cX6_well 88 = .ok (.invokevirtual 87, 3) := by decide +kernel
theorem dX6_well_91 : decode cX6_well 91 = .ok (.aload_n 0, 1) := by decide +kernel
theorem dX6_well_92 : decode cX6_well 92 = .ok (.getfield 90, 3) := by decide +kernel
theorem dX6_well_95 : decode cX6_well 95 = .ok (.ireturn, 1) := by decide +kernel
set_option maxRecDepth 20000 in
theorem ggX6_ofThing_X6_thingAt : GoodIn wsX6_ofThing wsX6_thingAt := goodIn_r _ [10, 11, 12, 30, 31, 32, 33, 34, 35, 36, 37, 38, 39, 40, 41, 42] (by decide +kernel) (by decide +kernel)
set_option maxRecDepth 20000 in
theorem gX6_ofThing_X6_thingAt : GoodIn wsX6_ofThing (wsV RX6 93 RX6 yX6_thingAt wsX6_thingAt) := goodIn_app (goodIn_of _ (by decide +kernel)) ggX6_ofThing_X6_thingAt
set_option maxRecDepth 20000 in
theorem ggX6_ofThing_X6_delayOf : GoodIn wsX6_ofThing wsX6_delayOf := goodIn_r _ [16, 1, 17, 2, 18, 19, 9, 20, 21, 22, 23, 24, 25, 26, 27, 28, 29, 30, 31, 32, 33, 34, 35, 36, 37, 38, 39, 40, 41, 42] (by decide +kernel) (by decide +kernel)
set_option maxRecDepth 20000 in
theorem gX6_ofThing_X6_delayOf : GoodIn wsX6_ofThing (wsV RX6 112 RX6 yX6_delayOf wsX6_delayOf) := goodIn_app (goodIn_of _ (by decide +kernel)) ggX6_ofThing_X6_delayOf
theorem dX6_ofThing_0 : decode cX6_ofThing 0 = .ok (.aload_n 0, 1) := by decide +kernel
theorem dX6_ofThing_1 : decode cX6_ofThing 1 = .ok (.iload_n 1, 1) := by decide +kernel
theorem dX6_ofThing_2 : decode cX6_ofThing 2 = .ok (.invokevirtual 93, 3) := by decide +kernel
theorem dX6_ofThing_5 : decode cX6_ofThing 5 = .ok (.astore_n 3, 1) := by decide +kernel
theorem dX6_ofThing_6 : decode cX6_ofThing 6 = .ok (.aload_n 3, 1) := by decide +kernel
theorem dX6_ofThing_7 : decode cX6_ofThing 7 = .ok (.ifnonnull 5, 3) := by decide +kernel
theorem dX6_ofThing_10 : decode cX6_ofThing 10 = .ok (.iconst (-1), 1) := by decide +kernel
theorem dX6_ofThing_11 : decode cX6_ofThing 11 = .ok (.ireturn, 1) := by decide +kernel
theorem dX6_ofThing_12 : decode cX6_ofThing 12 = .ok (.iload_n 2, 1) := by decide +kernel
theorem dX6_ofThing_13 : decode cX6_ofThing 13 = .ok (.tableswitch 70 0 5 #[39, 44, 49, 54, 59, 64], 39) := by decide +kernel
theorem dX6_ofThing_52 : decode cX6_ofThing 52 = .ok (.aload_n 3, 1) := by decide +kernel
theorem dX6_ofThing_53 : decode cX6_ofThing 53 = .ok (.getfield 97, 3) := by decide +kernel
theorem dX6_ofThing_56 : decode cX6_ofThing 56 = .ok (.ireturn, 1) := by decide +kernel
theorem dX6_ofThing_57 : decode cX6_ofThing 57 = .ok (.aload_n 3, 1) := by decide +kernel
theorem dX6_ofThing_58 : decode cX6_ofThing 58 = .ok (.getfield 100, 3) := by decide +kernel
theorem dX6_ofThing_61 : decode cX6_ofThing 61 = .ok (.ireturn, 1) := by decide +kernel
theorem dX6_ofThing_62 : decode cX6_ofThing 62 = .ok (.aload_n 3, 1) := by decide +kernel
theorem dX6_ofThing_63 : decode cX6_ofThing 63 = .ok (.getfield 103, 3) := by decide +kernel
theorem dX6_ofThing_66 : decode cX6_ofThing 66 = .ok (.ireturn, 1) := by decide +kernel
theorem dX6_ofThing_67 : decode cX6_ofThing 67 = .ok (.aload_n 3, 1) := by decide +kernel
theorem dX6_ofThing_68 : decode cX6_ofThing 68 = .ok (.getfield 106, 3) := by decide +kernel
theorem dX6_ofThing_71 : decode cX6_ofThing 71 = .ok (.ireturn, 1) := by decide +kernel
theorem dX6_ofThing_72 : decode cX6_ofThing 72 = .ok (.aload_n 3, 1) := by decide +kernel
theorem dX6_ofThing_73 : decode cX6_ofThing 73 = .ok (.getfield 109, 3) := by decide +kernel
theorem dX6_ofThing_76 : decode cX6_ofThing 76 = .ok (.ireturn, 1) := by decide +kernel
theorem dX6_ofThing_77 : decode cX6_ofThing 77 = .ok (.aload_n 0, 1) := by decide +kernel
theorem dX6_ofThing_78 : decode cX6_ofThing 78 = .ok (.aload_n 3, 1) := by decide +kernel
theorem dX6_ofThing_79 : decode cX6_ofThing 79 = .ok (.invokevirtual 112, 3) := by decide +kernel
theorem dX6_ofThing_82 : decode cX6_ofThing 82 = .ok (.ireturn, 1) := by decide +kernel
theorem dX6_ofThing_83 : decode cX6_ofThing 83 = .ok (.bipush (-2), 2) := by decide +kernel
theorem dX6_ofThing_85 : decode cX6_ofThing 85 = .ok (.ireturn, 1) := by decide +kernel
set_option maxRecDepth 20000 in
theorem ggX6_draws_X6_hasWell : GoodIn wsX6_draws wsX6_hasWell := goodIn_r _ [6, 7, 18, 19, 20, 21, 22, 23, 24, 25, 26, 27, 28, 29, 30] (by decide +kernel) (by decide +kernel)
set_option maxRecDepth 20000 in
theorem gX6_draws_X6_hasWell : GoodIn wsX6_draws (wsV RX6 116 RX6 yX6_hasWell wsX6_hasWell) := goodIn_app (goodIn_of _ (by decide +kernel)) ggX6_draws_X6_hasWell
set_option maxRecDepth 20000 in
theorem ggX6_draws_X6_within : GoodIn wsX6_draws wsX6_within := goodIn_r _ [10] (by decide +kernel) (by decide +kernel)
set_option maxRecDepth 20000 in
theorem gX6_draws_X6_within : GoodIn wsX6_draws (va_wsS RX6 67 yX6_within wsX6_within) := goodIn_app (goodIn_of _ (by decide +kernel)) ggX6_draws_X6_within
set_option maxRecDepth 20000 in
theorem ggX6_draws_X1_drawerIn : GoodIn wsX6_draws wsX1_drawerIn := goodIn_r _ [15, 16, 17, 31, 32] (by decide +kernel) (by decide +kernel)
set_option maxRecDepth 20000 in
theorem gX6_draws_X1_drawerIn : GoodIn wsX6_draws (wsV RX6 120 RX1 yX1_drawerIn wsX1_drawerIn) := goodIn_app (goodIn_of _ (by decide +kernel)) ggX6_draws_X1_drawerIn
theorem dX6_draws_0 : decode cX6_draws 0 = .ok (.aload_n 0, 1) := by decide +kernel
theorem dX6_draws_1 : decode cX6_draws 1 = .ok (.invokevirtual 116, 3) := by decide +kernel
theorem dX6_draws_4 : decode cX6_draws 4 = .ok (.ifCond .ne 6, 3) := by decide +kernel
theorem dX6_draws_7 : decode cX6_draws 7 = .ok (.bipush (-3), 2) := by decide +kernel
theorem dX6_draws_9 : decode cX6_draws 9 = .ok (.ireturn, 1) := by decide +kernel
theorem dX6_draws_10 : decode cX6_draws 10 = .ok (.iload_n 1, 1) := by decide +kernel
theorem dX6_draws_11 : decode cX6_draws 11 = .ok (.iconst 0, 1) := by decide +kernel
theorem dX6_draws_12 : decode cX6_draws 12 = .ok (.bipush 99, 2) := by decide +kernel
theorem dX6_draws_14 : decode cX6_draws 14 = .ok (.invokestatic 67, 3) := by decide +kernel
theorem dX6_draws_17 : decode cX6_draws 17 = .ok (.ifCond .eq 14, 3) := by decide +kernel
theorem dX6_draws_20 : decode cX6_draws 20 = .ok (.aload_n 0, 1) := by decide +kernel
theorem dX6_draws_21 : decode cX6_draws 21 = .ok (.getfield 32, 3) := by decide +kernel
theorem dX6_draws_24 : decode cX6_draws 24 = .ok (.iload_n 1, 1) := by decide +kernel
theorem dX6_draws_25 : decode cX6_draws 25 = .ok (.invokevirtual 120, 3) := by decide +kernel
theorem dX6_draws_28 : decode cX6_draws 28 = .ok (.goto 5, 3) := by decide +kernel
theorem dX6_draws_31 : decode cX6_draws 31 = .ok (.bipush (-2), 2) := by decide +kernel
theorem dX6_draws_33 : decode cX6_draws 33 = .ok (.ireturn, 1) := by decide +kernel
set_option maxRecDepth 20000 in
theorem ggX6_weigh_X6_thingAt : GoodIn wsX6_weigh wsX6_thingAt := goodIn_r _ [6, 7, 8, 17, 18, 19, 20, 21, 22, 23, 24, 25, 26, 27, 28, 29] (by decide +kernel) (by decide +kernel)
set_option maxRecDepth 20000 in
theorem gX6_weigh_X6_thingAt : GoodIn wsX6_weigh (wsV RX6 93 RX6 yX6_thingAt wsX6_thingAt) := goodIn_app (goodIn_of _ (by decide +kernel)) ggX6_weigh_X6_thingAt
set_option maxRecDepth 20000 in
theorem ggX6_weigh_X6_within : GoodIn wsX6_weigh wsX6_within := goodIn_r _ [11] (by decide +kernel) (by decide +kernel)
set_option maxRecDepth 20000 in
theorem gX6_weigh_X6_within : GoodIn wsX6_weigh (va_wsS RX6 67 yX6_within wsX6_within) := goodIn_app (goodIn_of _ (by decide +kernel)) ggX6_weigh_X6_within
theorem dX6_weigh_0 : decode cX6_weigh 0 = .ok (.aload_n 0, 1) := by decide +kernel
theorem dX6_weigh_1 : decode cX6_weigh 1 = .ok (.iload_n 1, 1) := by decide +kernel
theorem dX6_weigh_2 : decode cX6_weigh 2 = .ok (.invokevirtual 93, 3) := by decide +kernel
theorem dX6_weigh_5 : decode cX6_weigh 5 = .ok (.astore_n 3, 1) := by decide +kernel
theorem dX6_weigh_6 : decode cX6_weigh 6 = .ok (.aload_n 3, 1) := by decide +kernel
theorem dX6_weigh_7 : decode cX6_weigh 7 = .ok (.ifnonnull 5, 3) := by decide +kernel
theorem dX6_weigh_10 : decode cX6_weigh 10 = .ok (.iconst (-1), 1) := by decide +kernel
theorem dX6_weigh_11 : decode cX6_weigh 11 = .ok (.ireturn, 1) := by decide +kernel
theorem dX6_weigh_12 : decode cX6_weigh 12 = .ok (.iload_n 2, 1) := by decide +kernel
theorem dX6_weigh_13 : decode cX6_weigh 13 = .ok (.iconst 0, 1) := by decide +kernel
theorem dX6_weigh_14 : decode cX6_weigh 14 = .ok (.bipush 9, 2) := by decide +kernel
theorem dX6_weigh_16 : decode cX6_weigh 16 = .ok (.invokestatic 67, 3) := by decide +kernel
theorem dX6_weigh_19 : decode cX6_weigh 19 = .ok (.ifCond .ne 6, 3) := by decide +kernel
theorem dX6_weigh_22 : decode cX6_weigh 22 = .ok (.bipush (-2), 2) := by decide +kernel
theorem dX6_weigh_24 : decode cX6_weigh 24 = .ok (.ireturn, 1) := by decide +kernel
theorem dX6_weigh_25 : decode cX6_weigh 25 = .ok (.aload_n 3, 1) := by decide +kernel
theorem dX6_weigh_26 : decode cX6_weigh 26 = .ok (.getfield 100, 3) := by decide +kernel
theorem dX6_weigh_29 : decode cX6_weigh 29 = .ok (.istore 4, 2) := by decide +kernel
theorem dX6_weigh_31 : decode cX6_weigh 31 = .ok (.aload_n 3, 1) := by decide +kernel
theorem dX6_weigh_32 : decode cX6_weigh 32 = .ok (.iload_n 2, 1) := by decide +kernel
theorem dX6_weigh_33 : decode cX6_weigh 33 = .ok (.putfield 100, 3) := by decide +kernel
theorem dX6_weigh_36 : decode cX6_weigh 36 = .ok (.iload 4, 2) := by decide +kernel
theorem dX6_weigh_38 : decode cX6_weigh 38 = .ok (.ireturn, 1) := by decide +kernel
set_option maxRecDepth 20000 in
theorem ggX6_dig_X6_within : GoodIn wsX6_dig wsX6_within := goodIn_r _ [5] (by decide +kernel) (by decide +kernel)
set_option maxRecDepth 20000 in
theorem gX6_dig_X6_within : GoodIn wsX6_dig (va_wsS RX6 67 yX6_within wsX6_within) := goodIn_app (goodIn_of _ (by decide +kernel)) ggX6_dig_X6_within
set_option maxRecDepth 20000 in
theorem ggX6_dig_X6_hasWell : GoodIn wsX6_dig wsX6_hasWell := goodIn_r _ [9, 10, 11, 12, 13, 14, 15, 16, 17, 18, 19, 20, 21, 22, 23] (by decide +kernel) (by decide +kernel)
set_option maxRecDepth 20000 in
theorem gX6_dig_X6_hasWell : GoodIn wsX6_dig (wsV RX6 116 RX6 yX6_hasWell wsX6_hasWell) := goodIn_app (goodIn_of _ (by decide +kernel)) ggX6_dig_X6_hasWell
theorem dX6_dig_0 : decode cX6_dig 0 = .ok (.iload_n 1, 1) := by decide +kernel
theorem dX6_dig_1 : decode cX6_dig 1 = .ok (.iconst 0, 1) := by decide +kernel
theorem dX6_dig_2 : decode cX6_dig 2 = .ok (.bipush 9, 2) := by decide +kernel
theorem dX6_dig_4 : decode cX6_dig 4 = .ok (.invokestatic 67, 3) := by decide +kernel
theorem dX6_dig_7 : decode cX6_dig 7 = .ok (.ifCond .ne 6, 3) := by decide +kernel
theorem dX6_dig_10 : decode cX6_dig 10 = .ok (.bipush (-2), 2) := by decide +kernel
theorem dX6_dig_12 : decode cX6_dig 12 = .ok (.ireturn, 1) := by decide +kernel
theorem dX6_dig_13 : decode cX6_dig 13 = .ok (.aload_n 0, 1) := by decide +kernel
theorem dX6_dig_14 : decode cX6_dig 14 = .ok (.invokevirtual 116, 3) := by decide +kernel
theorem dX6_dig_17 : decode cX6_dig 17 = .ok (.ifCond .ne 6, 3) := by decide +kernel
theorem dX6_dig_20 : decode cX6_dig 20 = .ok (.bipush (-3), 2) := by decide +kernel
theorem dX6_dig_22 : decode cX6_dig 22 = .ok (.ireturn, 1) := by decide +kernel
theorem dX6_dig_23 : decode cX6_dig 23 = .ok (.aload_n 0, 1) := by decide +kernel
theorem dX6_dig_24 : decode cX6_dig 24 = .ok (.getfield 123, 3) := by decide +kernel
theorem dX6_dig_27 : decode cX6_dig 27 = .ok (.istore_n 2, 1) := by decide +kernel
theorem dX6_dig_28 : decode cX6_dig 28 = .ok (.aload_n 0, 1) := by decide +kernel
theorem dX6_dig_29 : decode cX6_dig 29 = .ok (.iload_n 1, 1) := by decide +kernel
theorem dX6_dig_30 : decode cX6_dig 30 = .ok (.putfield 123, 3) := by decide +kernel
theorem dX6_dig_33 : decode cX6_dig 33 = .ok (.iload_n 2, 1) := by decide +kernel
theorem dX6_dig_34 : decode cX6_dig 34 = .ok (.ireturn, 1) := by decide +kernel
set_option maxRecDepth 20000 in
theorem ggX6_hire_X1_hasPlace : GoodIn wsX6_hire wsX1_hasPlace := goodIn_r _ [6, 7, 8, 38, 39] (by decide +kernel) (by decide +kernel)
set_option maxRecDepth 20000 in
theorem gX6_hire_X1_hasPlace : GoodIn wsX6_hire (wsV RX6 126 RX1 yX1_hasPlace wsX1_hasPlace) := goodIn_app (goodIn_of _ (by decide +kernel)) ggX6_hire_X1_hasPlace
set_option maxRecDepth 20000 in
theorem ggX6_hire_X6_isDrawer : GoodIn wsX6_hire wsX6_isDrawer := goodIn_r _ [12, 13, 14, 11, 15] (by decide +kernel) (by decide +kernel)
set_option maxRecDepth 20000 in
theorem gX6_hire_X6_isDrawer : GoodIn wsX6_hire (va_wsS RX6 130 yX6_isDrawer wsX6_isDrawer) := goodIn_app (goodIn_of _ (by decide +kernel)) ggX6_hire_X6_isDrawer
set_option maxRecDepth 20000 in
theorem ggX6_hire_X1_drawerIn : GoodIn wsX6_hire wsX1_drawerIn := goodIn_r _ [19, 7, 8, 38, 39] (by decide +kernel) (by decide +kernel)
set_option maxRecDepth 20000 in
theorem gX6_hire_X1_drawerIn : GoodIn wsX6_hire (wsV RX6 120 RX1 yX1_drawerIn wsX1_drawerIn) := goodIn_app (goodIn_of _ (by decide +kernel)) ggX6_hire_X1_drawerIn
set_option maxRecDepth 20000 in
theorem ggX6_hire_X1_setPlace : GoodIn wsX6_hire wsX1_setPlace := goodIn_r _ [23, 8, 24, 3, 4, 5, 6, 7, 38, 39] (by decide +kernel) (by decide +kernel)
set_option maxRecDepth 20000 in
theorem gX6_hire_X1_setPlace : GoodIn wsX6_hire (wsV RX6 133 RX1 yX1_setPlace wsX1_setPlace) := goodIn_app (goodIn_of _ (by decide +kernel)) ggX6_hire_X1_setPlace
theorem dX6_hire_0 : decode cX6_hire 0 = .ok (.aload_n 0, 1) := by decide +kernel
theorem dX6_hire_1 : decode cX6_hire 1 = .ok (.getfield 32, 3) := by decide +kernel
theorem dX6_hire_4 : decode cX6_hire 4 = .ok (.iload_n 1, 1) := by decide +kernel
theorem dX6_hire_5 : decode cX6_hire 5 = .ok (.invokevirtual 126, 3) := by decide +kernel
theorem dX6_hire_8 : decode cX6_hire 8 = .ok (.ifCond .eq 10, 3) := by decide +kernel
theorem dX6_hire_11 : decode cX6_hire 11 = .ok (.iload_n 2, 1) := by decide +kernel
theorem dX6_hire_12 : decode cX6_hire 12 = .ok (.invokestatic 130, 3) := by decide +kernel
theorem dX6_hire_15 : decode cX6_hire 15 = .ok (.ifCond .ne 5, 3) := by decide +kernel
theorem dX6_hire_18 : decode cX6_hire 18 = .ok (.iconst (-1), 1) := by decide +kernel
theorem dX6_hire_19 : decode cX6_hire 19 = .ok (.ireturn, 1) := by decide +kernel
theorem dX6_hire_20 : decode cX6_hire 20 = .ok (.aload_n 0, 1) := by decide +kernel
theorem dX6_hire_21 : decode cX6_hire 21 = .ok (.getfield 32, 3) := by decide +kernel
theorem dX6_hire_24 : decode cX6_hire 24 = .ok (.iload_n 1, 1) := by decide +kernel
theorem dX6_hire_25 : decode cX6_hire 25 = .ok (.invokevirtual 120, 3) := by decide +kernel
theorem dX6_hire_28 : decode cX6_hire 28 = .ok (.istore_n 3, 1) := by decide +kernel
theorem dX6_hire_29 : decode cX6_hire 29 = .ok (.aload_n 0, 1) := by decide +kernel
theorem dX6_hire_30 : decode cX6_hire 30 = .ok (.getfield 32, 3) := by decide +kernel
theorem dX6_hire_33 : decode cX6_hire 33 = .ok (.iload_n 1, 1) := by decide +kernel
theorem dX6_hire_34 : decode cX6_hire 34 = .ok (.iload_n 2, 1) := by decide +kernel
theorem dX6_hire_35 : decode cX6_hire 35 = .ok (.invokevirtual 133, 3) := by decide +kernel
theorem dX6_hire_38 : decode cX6_hire 38 = .ok (.iload_n 3, 1) := by decide +kernel
theorem dX6_hire_39 : decode cX6_hire 39 = .ok (.ireturn, 1) := by decide +kernel
set_option maxRecDepth 20000 in
theorem ggX6_drop_X6_thingAt : GoodIn wsX6_drop wsX6_thingAt := goodIn_r _ [6, 7, 8, 41, 42, 43, 44, 45, 46, 47, 48, 49, 50, 51, 52, 53] (by decide +kernel) (by decide +kernel)
set_option maxRecDepth 20000 in
theorem gX6_drop_X6_thingAt : GoodIn wsX6_drop (wsV RX6 93 RX6 yX6_thingAt wsX6_thingAt) := goodIn_app (goodIn_of _ (by decide +kernel)) ggX6_drop_X6_thingAt
set_option maxRecDepth 20000 in
theorem ggX6_drop_X6_isDrawer : GoodIn wsX6_drop wsX6_isDrawer := goodIn_r _ [11, 12, 13, 5, 14] (by decide +kernel) (by decide +kernel)
set_option maxRecDepth 20000 in
theorem gX6_drop_X6_isDrawer : GoodIn wsX6_drop (va_wsS RX6 130 yX6_isDrawer wsX6_isDrawer) := goodIn_app (goodIn_of _ (by decide +kernel)) ggX6_drop_X6_isDrawer
set_option maxRecDepth 20000 in
theorem ggX6_drop_X6_within : GoodIn wsX6_drop wsX6_within := goodIn_r _ [14] (by decide +kernel) (by decide +kernel)
set_option maxRecDepth 20000 in
theorem gX6_drop_X6_within : GoodIn wsX6_drop (va_wsS RX6 67 yX6_within wsX6_within) := goodIn_app (goodIn_of _ (by decide +kernel)) ggX6_drop_X6_within
set_option maxRecDepth 20000 in
theorem ggX6_drop_X6_delayOf : GoodIn wsX6_drop wsX6_delayOf := goodIn_r _ [18, 19, 20, 21, 22, 23, 5, 24, 25, 26, 27, 28, 54, 55, 56, 57, 58, 41, 42, 43, 44, 45, 46, 47, 48, 49, 50, 51, 52, 53] (by decide +kernel) (by decide +kernel)
set_option maxRecDepth 20000 in
theorem gX6_drop_X6_delayOf : GoodIn wsX6_drop (wsV RX6 112 RX6 yX6_delayOf wsX6_delayOf) := goodIn_app (goodIn_of _ (by decide +kernel)) ggX6_drop_X6_delayOf
set_option maxRecDepth 20000 in
theorem ggX6_drop_X1_comingsTillAnother : GoodIn wsX6_drop wsX1_comingsTillAnother := goodIn_r _ [33, 34, 35, 36, 37, 32, 38, 39, 59, 60] (by decide +kernel) (by decide +kernel)
set_option maxRecDepth 20000 in
theorem gX6_drop_X1_comingsTillAnother : GoodIn wsX6_drop (wsV RX6 137 RX1 yX1_comingsTillAnother wsX1_comingsTillAnother) := goodIn_app (goodIn_of _ (by decide +kernel)) ggX6_drop_X1_comingsTillAnother
set_option maxRecDepth 20000 in
theorem ggX6_drop_X1_drawerIn : GoodIn wsX6_drop wsX1_drawerIn := goodIn_r _ [38, 34, 39, 59, 60] (by decide +kernel) (by decide +kernel)
set_option maxRecDepth 20000 in
theorem gX6_drop_X1_drawerIn : GoodIn wsX6_drop (wsV RX6 120 RX1 yX1_drawerIn wsX1_drawerIn) := goodIn_app (goodIn_of _ (by decide +kernel)) ggX6_drop_X1_drawerIn
theorem dX6_drop_0 : decode cX6_drop 0 = .ok (.aload_n 0, 1) := by decide +kernel
theorem dX6_drop_1 : decode cX6_drop 1 = .ok (.iload_n 1, 1) := by decide +kernel
theorem dX6_drop_2 : decode cX6_drop 2 = .ok (.invokevirtual 93, 3) := by decide +kernel
theorem dX6_drop_5 : decode cX6_drop 5 = .ok (.astore 5, 2) := by decide +kernel
theorem dX6_drop_7 : decode cX6_drop 7 = .ok (.aload 5, 2) := by decide +kernel
theorem dX6_drop_9 : decode cX6_drop 9 = .ok (.ifnull 10, 3) := by decide +kernel
theorem dX6_drop_12 : decode cX6_drop 12 = .ok (.iload_n 2, 1) := by decide +kernel
theorem dX6_drop_13 : decode cX6_drop 13 = .ok (.invokestatic 130, 3) := by decide +kernel
theorem dX6_drop_16 : decode cX6_drop 16 = .ok (.ifCond .ne 5, 3) := by decide +kernel
theorem dX6_drop_19 : decode cX6_drop 19 = .ok (.iconst (-1), 1) := by decide +kernel
theorem dX6_drop_20 : decode cX6_drop 20 = .ok (.ireturn, 1) := by decide +kernel
theorem dX6_drop_21 : decode cX6_drop 21 = .ok (.iload_n 3, 1) := by decide +kernel
theorem dX6_drop_22 : decode cX6_drop 22 = .ok (.iconst 0, 1) := by decide +kernel
theorem dX6_drop_23 : decode cX6_drop 23 = .ok (.bipush 99, 2) := by decide +kernel
theorem dX6_drop_25 : decode cX6_drop 25 = .ok (.invokestatic 67, 3) := by decide +kernel
theorem dX6_drop_28 : decode cX6_drop 28 = .ok (.ifCond .eq 13, 3) := by decide +kernel
theorem dX6_drop_31 : decode cX6_drop 31 = .ok (.iload 4, 2) := by decide +kernel
theorem dX6_drop_33 : decode cX6_drop 33 = .ok (.iconst 0, 1) := by decide +kernel
theorem dX6_drop_34 : decode cX6_drop 34 = .ok (.iconst 2, 1) := by decide +kernel
theorem dX6_drop_35 : decode cX6_drop 35 = .ok (.invokestatic 67, 3) := by decide +kernel
theorem dX6_drop_38 : decode cX6_drop 38 = .ok (.ifCond .ne 6, 3) := by decide +kernel
theorem dX6_drop_41 : decode cX6_drop 41 = .ok (.bipush (-2), 2) := by decide +kernel
theorem dX6_drop_43 : decode cX6_drop 43 = .ok (.ireturn, 1) := by decide +kernel
theorem dX6_drop_44 : decode cX6_drop 44 = .ok (.aload_n 0, 1) := by decide +kernel
theorem dX6_drop_45 : decode cX6_drop 45 = .ok (.aload 5, 2) := by decide +kernel
theorem dX6_drop_47 : decode cX6_drop 47 = .ok (.invokevirtual 112, 3) := by decide +kernel
theorem dX6_drop_50 : decode cX6_drop 50 = .ok (.istore 6, 2) := by decide +kernel
theorem dX6_drop_52 : decode cX6_drop 52 = .ok (.aload_n 0, 1) := by decide +kernel
theorem dX6_drop_53 : decode cX6_drop 53 = .ok (.getfield 32, 3) := by decide +kernel
theorem dX6_drop_56 : decode cX6_drop 56 = .ok (.iload_n 2, 1) := by decide +kernel
theorem dX6_drop_57 : decode cX6_drop 57 = .ok (.iload_n 3, 1) := by decide +kernel
theorem dX6_drop_58 : decode cX6_drop 58 = .ok (.iload 6, 2) := by decide +kernel
theorem dX6_drop_60 : decode cX6_drop 60 = .ok (.invokevirtual 137, 3) := by decide +kernel
theorem dX6_drop_63 : decode cX6_drop 63 = .ok (.istore 7, 2) := by decide +kernel
theorem dX6_drop_65 : decode cX6_drop 65 = .ok (.iload 7, 2) := by decide +kernel
theorem dX6_drop_67 : decode cX6_drop 67 = .ok (.ifCond .ne 6, 3) := by decide +kernel
theorem dX6_drop_70 : decode cX6_drop 70 = .ok (.bipush (-9), 2) := by decide +kernel
theorem dX6_drop_72 : decode cX6_drop 72 = .ok (.ireturn, 1) := by decide +kernel
theorem dX6_drop_73 : decode cX6_drop 73 = .ok (.iload_n 3, 1) := by decide +kernel
theorem dX6_drop_74 : decode cX6_drop 74 = .ok (.iload 7, 2) := by decide +kernel
theorem dX6_drop_76 : decode cX6_drop 76 = .ok (.iload 6, 2) := by decide +kernel
theorem dX6_drop_78 : decode cX6_drop 78 = .ok (.imul, 1) := by decide +kernel
theorem dX6_drop_79 : decode cX6_drop 79 = .ok (.iadd, 1) := by decide +kernel
theorem dX6_drop_80 : decode cX6_drop 80 = .ok (.istore 8, 2) := by decide +kernel
theorem dX6_drop_82 : decode cX6_drop 82 = .ok (.iload 4, 2) := by decide +kernel
theorem dX6_drop_84 : decode cX6_drop 84 = .ok (.ifCond .ne 13, 3) := by decide +kernel
theorem dX6_drop_87 : decode cX6_drop 87 = .ok (.aload_n 0, 1) := by decide +kernel
theorem dX6_drop_88 : decode cX6_drop 88 = .ok (.getfield 32, 3) := by decide +kernel
theorem dX6_drop_91 : decode cX6_drop 91 = .ok (.iload 8, 2) := by decide +kernel
theorem dX6_drop_93 : decode cX6_drop 93 = .ok (.invokevirtual 120, 3) := by decide +kernel
theorem dX6_drop_96 : decode cX6_drop 96 = .ok (.ireturn, 1) := by decide +kernel
theorem dX6_drop_97 : decode cX6_drop 97 = .ok (.iload 4, 2) := by decide +kernel
theorem dX6_drop_99 : decode cX6_drop 99 = .ok (.iconst 1, 1) := by decide +kernel
theorem dX6_drop_100 : decode cX6_drop 100 = .ok (.if_icmp .ne 8, 3) := by decide +kernel
theorem dX6_drop_103 : decode cX6_drop 103 = .ok (.iload 8, 2) := by decide +kernel
theorem dX6_drop_105 : decode cX6_drop 105 = .ok (.goto 5, 3) := by decide +kernel
theorem dX6_drop_108 : decode cX6_drop 108 = .ok (.iload 7, 2) := by decide +kernel
theorem dX6_drop_110 : decode cX6_drop 110 = .ok (.ireturn, 1) := by decide +kernel
set_option maxRecDepth 20000 in
theorem ggX6_hands_X6_thingAt : GoodIn wsX6_hands wsX6_thingAt := goodIn_r _ [8, 9, 10, 53, 54, 55, 56, 57, 58, 59, 60, 61, 62, 63, 64, 65] (by decide +kernel) (by decide +kernel)
set_option maxRecDepth 20000 in
theorem gX6_hands_X6_thingAt : GoodIn wsX6_hands (wsV RX6 93 RX6 yX6_thingAt wsX6_thingAt) := goodIn_app (goodIn_of _ (by decide +kernel)) ggX6_hands_X6_thingAt
set_option maxRecDepth 20000 in
theorem ggX6_hands_X6_within : GoodIn wsX6_hands wsX6_within := goodIn_r _ [13] (by decide +kernel) (by decide +kernel)
set_option maxRecDepth 20000 in
theorem gX6_hands_X6_within : GoodIn wsX6_hands (va_wsS RX6 67 yX6_within wsX6_within) := goodIn_app (goodIn_of _ (by decide +kernel)) ggX6_hands_X6_within
set_option maxRecDepth 20000 in
theorem ggX6_hands_X6_delayOf : GoodIn wsX6_hands wsX6_delayOf := goodIn_r _ [17, 18, 19, 20, 21, 22, 7, 23, 24, 25, 26, 27, 68, 69, 70, 71, 72, 53, 54, 55, 56, 57, 58, 59, 60, 61, 62, 63, 64, 65] (by decide +kernel) (by decide +kernel)
set_option maxRecDepth 20000 in
theorem gX6_hands_X6_delayOf : GoodIn wsX6_hands (wsV RX6 112 RX6 yX6_delayOf wsX6_delayOf) := goodIn_app (goodIn_of _ (by decide +kernel)) ggX6_hands_X6_delayOf
set_option maxRecDepth 20000 in
theorem ggX6_hands_X5_begin : GoodIn wsX6_hands wsX5_begin := goodIn_r _ [32, 33, 34, 35, 36, 68, 69, 70, 71, 72, 66, 67] (by decide +kernel) (by decide +kernel)
set_option maxRecDepth 20000 in
theorem gX6_hands_X5_begin : GoodIn wsX6_hands (wsV RX6 140 RX5 yX5_begin wsX5_begin) := goodIn_app (goodIn_of _ (by decide +kernel)) ggX6_hands_X5_begin
set_option maxRecDepth 20000 in
theorem ggX6_hands_X5_goOn : GoodIn wsX6_hands wsX5_goOn := goodIn_r _ [40, 34, 36, 41, 42, 43, 44, 45, 46, 47, 48, 49, 50, 51, 52, 66, 67, 73, 74] (by decide +kernel) (by decide +kernel)
set_option maxRecDepth 20000 in
theorem gX6_hands_X5_goOn : GoodIn wsX6_hands (wsV RX6 144 RX5 yX5_goOn wsX5_goOn) := goodIn_app (goodIn_of _ (by decide +kernel)) ggX6_hands_X5_goOn
theorem dX6_hands_0 : decode cX6_hands 0 = .ok (.aload_n 0, 1) := by decide +kernel
theorem dX6_hands_1 : decode cX6_hands 1 = .ok (.iload_n 1, 1) := by decide +kernel
theorem dX6_hands_2 : decode cX6_hands 2 = .ok (.invokevirtual 93, 3) := by decide +kernel
theorem dX6_hands_5 : decode cX6_hands 5 = .ok (.astore_n 3, 1) := by decide +kernel
theorem dX6_hands_6 : decode cX6_hands 6 = .ok (.aload_n 3, 1) := by decide +kernel
theorem dX6_hands_7 : decode cX6_hands 7 = .ok (.ifnonnull 5, 3) := by decide +kernel
theorem dX6_hands_10 : decode cX6_hands 10 = .ok (.iconst (-1), 1) := by decide +kernel
theorem dX6_hands_11 : decode cX6_hands 11 = .ok (.ireturn, 1) := by decide +kernel
theorem dX6_hands_12 : decode cX6_hands 12 = .ok (.iload_n 2, 1) := by decide +kernel
theorem dX6_hands_13 : decode cX6_hands 13 = .ok (.iconst 0, 1) := by decide +kernel
theorem dX6_hands_14 : decode cX6_hands 14 = .ok (.bipush 30, 2) := by decide +kernel
theorem dX6_hands_16 : decode cX6_hands 16 = .ok (.invokestatic 67, 3) := by decide +kernel
theorem dX6_hands_19 : decode cX6_hands 19 = .ok (.ifCond .ne 6, 3) := by decide +kernel
theorem dX6_hands_22 : decode cX6_hands 22 = .ok (.bipush (-2), 2) := by decide +kernel
theorem dX6_hands_24 : decode cX6_hands 24 = .ok (.ireturn, 1) := by decide +kernel
theorem dX6_hands_25 : decode cX6_hands 25 = .ok (.aload_n 0, 1) := by decide +kernel
theorem dX6_hands_26 : decode cX6_hands 26 = .ok (.aload_n 3, 1) := by decide +kernel
theorem dX6_hands_27 : decode cX6_hands 27 = .ok (.invokevirtual 112, 3) := by decide +kernel
theorem dX6_hands_30 : decode cX6_hands 30 = .ok (.istore 4, 2) := by decide +kernel
theorem dX6_hands_32 : decode cX6_hands 32 = .ok (.aload_n 0, 1) := by decide +kernel
theorem dX6_hands_33 : decode cX6_hands 33 = .ok (.getfield 52, 3) := by decide +kernel
theorem dX6_hands_36 : decode cX6_hands 36 = .ok (.aload_n 3, 1) := by decide +kernel
theorem dX6_hands_37 : decode cX6_hands 37 = .ok (.invokevirtual 140, 3) := by decide +kernel
theorem dX6_hands_40 : decode cX6_hands 40 = .ok (.iconst 1, 1) := by decide +kernel
theorem dX6_hands_41 : decode cX6_hands 41 = .ok (.istore 5, 2) := by decide +kernel
theorem dX6_hands_43 : decode cX6_hands 43 = .ok (.iload 5, 2) := by decide +kernel
theorem dX6_hands_45 : decode cX6_hands 45 = .ok (.iload_n 2, 1) := by decide +kernel
theorem dX6_hands_46 : decode cX6_hands 46 = .ok (.if_icmp .gt 28, 3) := by decide +kernel
theorem dX6_hands_49 : decode cX6_hands 49 = .ok (.aload_n 0, 1) := by decide +kernel
theorem dX6_hands_50 : decode cX6_hands 50 = .ok (.getfield 52, 3) := by decide +kernel
theorem dX6_hands_53 : decode cX6_hands 53 = .ok (.aload_n 0, 1) := by decide +kernel
theorem dX6_hands_54 : decode cX6_hands 54 = .ok (.getfield 32, 3) := by decide +kernel
theorem dX6_hands_57 : decode cX6_hands 57 = .ok (.iload 4, 2) := by decide +kernel
theorem dX6_hands_59 : decode cX6_hands 59 = .ok (.invokevirtual 144, 3) := by decide +kernel
theorem dX6_hands_62 : decode cX6_hands 62 = .ok (.ifCond .ne 6, 3) := by decide +kernel
theorem dX6_hands_65 : decode cX6_hands 65 = .ok (.bipush (-9), 2) := by decide +kernel
theorem dX6_hands_67 : decode cX6_hands 67 = .ok (.ireturn, 1) := by decide +kernel
theorem dX6_hands_68 : decode cX6_hands 68 = .ok (.iinc 5 1, 3) := by decide +kernel
theorem dX6_hands_71 : decode cX6_hands 71 = .ok (.goto (-28), 3) := by decide +kernel
theorem dX6_hands_74 : decode cX6_hands 74 = .ok (.aload_n 0, 1) := by decide +kernel
theorem dX6_hands_75 : decode cX6_hands 75 = .ok (.getfield 52, 3) := by decide +kernel
theorem dX6_hands_78 : decode cX6_hands 78 = .ok (.getfield 148, 3) := by decide +kernel
theorem dX6_hands_81 : decode cX6_hands 81 = .ok (.ireturn, 1) := by decide +kernel
set_option maxRecDepth 20000 in
theorem ggX6_home_X6_thingAt : GoodIn wsX6_home wsX6_thingAt := goodIn_r _ [9, 10, 11, 51, 52, 53, 54, 55, 56, 57, 58, 59, 60, 61, 62, 63] (by decide +kernel) (by decide +kernel)
set_option maxRecDepth 20000 in
theorem gX6_home_X6_thingAt : GoodIn wsX6_home (wsV RX6 93 RX6 yX6_thingAt wsX6_thingAt) := goodIn_app (goodIn_of _ (by decide +kernel)) ggX6_home_X6_thingAt
set_option maxRecDepth 20000 in
theorem ggX6_home_X6_delayOf : GoodIn wsX6_home wsX6_delayOf := goodIn_r _ [15, 16, 17, 18, 19, 20, 8, 21, 22, 23, 24, 25, 66, 67, 68, 69, 70, 51, 52, 53, 54, 55, 56, 57, 58, 59, 60, 61, 62, 63] (by decide +kernel) (by decide +kernel)
set_option maxRecDepth 20000 in
theorem gX6_home_X6_delayOf : GoodIn wsX6_home (wsV RX6 112 RX6 yX6_delayOf wsX6_delayOf) := goodIn_app (goodIn_of _ (by decide +kernel)) ggX6_home_X6_delayOf
set_option maxRecDepth 20000 in
theorem ggX6_home_X5_begin : GoodIn wsX6_home wsX5_begin := goodIn_r _ [30, 31, 32, 33, 34, 66, 67, 68, 69, 70, 64, 65] (by decide +kernel) (by decide +kernel)
set_option maxRecDepth 20000 in
theorem gX6_home_X5_begin : GoodIn wsX6_home (wsV RX6 140 RX5 yX5_begin wsX5_begin) := goodIn_app (goodIn_of _ (by decide +kernel)) ggX6_home_X5_begin
set_option maxRecDepth 20000 in
theorem ggX6_home_X5_goOn : GoodIn wsX6_home wsX5_goOn := goodIn_r _ [38, 32, 34, 39, 40, 41, 42, 43, 44, 45, 46, 47, 48, 49, 50, 64, 65, 71, 72] (by decide +kernel) (by decide +kernel)
set_option maxRecDepth 20000 in
theorem gX6_home_X5_goOn : GoodIn wsX6_home (wsV RX6 144 RX5 yX5_goOn wsX5_goOn) := goodIn_app (goodIn_of _ (by decide +kernel)) ggX6_home_X5_goOn
theorem dX6_home_0 : decode cX6_home 0 = .ok (.aload_n 0, 1) := by decide +kernel
theorem dX6_home_1 : decode cX6_home 1 = .ok (.iload_n 1, 1) := by decide +kernel
theorem dX6_home_2 : decode cX6_home 2 = .ok (.invokevirtual 93, 3) := by decide +kernel
theorem dX6_home_5 : decode cX6_home 5 = .ok (.astore_n 2, 1) := by decide +kernel
theorem dX6_home_6 : decode cX6_home 6 = .ok (.aload_n 2, 1) := by decide +kernel
theorem dX6_home_7 : decode cX6_home 7 = .ok (.ifnonnull 5, 3) := by decide +kernel
theorem dX6_home_10 : decode cX6_home 10 = .ok (.iconst (-1), 1) := by decide +kernel
theorem dX6_home_11 : decode cX6_home 11 = .ok (.ireturn, 1) := by decide +kernel
theorem dX6_home_12 : decode cX6_home 12 = .ok (.aload_n 0, 1) := by decide +kernel
theorem dX6_home_13 : decode cX6_home 13 = .ok (.aload_n 2, 1) := by decide +kernel
theorem dX6_home_14 : decode cX6_home 14 = .ok (.invokevirtual 112, 3) := by decide +kernel
theorem dX6_home_17 : decode cX6_home 17 = .ok (.istore_n 3, 1) := by decide +kernel
theorem dX6_home_18 : decode cX6_home 18 = .ok (.aload_n 0, 1) := by decide +kernel
theorem dX6_home_19 : decode cX6_home 19 = .ok (.getfield 52, 3) := by decide +kernel
theorem dX6_home_22 : decode cX6_home 22 = .ok (.aload_n 2, 1) := by decide +kernel
theorem dX6_home_23 : decode cX6_home 23 = .ok (.invokevirtual 140, 3) := by decide +kernel
theorem dX6_home_26 : decode cX6_home 26 = .ok (.iconst 1, 1) := by decide +kernel
theorem dX6_home_27 : decode cX6_home 27 = .ok (.istore 4, 2) := by decide +kernel
theorem dX6_home_29 : decode cX6_home 29 = .ok (.iload 4, 2) := by decide +kernel
theorem dX6_home_31 : decode cX6_home 31 = .ok (.bipush 30, 2) := by decide +kernel
theorem dX6_home_33 : decode cX6_home 33 = .ok (.if_icmp .gt 44, 3) := by decide +kernel
theorem dX6_home_36 : decode cX6_home 36 = .ok (.aload_n 0, 1) := by decide +kernel
theorem dX6_home_37 : decode cX6_home 37 = .ok (.getfield 52, 3) := by decide +kernel
theorem dX6_home_40 : decode cX6_home 40 = .ok (.aload_n 0, 1) := by decide +kernel
theorem dX6_home_41 : decode cX6_home 41 = .ok (.getfield 32, 3) := by decide +kernel
theorem dX6_home_44 : decode cX6_home 44 = .ok (.iload_n 3, 1) := by decide +kernel
theorem dX6_home_45 : decode cX6_home 45 = .ok (.invokevirtual 144, 3) := by decide +kernel
theorem dX6_home_48 : decode cX6_home 48 = .ok (.ifCond .ne 6, 3) := by decide +kernel
theorem dX6_home_51 : decode cX6_home 51 = .ok (.bipush (-9), 2) := by decide +kernel
theorem dX6_home_53 : decode cX6_home 53 = .ok (.ireturn, 1) := by decide +kernel
theorem dX6_home_54 : decode cX6_home 54 = .ok (.aload_n 0, 1) := by decide +kernel
theorem dX6_home_55 : decode cX6_home 55 = .ok (.getfield 52, 3) := by decide +kernel
theorem dX6_home_58 : decode cX6_home 58 = .ok (.getfield 148, 3) := by decide +kernel
theorem dX6_home_61 : decode cX6_home 61 = .ok (.aload_n 2, 1) := by decide +kernel
theorem dX6_home_62 : decode cX6_home 62 = .ok (.getfield 103, 3) := by decide +kernel
theorem dX6_home_65 : decode cX6_home 65 = .ok (.if_icmp .ne 6, 3) := by decide +kernel
theorem dX6_home_68 : decode cX6_home 68 = .ok (.iload 4, 2) := by decide +kernel
theorem dX6_home_70 : decode cX6_home 70 = .ok (.ireturn, 1) := by decide +kernel
theorem dX6_home_71 : decode cX6_home 71 = .ok (.iinc 4 1, 3) := by decide +kernel
theorem dX6_home_74 : decode cX6_home 74 = .ok (.goto (-45), 3) := by decide +kernel
theorem dX6_home_77 : decode cX6_home 77 = .ok (.bipush (-9), 2) := by decide +kernel
theorem dX6_home_79 : decode cX6_home 79 = .ok (.ireturn, 1) := by decide +kernel
set_option maxRecDepth 20000 in
theorem ggX6_meets_X6_thingAt : GoodIn wsX6_meets wsX6_thingAt := goodIn_r _ [8, 9, 10, 50, 51, 52, 53, 54, 55, 56, 57, 58, 59, 60, 61, 62] (by decide +kernel) (by decide +kernel)
set_option maxRecDepth 20000 in
theorem gX6_meets_X6_thingAt : GoodIn wsX6_meets (wsV RX6 93 RX6 yX6_thingAt wsX6_thingAt) := goodIn_app (goodIn_of _ (by decide +kernel)) ggX6_meets_X6_thingAt
set_option maxRecDepth 20000 in
theorem ggX6_meets_X6_delayOf : GoodIn wsX6_meets wsX6_delayOf := goodIn_r _ [14, 15, 16, 17, 18, 19, 7, 20, 21, 22, 23, 24, 65, 66, 67, 68, 69, 50, 51, 52, 53, 54, 55, 56, 57, 58, 59, 60, 61, 62] (by decide +kernel) (by decide +kernel)
set_option maxRecDepth 20000 in
theorem gX6_meets_X6_delayOf : GoodIn wsX6_meets (wsV RX6 112 RX6 yX6_delayOf wsX6_delayOf) := goodIn_app (goodIn_of _ (by decide +kernel)) ggX6_meets_X6_delayOf
set_option maxRecDepth 20000 in
theorem ggX6_meets_X5_begin : GoodIn wsX6_meets wsX5_begin := goodIn_r _ [29, 30, 31, 32, 33, 65, 66, 67, 68, 69, 63, 64] (by decide +kernel) (by decide +kernel)
set_option maxRecDepth 20000 in
theorem gX6_meets_X5_begin : GoodIn wsX6_meets (wsV RX6 140 RX5 yX5_begin wsX5_begin) := goodIn_app (goodIn_of _ (by decide +kernel)) ggX6_meets_X5_begin
set_option maxRecDepth 20000 in
theorem ggX6_meets_X5_goOn : GoodIn wsX6_meets wsX5_goOn := goodIn_r _ [37, 31, 33, 38, 39, 40, 41, 42, 43, 44, 45, 46, 47, 48, 49, 63, 64, 70, 71] (by decide +kernel) (by decide +kernel)
set_option maxRecDepth 20000 in
theorem gX6_meets_X5_goOn : GoodIn wsX6_meets (wsV RX6 144 RX5 yX5_goOn wsX5_goOn) := goodIn_app (goodIn_of _ (by decide +kernel)) ggX6_meets_X5_goOn
theorem dX6_meets_0 : decode cX6_meets 0 = .ok (.aload_n 0, 1) := by decide +kernel
theorem dX6_meets_1 : decode cX6_meets 1 = .ok (.iload_n 1, 1) := by decide +kernel
theorem dX6_meets_2 : decode cX6_meets 2 = .ok (.invokevirtual 93, 3) := by decide +kernel
theorem dX6_meets_5 : decode cX6_meets 5 = .ok (.astore_n 2, 1) := by decide +kernel
theorem dX6_meets_6 : decode cX6_meets 6 = .ok (.aload_n 2, 1) := by decide +kernel
theorem dX6_meets_7 : decode cX6_meets 7 = .ok (.ifnonnull 5, 3) := by decide +kernel
theorem dX6_meets_10 : decode cX6_meets 10 = .ok (.iconst (-1), 1) := by decide +kernel
theorem dX6_meets_11 : decode cX6_meets 11 = .ok (.ireturn, 1) := by decide +kernel
theorem dX6_meets_12 : decode cX6_meets 12 = .ok (.aload_n 0, 1) := by decide +kernel
theorem dX6_meets_13 : decode cX6_meets 13 = .ok (.aload_n 2, 1) := by decide +kernel
theorem dX6_meets_14 : decode cX6_meets 14 = .ok (.invokevirtual 112, 3) := by decide +kernel
theorem dX6_meets_17 : decode cX6_meets 17 = .ok (.istore_n 3, 1) := by decide +kernel
theorem dX6_meets_18 : decode cX6_meets 18 = .ok (.aload_n 0, 1) := by decide +kernel
theorem dX6_meets_19 : decode cX6_meets 19 = .ok (.getfield 52, 3) := by decide +kernel
theorem dX6_meets_22 : decode cX6_meets 22 = .ok (.aload_n 2, 1) := by decide +kernel
theorem dX6_meets_23 : decode cX6_meets 23 = .ok (.invokevirtual 140, 3) := by decide +kernel
theorem dX6_meets_26 : decode cX6_meets 26 = .ok (.iconst 1, 1) := by decide +kernel
theorem dX6_meets_27 : decode cX6_meets 27 = .ok (.aload_n 0, 1) := by decide +kernel
theorem dX6_meets_28 : decode cX6_meets 28 = .ok (.getfield 52, 3) := by decide +kernel
theorem dX6_meets_31 : decode cX6_meets 31 = .ok (.getfield 148, 3) := by decide +kernel
theorem dX6_meets_34 : decode cX6_meets 34 = .ok (.ishl, 1) := by decide +kernel
theorem dX6_meets_35 : decode cX6_meets 35 = .ok (.istore 4, 2) := by decide +kernel
theorem dX6_meets_37 : decode cX6_meets 37 = .ok (.iconst 1, 1) := by decide +kernel
theorem dX6_meets_38 : decode cX6_meets 38 = .ok (.istore 5, 2) := by decide +kernel
theorem dX6_meets_40 : decode cX6_meets 40 = .ok (.iload 5, 2) := by decide +kernel
theorem dX6_meets_42 : decode cX6_meets 42 = .ok (.bipush 30, 2) := by decide +kernel
theorem dX6_meets_44 : decode cX6_meets 44 = .ok (.if_icmp .gt 41, 3) := by decide +kernel
theorem dX6_meets_47 : decode cX6_meets 47 = .ok (.aload_n 0, 1) := by decide +kernel
theorem dX6_meets_48 : decode cX6_meets 48 = .ok (.getfield 52, 3) := by decide +kernel
theorem dX6_meets_51 : decode cX6_meets 51 = .ok (.aload_n 0, 1) := by decide +kernel
theorem dX6_meets_52 : decode cX6_meets 52 = .ok (.getfield 32, 3) := by decide +kernel
theorem dX6_meets_55 : decode cX6_meets 55 = .ok (.iload_n 3, 1) := by decide +kernel
theorem dX6_meets_56 : decode cX6_meets 56 = .ok (.invokevirtual 144, 3) := by decide +kernel
theorem dX6_meets_59 : decode cX6_meets 59 = .ok (.ifCond .ne 6, 3) := by decide +kernel
theorem dX6_meets_62 : decode cX6_meets 62 = .ok (.iload 4, 2) := by decide +kernel
theorem dX6_meets_64 : decode cX6_meets 64 = .ok (.ireturn, 1) := by decide +kernel
theorem dX6_meets_65 : decode cX6_meets 65 = .ok (.iload 4, 2) := by decide +kernel
theorem dX6_meets_67 : decode cX6_meets 67 = .ok (.iconst 1, 1) := by decide +kernel
theorem dX6_meets_68 : decode cX6_meets 68 = .ok (.aload_n 0, 1) := by decide +kernel
theorem dX6_meets_69 : decode cX6_meets 69 = .ok (.getfield 52, 3) := by decide +kernel
theorem dX6_meets_72 : decode cX6_meets 72 = .ok (.getfield 148, 3) := by decide +kernel
theorem dX6_meets_75 : decode cX6_meets 75 = .ok (.ishl, 1) := by decide +kernel
theorem dX6_meets_76 : decode cX6_meets 76 = .ok (.ior, 1) := by decide +kernel
theorem dX6_meets_77 : decode cX6_meets 77 = .ok (.istore 4, 2) := by decide +kernel
theorem dX6_meets_79 : decode cX6_meets 79 = .ok (.iinc 5 1, 3) := by decide +kernel
theorem dX6_meets_82 : decode cX6_meets 82 = .ok (.goto (-42), 3) := by decide +kernel
theorem dX6_meets_85 : decode cX6_meets 85 = .ok (.iload 4, 2) := by decide +kernel
theorem dX6_meets_87 : decode cX6_meets 87 = .ok (.ireturn, 1) := by decide +kernel
set_option maxRecDepth 20000 in
theorem ggX6_hours_X6_sheetAt : GoodIn wsX6_hours wsX6_sheetAt := goodIn_r _ [7, 8, 114, 115, 116, 117, 118, 119, 120, 121, 122, 123, 124, 125, 126] (by decide +kernel) (by decide +kernel)
set_option maxRecDepth 20000 in
theorem gX6_hours_X6_sheetAt : GoodIn wsX6_hours (wsV RX6 63 RX6 yX6_sheetAt wsX6_sheetAt) := goodIn_app (goodIn_of _ (by decide +kernel)) ggX6_hours_X6_sheetAt
set_option maxRecDepth 20000 in
theorem ggX6_hours_X6_within : GoodIn wsX6_hours wsX6_within := goodIn_r _ [11] (by decide +kernel) (by decide +kernel)
set_option maxRecDepth 20000 in
theorem gX6_hours_X6_within : GoodIn wsX6_hours (va_wsS RX6 67 yX6_within wsX6_within) := goodIn_app (goodIn_of _ (by decide +kernel)) ggX6_hours_X6_within
set_option maxRecDepth 20000 in
theorem ggX6_hours_X6_asksOfHours : GoodIn wsX6_hours wsX6_asksOfHours := goodIn_r _ [14, 9, 10, 6, 11] (by decide +kernel) (by decide +kernel)
set_option maxRecDepth 20000 in
theorem gX6_hours_X6_asksOfHours : GoodIn wsX6_hours (va_wsS RX6 151 yX6_asksOfHours wsX6_asksOfHours) := goodIn_app (goodIn_of _ (by decide +kernel)) ggX6_hours_X6_asksOfHours
set_option maxRecDepth 20000 in
theorem ggX6_hours_X2_faultOfCells : GoodIn wsX6_hours wsX2_faultOfCells := goodIn_r _ [19, 20, 21, 22, 18, 23, 24, 25, 26, 27, 28, 29, 30, 31, 32, 33, 34, 127, 128, 129] (by decide +kernel) (by decide +kernel)
set_option maxRecDepth 20000 in
theorem gX6_hours_X2_faultOfCells : GoodIn wsX6_hours (wsV RX6 71 RX2 yX2_faultOfCells wsX2_faultOfCells) := goodIn_app (goodIn_of _ (by decide +kernel)) ggX6_hours_X2_faultOfCells
set_option maxRecDepth 20000 in
theorem ggX6_hours_X6_faulted : GoodIn wsX6_hours wsX6_faulted := goodIn_r _ [38, 1, 114, 115, 116, 117, 118, 119, 120, 121, 122, 123, 124, 125, 126] (by decide +kernel) (by decide +kernel)
set_option maxRecDepth 20000 in
theorem gX6_hours_X6_faulted : GoodIn wsX6_hours (wsV RX6 75 RX6 yX6_faulted wsX6_faulted) := goodIn_app (goodIn_of _ (by decide +kernel)) ggX6_hours_X6_faulted
set_option maxRecDepth 20000 in
theorem ggX6_hours_X6_hasWell : GoodIn wsX6_hours wsX6_hasWell := goodIn_r _ [42, 2, 114, 115, 116, 117, 118, 119, 120, 121, 122, 123, 124, 125, 126] (by decide +kernel) (by decide +kernel)
set_option maxRecDepth 20000 in
theorem gX6_hours_X6_hasWell : GoodIn wsX6_hours (wsV RX6 116 RX6 yX6_hasWell wsX6_hasWell) := goodIn_app (goodIn_of _ (by decide +kernel)) ggX6_hours_X6_hasWell
set_option maxRecDepth 20000 in
theorem ggX6_hours_X2_holdsHours : GoodIn wsX6_hours wsX2_holdsHours := goodIn_r _ [46, 47, 48, 49, 18, 50, 34, 51, 52, 53, 54, 33, 10, 6, 11, 127, 128, 129] (by decide +kernel) (by decide +kernel)
set_option maxRecDepth 20000 in
theorem gX6_hours_X2_holdsHours : GoodIn wsX6_hours (wsV RX6 154 RX2 yX2_holdsHours wsX2_holdsHours) := goodIn_app (goodIn_of _ (by decide +kernel)) ggX6_hours_X2_holdsHours
set_option maxRecDepth 20000 in
theorem ggX6_hours_X6_rightOnesTold : GoodIn wsX6_hours wsX6_rightOnesTold := goodIn_r _ [58, 2, 59, 60, 61, 62, 6, 63, 64, 65, 48, 49, 18, 50, 34, 51, 52, 53, 54, 33, 66, 67, 68, 69, 70, 71, 72, 73, 74, 75, 76, 77, 78, 79, 80, 81, 82, 83, 84, 85, 86, 87, 88, 89, 90, 91, 92, 93, 94, 95, 96, 97, 98, 99, 100, 114, 115, 116, 117, 118, 119, 120, 121, 122, 123, 124, 125, 126, 127, 128, 129, 130, 131, 132, 133, 134, 135, 136] (by decide +kernel) (by decide +kernel)
set_option maxRecDepth 20000 in
theorem gX6_hours_X6_rightOnesTold : GoodIn wsX6_hours (wsV RX6 158 RX6 yX6_rightOnesTold wsX6_rightOnesTold) := goodIn_app (goodIn_of _ (by decide +kernel)) ggX6_hours_X6_rightOnesTold
set_option maxRecDepth 20000 in
theorem ggX6_hours_X6_latestDrawTold : GoodIn wsX6_hours wsX6_latestDrawTold := goodIn_r _ [104, 2, 59, 70, 82, 83, 84, 85, 60, 61, 62, 6, 63, 64, 65, 48, 49, 18, 50, 34, 51, 52, 53, 54, 33, 72, 73, 74, 75, 76, 77, 78, 79, 80, 81, 105, 92, 93, 89, 94, 95, 96, 97, 98, 99, 100, 114, 115, 116, 117, 118, 119, 120, 121, 122, 123, 124, 125, 126, 130, 131, 132, 133, 134, 127, 128, 129, 135, 136] (by decide +kernel) (by decide +kernel)
set_option maxRecDepth 20000 in
theorem gX6_hours_X6_latestDrawTold : GoodIn wsX6_hours (wsV RX6 162 RX6 yX6_latestDrawTold wsX6_latestDrawTold) := goodIn_app (goodIn_of _ (by decide +kernel)) ggX6_hours_X6_latestDrawTold
set_option maxRecDepth 20000 in
theorem ggX6_hours_X6_busiestDrawerTold : GoodIn wsX6_hours wsX6_busiestDrawerTold := goodIn_r _ [109, 2, 110, 111, 112, 6, 113, 59, 70, 60, 61, 62, 63, 64, 65, 48, 49, 18, 50, 34, 51, 52, 53, 54, 33, 72, 73, 74, 75, 76, 77, 78, 79, 80, 81, 82, 83, 84, 85, 86, 87, 88, 89, 90, 91, 92, 93, 94, 95, 96, 97, 98, 99, 100, 114, 115, 116, 117, 118, 119, 120, 121, 122, 123, 124, 125, 126, 130, 131, 132, 133, 134, 127, 128, 129, 135, 136] (by decide +kernel) (by decide +kernel)
set_option maxRecDepth 20000 in
theorem gX6_hours_X6_busiestDrawerTold : GoodIn wsX6_hours (wsV RX6 165 RX6 yX6_busiestDrawerTold wsX6_busiestDrawerTold) := goodIn_app (goodIn_of _ (by decide +kernel)) ggX6_hours_X6_busiestDrawerTold
set_option maxRecDepth 20000 in
theorem ggX6_hours_X6_drawerTold : GoodIn wsX6_hours wsX6_drawerTold := goodIn_r _ [113, 59, 70, 60, 61, 62, 6, 63, 2, 64, 65, 48, 49, 18, 50, 34, 51, 52, 53, 54, 33, 72, 73, 74, 75, 76, 77, 78, 79, 80, 81, 82, 83, 84, 85, 86, 87, 88, 89, 90, 91, 92, 93, 94, 95, 96, 97, 98, 99, 100, 114, 115, 116, 117, 118, 119, 120, 121, 122, 123, 124, 125, 126, 130, 131, 132, 133, 134, 127, 128, 129, 135, 136] (by decide +kernel) (by decide +kernel)
set_option maxRecDepth 20000 in
theorem gX6_hours_X6_drawerTold : GoodIn wsX6_hours (wsV RX6 168 RX6 yX6_drawerTold wsX6_drawerTold) := goodIn_app (goodIn_of _ (by decide +kernel)) ggX6_hours_X6_drawerTold
theorem dX6_hours_0 : decode cX6_hours 0 = .ok (.aload_n 0, 1) := by decide +kernel
theorem dX6_hours_1 : decode cX6_hours 1 = .ok (.iconst 0, 1) := by decide +kernel
theorem dX6_hours_2 : decode cX6_hours 2 = .ok (.putfield 59, 3) := by decide +kernel
theorem dX6_hours_5 : decode cX6_hours 5 = .ok (.aload_n 0, 1) := by decide +kernel
theorem dX6_hours_6 : decode cX6_hours 6 = .ok (.iload_n 1, 1) := by decide +kernel
theorem dX6_hours_7 : decode cX6_hours 7 = .ok (.invokevirtual 63, 3) := by decide +kernel
theorem dX6_hours_10 : decode cX6_hours 10 = .ok (.astore 6, 2) := by decide +kernel
theorem dX6_hours_12 : decode cX6_hours 12 = .ok (.aload 6, 2) := by decide +kernel
theorem dX6_hours_14 : decode cX6_hours 14 = .ok (.ifnonnull 5, 3) := by decide +kernel
theorem dX6_hours_17 : decode cX6_hours 17 = .ok (.iconst (-1), 1) := by decide +kernel
theorem dX6_hours_18 : decode cX6_hours 18 = .ok (.ireturn, 1) := by decide +kernel
theorem dX6_hours_19 : decode cX6_hours 19 = .ok (.iload_n 2, 1) := by decide +kernel
theorem dX6_hours_20 : decode cX6_hours 20 = .ok (.iconst 0, 1) := by decide +kernel
theorem dX6_hours_21 : decode cX6_hours 21 = .ok (.iconst 2, 1) := by decide +kernel
theorem dX6_hours_22 : decode cX6_hours 22 = .ok (.invokestatic 67, 3) := by decide +kernel
theorem dX6_hours_25 : decode cX6_hours 25 = .ok (.ifCond .eq 11, 3) := by decide +kernel
theorem dX6_hours_28 : decode cX6_hours 28 = .ok (.iload 5, 2) := by decide +kernel
theorem dX6_hours_30 : decode cX6_hours 30 = .ok (.invokestatic 151, 3) := by decide +kernel
theorem dX6_hours_33 : decode cX6_hours 33 = .ok (.ifCond .ne 6, 3) := by decide +kernel
theorem dX6_hours_36 : decode cX6_hours 36 = .ok (.bipush (-2), 2) := by decide +kernel
theorem dX6_hours_38 : decode cX6_hours 38 = .ok (.ireturn, 1) := by decide +kernel
theorem dX6_hours_39 : decode cX6_hours 39 = .ok (.aload 6, 2) := by decide +kernel
theorem dX6_hours_41 : decode cX6_hours 41 = .ok (.iload_n 2, 1) := by decide +kernel
theorem dX6_hours_42 : decode cX6_hours 42 = .ok (.iload_n 3, 1) := by decide +kernel
theorem dX6_hours_43 : decode cX6_hours 43 = .ok (.iload 4, 2) := by decide +kernel
theorem dX6_hours_45 : decode cX6_hours 45 = .ok (.invokevirtual 71, 3) := by decide +kernel
theorem dX6_hours_48 : decode cX6_hours 48 = .ok (.istore 7, 2) := by decide +kernel
theorem dX6_hours_50 : decode cX6_hours 50 = .ok (.iload 7, 2) := by decide +kernel
theorem dX6_hours_52 : decode cX6_hours 52 = .ok (.ifCond .eq 10, 3) := by decide +kernel
theorem dX6_hours_55 : decode cX6_hours 55 = .ok (.aload_n 0, 1) := by decide +kernel
theorem dX6_hours_56 : decode cX6_hours 56 = .ok (.iload 7, 2) := by decide +kernel
theorem dX6_hours_58 : decode cX6_hours 58 = .ok (.invokevirtual 75, 3) := by decide +kernel
theorem dX6_hours_61 : decode cX6_hours 61 = .ok (.ireturn, 1) := by decide +kernel
theorem dX6_hours_62 : decode cX6_hours 62 = .ok (.aload_n 0, 1) := by decide +kernel
theorem dX6_hours_63 : decode cX6_hours 63 = .ok (.invokevirtual 116, 3) := by decide +kernel
theorem dX6_hours_66 : decode cX6_hours 66 = .ok (.ifCond .ne 6, 3) := by decide +kernel
theorem dX6_hours_69 : decode cX6_hours 69 = .ok (.bipush (-3), 2) := by decide +kernel
theorem dX6_hours_71 : decode cX6_hours 71 = .ok (.ireturn, 1) := by decide +kernel
theorem dX6_hours_72 : decode cX6_hours 72 = .ok (.iload 4, 2) := by decide +kernel
theorem dX6_hours_74 : decode cX6_hours 74 = .ok (.aload_n 0, 1) := by decide +kernel
theorem dX6_hours_75 : decode cX6_hours 75 = .ok (.getfield 90, 3) := by decide +kernel
theorem dX6_hours_78 : decode cX6_hours 78 = .ok (.if_icmp .ne 14, 3) := by decide +kernel
theorem dX6_hours_81 : decode cX6_hours 81 = .ok (.aload 6, 2) := by decide +kernel
theorem dX6_hours_83 : decode cX6_hours 83 = .ok (.iload_n 3, 1) := by decide +kernel
theorem dX6_hours_84 : decode cX6_hours 84 = .ok (.iload 4, 2) := by decide +kernel
theorem dX6_hours_86 : decode cX6_hours 86 = .ok (.invokevirtual 154, 3) := by decide +kernel
theorem dX6_hours_89 : decode cX6_hours 89 = .ok (.ifCond .ne 6, 3) := by decide +kernel
theorem dX6_hours_92 : decode cX6_hours 92 = .ok (.bipush (-2), 2) := by decide +kernel
theorem dX6_hours_94 : decode cX6_hours 94 = .ok (.ireturn, 1) := by decide +kernel
theorem dX6_hours_95 : decode cX6_hours 95 = .ok (.iload 5, 2) := by decide +kernel
theorem dX6_hours_97 : decode cX6_hours 97 = .ok (.tableswitch 51 0 2 #[27, 35, 43], 27) := by decide +kernel
theorem dX6_hours_124 : decode cX6_hours 124 = .ok (.aload_n 0, 1) := by decide +kernel
theorem dX6_hours_125 : decode cX6_hours 125 = .ok (.aload 6, 2) := by decide +kernel
theorem dX6_hours_127 : decode cX6_hours 127 = .ok (.iload_n 3, 1) := by decide +kernel
theorem dX6_hours_128 : decode cX6_hours 128 = .ok (.invokevirtual 158, 3) := by decide +kernel
theorem dX6_hours_131 : decode cX6_hours 131 = .ok (.ireturn, 1) := by decide +kernel
theorem dX6_hours_132 : decode cX6_hours 132 = .ok (.aload_n 0, 1) := by decide +kernel
theorem dX6_hours_133 : decode cX6_hours 133 = .ok (.aload 6, 2) := by decide +kernel
theorem dX6_hours_135 : decode cX6_hours 135 = .ok (.iload_n 3, 1) := by decide +kernel
theorem dX6_hours_136 : decode cX6_hours 136 = .ok (.invokevirtual 162, 3) := by decide +kernel
theorem dX6_hours_139 : decode cX6_hours 139 = .ok (.ireturn, 1) := by decide +kernel
theorem dX6_hours_140 : decode cX6_hours 140 = .ok (.aload_n 0, 1) := by decide +kernel
theorem dX6_hours_141 : decode cX6_hours 141 = .ok (.aload 6, 2) := by decide +kernel
theorem dX6_hours_143 : decode cX6_hours 143 = .ok (.iload_n 3, 1) := by decide +kernel
theorem dX6_hours_144 : decode cX6_hours 144 = .ok (.invokevirtual 165, 3) := by decide +kernel
theorem dX6_hours_147 : decode cX6_hours 147 = .ok (.ireturn, 1) := by decide +kernel
theorem dX6_hours_148 : decode cX6_hours 148 = .ok (.aload_n 0, 1) := by decide +kernel
theorem dX6_hours_149 : decode cX6_hours 149 = .ok (.aload 6, 2) := by decide +kernel
theorem dX6_hours_151 : decode cX6_hours 151 = .ok (.iload_n 3, 1) := by decide +kernel
theorem dX6_hours_152 : decode cX6_hours 152 = .ok (.iload 5, 2) := by decide +kernel
theorem dX6_hours_154 : decode cX6_hours 154 = .ok (.bipush 10, 2) := by decide +kernel
theorem dX6_hours_156 : decode cX6_hours 156 = .ok (.isub, 1) := by decide +kernel
theorem dX6_hours_157 : decode cX6_hours 157 = .ok (.invokevirtual 168, 3) := by decide +kernel
theorem dX6_hours_160 : decode cX6_hours 160 = .ok (.ireturn, 1) := by decide +kernel
set_option maxRecDepth 20000 in
theorem ggX6_when_X6_thingAt : GoodIn wsX6_when wsX6_thingAt := goodIn_r _ [7, 8, 9, 45, 46, 47, 48, 49, 50, 51, 52, 53, 54, 55, 56, 57] (by decide +kernel) (by decide +kernel)
set_option maxRecDepth 20000 in
theorem gX6_when_X6_thingAt : GoodIn wsX6_when (wsV RX6 93 RX6 yX6_thingAt wsX6_thingAt) := goodIn_app (goodIn_of _ (by decide +kernel)) ggX6_when_X6_thingAt
set_option maxRecDepth 20000 in
theorem ggX6_when_X6_isDrawer : GoodIn wsX6_when wsX6_isDrawer := goodIn_r _ [12, 13, 14, 6, 15] (by decide +kernel) (by decide +kernel)
set_option maxRecDepth 20000 in
theorem gX6_when_X6_isDrawer : GoodIn wsX6_when (va_wsS RX6 130 yX6_isDrawer wsX6_isDrawer) := goodIn_app (goodIn_of _ (by decide +kernel)) ggX6_when_X6_isDrawer
set_option maxRecDepth 20000 in
theorem ggX6_when_X6_delayOf : GoodIn wsX6_when wsX6_delayOf := goodIn_r _ [19, 20, 21, 22, 23, 24, 6, 25, 26, 27, 28, 29, 58, 59, 60, 61, 62, 45, 46, 47, 48, 49, 50, 51, 52, 53, 54, 55, 56, 57] (by decide +kernel) (by decide +kernel)
set_option maxRecDepth 20000 in
theorem gX6_when_X6_delayOf : GoodIn wsX6_when (wsV RX6 112 RX6 yX6_delayOf wsX6_delayOf) := goodIn_app (goodIn_of _ (by decide +kernel)) ggX6_when_X6_delayOf
set_option maxRecDepth 20000 in
theorem ggX6_when_X1_otherDrawer : GoodIn wsX6_when wsX1_otherDrawer := goodIn_r _ [34, 35, 36, 37, 33, 38, 39, 40, 41, 42, 43, 44, 63, 64] (by decide +kernel) (by decide +kernel)
set_option maxRecDepth 20000 in
theorem gX6_when_X1_otherDrawer : GoodIn wsX6_when (wsV RX6 172 RX1 yX1_otherDrawer wsX1_otherDrawer) := goodIn_app (goodIn_of _ (by decide +kernel)) ggX6_when_X1_otherDrawer
theorem dX6_when_0 : decode cX6_when 0 = .ok (.aload_n 0, 1) := by decide +kernel
theorem dX6_when_1 : decode cX6_when 1 = .ok (.iload_n 1, 1) := by decide +kernel
theorem dX6_when_2 : decode cX6_when 2 = .ok (.invokevirtual 93, 3) := by decide +kernel
theorem dX6_when_5 : decode cX6_when 5 = .ok (.astore_n 3, 1) := by decide +kernel
theorem dX6_when_6 : decode cX6_when 6 = .ok (.aload_n 3, 1) := by decide +kernel
theorem dX6_when_7 : decode cX6_when 7 = .ok (.ifnull 10, 3) := by decide +kernel
theorem dX6_when_10 : decode cX6_when 10 = .ok (.iload_n 2, 1) := by decide +kernel
theorem dX6_when_11 : decode cX6_when 11 = .ok (.invokestatic 130, 3) := by decide +kernel
theorem dX6_when_14 : decode cX6_when 14 = .ok (.ifCond .ne 5, 3) := by decide +kernel
theorem dX6_when_17 : decode cX6_when 17 = .ok (.iconst (-1), 1) := by decide +kernel
theorem dX6_when_18 : decode cX6_when 18 = .ok (.ireturn, 1) := by decide +kernel
theorem dX6_when_19 : decode cX6_when 19 = .ok (.aload_n 0, 1) := by decide +kernel
theorem dX6_when_20 : decode cX6_when 20 = .ok (.aload_n 3, 1) := by decide +kernel
theorem dX6_when_21 : decode cX6_when 21 = .ok (.invokevirtual 112, 3) := by decide +kernel
theorem dX6_when_24 : decode cX6_when 24 = .ok (.istore 4, 2) := by decide +kernel
theorem dX6_when_26 : decode cX6_when 26 = .ok (.iconst 0, 1) := by decide +kernel
theorem dX6_when_27 : decode cX6_when 27 = .ok (.istore 5, 2) := by decide +kernel
theorem dX6_when_29 : decode cX6_when 29 = .ok (.iload 5, 2) := by decide +kernel
theorem dX6_when_31 : decode cX6_when 31 = .ok (.bipush 23, 2) := by decide +kernel
theorem dX6_when_33 : decode cX6_when 33 = .ok (.if_icmp .gt 31, 3) := by decide +kernel
theorem dX6_when_36 : decode cX6_when 36 = .ok (.aload_n 0, 1) := by decide +kernel
theorem dX6_when_37 : decode cX6_when 37 = .ok (.getfield 32, 3) := by decide +kernel
theorem dX6_when_40 : decode cX6_when 40 = .ok (.aload_n 3, 1) := by decide +kernel
theorem dX6_when_41 : decode cX6_when 41 = .ok (.getfield 103, 3) := by decide +kernel
theorem dX6_when_44 : decode cX6_when 44 = .ok (.iload 5, 2) := by decide +kernel
theorem dX6_when_46 : decode cX6_when 46 = .ok (.iload 4, 2) := by decide +kernel
theorem dX6_when_48 : decode cX6_when 48 = .ok (.invokevirtual 172, 3) := by decide +kernel
theorem dX6_when_51 : decode cX6_when 51 = .ok (.iload_n 2, 1) := by decide +kernel
theorem dX6_when_52 : decode cX6_when 52 = .ok (.if_icmp .ne 6, 3) := by decide +kernel
theorem dX6_when_55 : decode cX6_when 55 = .ok (.iload 5, 2) := by decide +kernel
theorem dX6_when_57 : decode cX6_when 57 = .ok (.ireturn, 1) := by decide +kernel
theorem dX6_when_58 : decode cX6_when 58 = .ok (.iinc 5 1, 3) := by decide +kernel
theorem dX6_when_61 : decode cX6_when 61 = .ok (.goto (-32), 3) := by decide +kernel
theorem dX6_when_64 : decode cX6_when 64 = .ok (.bipush (-9), 2) := by decide +kernel
theorem dX6_when_66 : decode cX6_when 66 = .ok (.ireturn, 1) := by decide +kernel
set_option maxRecDepth 20000 in
theorem ggX6_best_X6_hasWell : GoodIn wsX6_best wsX6_hasWell := goodIn_r _ [8, 9, 88, 89, 90, 91, 92, 93, 94, 95, 96, 97, 98, 99, 100] (by decide +kernel) (by decide +kernel)
set_option maxRecDepth 20000 in
theorem gX6_best_X6_hasWell : GoodIn wsX6_best (wsV RX6 116 RX6 yX6_hasWell wsX6_hasWell) := goodIn_app (goodIn_of _ (by decide +kernel)) ggX6_best_X6_hasWell
set_option maxRecDepth 20000 in
theorem ggX6_best_X6_within : GoodIn wsX6_best wsX6_within := goodIn_r _ [12] (by decide +kernel) (by decide +kernel)
set_option maxRecDepth 20000 in
theorem gX6_best_X6_within : GoodIn wsX6_best (va_wsS RX6 67 yX6_within wsX6_within) := goodIn_app (goodIn_of _ (by decide +kernel)) ggX6_best_X6_within
set_option maxRecDepth 20000 in
theorem ggX6_best_X6_findBestRota : GoodIn wsX6_best wsX6_findBestRota := goodIn_r _ [16, 17, 1, 3, 9, 18, 19, 20, 21, 22, 23, 24, 25, 26, 27, 28, 29, 30, 31, 32, 33, 34, 35, 36, 37, 38, 39, 40, 41, 42, 43, 44, 45, 46, 47, 7, 48, 49, 50, 51, 52, 53, 54, 55, 56, 57, 58, 59, 60, 61, 62, 63, 64, 65, 66, 67, 68, 69, 70, 71, 72, 73, 74, 75, 76, 77, 78, 79, 80, 81, 82, 83, 84, 85, 86, 88, 89, 90, 91, 92, 93, 94, 95, 96, 97, 98, 99, 100, 101, 102, 103, 104, 105, 106, 107] (by decide +kernel) (by decide +kernel)
set_option maxRecDepth 20000 in
theorem gX6_best_X6_findBestRota : GoodIn wsX6_best (wsV RX6 178 RX6 yX6_findBestRota wsX6_findBestRota) := goodIn_app (goodIn_of _ (by decide +kernel)) ggX6_best_X6_findBestRota
set_option maxRecDepth 20000 in
theorem ggX6_best_X1_drawerIn : GoodIn wsX6_best wsX1_drawerIn := goodIn_r _ [27, 23, 28, 101, 102] (by decide +kernel) (by decide +kernel)
set_option maxRecDepth 20000 in
theorem gX6_best_X1_drawerIn : GoodIn wsX6_best (wsV RX6 120 RX1 yX1_drawerIn wsX1_drawerIn) := goodIn_app (goodIn_of _ (by decide +kernel)) ggX6_best_X1_drawerIn
theorem dX6_best_0 : decode cX6_best 0 = .ok (.aload_n 0, 1) := by decide +kernel
theorem dX6_best_1 : decode cX6_best 1 = .ok (.invokevirtual 116, 3) := by decide +kernel
theorem dX6_best_4 : decode cX6_best 4 = .ok (.ifCond .ne 6, 3) := by decide +kernel
theorem dX6_best_7 : decode cX6_best 7 = .ok (.bipush (-3), 2) := by decide +kernel
theorem dX6_best_9 : decode cX6_best 9 = .ok (.ireturn, 1) := by decide +kernel
theorem dX6_best_10 : decode cX6_best 10 = .ok (.iload_n 1, 1) := by decide +kernel
theorem dX6_best_11 : decode cX6_best 11 = .ok (.iconst (-1), 1) := by decide +kernel
theorem dX6_best_12 : decode cX6_best 12 = .ok (.iconst 5, 1) := by decide +kernel
theorem dX6_best_13 : decode cX6_best 13 = .ok (.invokestatic 67, 3) := by decide +kernel
theorem dX6_best_16 : decode cX6_best 16 = .ok (.ifCond .ne 6, 3) := by decide +kernel
theorem dX6_best_19 : decode cX6_best 19 = .ok (.bipush (-2), 2) := by decide +kernel
theorem dX6_best_21 : decode cX6_best 21 = .ok (.ireturn, 1) := by decide +kernel
theorem dX6_best_22 : decode cX6_best 22 = .ok (.iload_n 1, 1) := by decide +kernel
theorem dX6_best_23 : decode cX6_best 23 = .ok (.aload_n 0, 1) := by decide +kernel
theorem dX6_best_24 : decode cX6_best 24 = .ok (.getfield 32, 3) := by decide +kernel
theorem dX6_best_27 : decode cX6_best 27 = .ok (.getfield 175, 3) := by decide +kernel
theorem dX6_best_30 : decode cX6_best 30 = .ok (.if_icmp .lt 6, 3) := by decide +kernel
theorem dX6_best_33 : decode cX6_best 33 = .ok (.bipush (-9), 2) := by decide +kernel
theorem dX6_best_35 : decode cX6_best 35 = .ok (.ireturn, 1) := by decide +kernel
theorem dX6_best_36 : decode cX6_best 36 = .ok (.aload_n 0, 1) := by decide +kernel
theorem dX6_best_37 : decode cX6_best 37 = .ok (.invokevirtual 178, 3) := by decide +kernel
theorem dX6_best_40 : decode cX6_best 40 = .ok (.istore_n 2, 1) := by decide +kernel
theorem dX6_best_41 : decode cX6_best 41 = .ok (.iload_n 1, 1) := by decide +kernel
theorem dX6_best_42 : decode cX6_best 42 = .ok (.iconst (-1), 1) := by decide +kernel
theorem dX6_best_43 : decode cX6_best 43 = .ok (.if_icmp .ne 7, 3) := by decide +kernel
theorem dX6_best_46 : decode cX6_best 46 = .ok (.iload_n 2, 1) := by decide +kernel
theorem dX6_best_47 : decode cX6_best 47 = .ok (.goto 11, 3) := by decide +kernel
theorem dX6_best_50 : decode cX6_best 50 = .ok (.aload_n 0, 1) := by decide +kernel
theorem dX6_best_51 : decode cX6_best 51 = .ok (.getfield 39, 3) := by decide +kernel
theorem dX6_best_54 : decode cX6_best 54 = .ok (.iload_n 1, 1) := by decide +kernel
theorem dX6_best_55 : decode cX6_best 55 = .ok (.invokevirtual 120, 3) := by decide +kernel
theorem dX6_best_58 : decode cX6_best 58 = .ok (.ireturn, 1) := by decide +kernel
set_option maxRecDepth 20000 in
theorem ggX6_reading_X6_thingAt : GoodIn wsX6_reading wsX6_thingAt := goodIn_r _ [9, 10, 11, 23, 24, 25, 26, 27, 28, 29, 30, 31, 32, 33, 34, 35] (by decide +kernel) (by decide +kernel)
set_option maxRecDepth 20000 in
theorem gX6_reading_X6_thingAt : GoodIn wsX6_reading (wsV RX6 93 RX6 yX6_thingAt wsX6_thingAt) := goodIn_app (goodIn_of _ (by decide +kernel)) ggX6_reading_X6_thingAt
set_option maxRecDepth 20000 in
theorem ggX6_reading_X6_isDrawer : GoodIn wsX6_reading wsX6_isDrawer := goodIn_r _ [14, 15, 16, 8, 17] (by decide +kernel) (by decide +kernel)
set_option maxRecDepth 20000 in
theorem gX6_reading_X6_isDrawer : GoodIn wsX6_reading (va_wsS RX6 130 yX6_isDrawer wsX6_isDrawer) := goodIn_app (goodIn_of _ (by decide +kernel)) ggX6_reading_X6_isDrawer
set_option maxRecDepth 20000 in
theorem ggX6_reading_X6_within : GoodIn wsX6_reading wsX6_within := goodIn_r _ [17] (by decide +kernel) (by decide +kernel)
set_option maxRecDepth 20000 in
theorem gX6_reading_X6_within : GoodIn wsX6_reading (va_wsS RX6 67 yX6_within wsX6_within) := goodIn_app (goodIn_of _ (by decide +kernel)) ggX6_reading_X6_within
set_option maxRecDepth 20000 in
theorem ggX6_reading_X6_readingAt : GoodIn wsX6_reading wsX6_readingAt := goodIn_r _ [21, 22, 23, 24, 25, 26, 27, 28, 29, 30, 31, 32, 33, 34, 35] (by decide +kernel) (by decide +kernel)
set_option maxRecDepth 20000 in
theorem gX6_reading_X6_readingAt : GoodIn wsX6_reading (wsV RX6 184 RX6 yX6_readingAt wsX6_readingAt) := goodIn_app (goodIn_of _ (by decide +kernel)) ggX6_reading_X6_readingAt
theorem dX6_reading_0 : decode cX6_reading 0 = .ok (.aload_n 0, 1) := by decide +kernel
theorem dX6_reading_1 : decode cX6_reading 1 = .ok (.iload_n 1, 1) := by decide +kernel
theorem dX6_reading_2 : decode cX6_reading 2 = .ok (.invokevirtual 93, 3) := by decide +kernel
theorem dX6_reading_5 : decode cX6_reading 5 = .ok (.ifnull 16, 3) := by decide +kernel
theorem dX6_reading_8 : decode cX6_reading 8 = .ok (.iload_n 3, 1) := by decide +kernel
theorem dX6_reading_9 : decode cX6_reading 9 = .ok (.invokestatic 130, 3) := by decide +kernel
theorem dX6_reading_12 : decode cX6_reading 12 = .ok (.ifCond .ne 11, 3) := by decide +kernel
theorem dX6_reading_15 : decode cX6_reading 15 = .ok (.iload_n 3, 1) := by decide +kernel
theorem dX6_reading_16 : decode cX6_reading 16 = .ok (.bipush (-9), 2) := by decide +kernel
theorem dX6_reading_18 : decode cX6_reading 18 = .ok (.if_icmp .eq 5, 3) := by decide +kernel
theorem dX6_reading_21 : decode cX6_reading 21 = .ok (.iconst (-1), 1) := by decide +kernel
theorem dX6_reading_22 : decode cX6_reading 22 = .ok (.ireturn, 1) := by decide +kernel
theorem dX6_reading_23 : decode cX6_reading 23 = .ok (.iload_n 2, 1) := by decide +kernel
theorem dX6_reading_24 : decode cX6_reading 24 = .ok (.iconst 0, 1) := by decide +kernel
theorem dX6_reading_25 : decode cX6_reading 25 = .ok (.bipush 23, 2) := by decide +kernel
theorem dX6_reading_27 : decode cX6_reading 27 = .ok (.invokestatic 67, 3) := by decide +kernel
theorem dX6_reading_30 : decode cX6_reading 30 = .ok (.ifCond .ne 6, 3) := by decide +kernel
theorem dX6_reading_33 : decode cX6_reading 33 = .ok (.bipush (-2), 2) := by decide +kernel
theorem dX6_reading_35 : decode cX6_reading 35 = .ok (.ireturn, 1) := by decide +kernel
theorem dX6_reading_36 : decode cX6_reading 36 = .ok (.aload_n 0, 1) := by decide +kernel
theorem dX6_reading_37 : decode cX6_reading 37 = .ok (.aload_n 0, 1) := by decide +kernel
theorem dX6_reading_38 : decode cX6_reading 38 = .ok (.getfield 181, 3) := by decide +kernel
theorem dX6_reading_41 : decode cX6_reading 41 = .ok (.invokevirtual 184, 3) := by decide +kernel
theorem dX6_reading_44 : decode cX6_reading 44 = .ok (.astore 4, 2) := by decide +kernel
theorem dX6_reading_46 : decode cX6_reading 46 = .ok (.aload 4, 2) := by decide +kernel
theorem dX6_reading_48 : decode cX6_reading 48 = .ok (.ifnonnull 6, 3) := by decide +kernel
theorem dX6_reading_51 : decode cX6_reading 51 = .ok (.bipush (-4), 2) := by decide +kernel
theorem dX6_reading_53 : decode cX6_reading 53 = .ok (.ireturn, 1) := by decide +kernel
theorem dX6_reading_54 : decode cX6_reading 54 = .ok (.aload 4, 2) := by decide +kernel
theorem dX6_reading_56 : decode cX6_reading 56 = .ok (.iload_n 1, 1) := by decide +kernel
theorem dX6_reading_57 : decode cX6_reading 57 = .ok (.putfield 188, 3) := by decide +kernel
theorem dX6_reading_60 : decode cX6_reading 60 = .ok (.aload 4, 2) := by decide +kernel
theorem dX6_reading_62 : decode cX6_reading 62 = .ok (.iload_n 2, 1) := by decide +kernel
theorem dX6_reading_63 : decode cX6_reading 63 = .ok (.putfield 191, 3) := by decide +kernel
theorem dX6_reading_66 : decode cX6_reading 66 = .ok (.aload 4, 2) := by decide +kernel
theorem dX6_reading_68 : decode cX6_reading 68 = .ok (.iload_n 3, 1) := by decide +kernel
theorem dX6_reading_69 : decode cX6_reading 69 = .ok (.putfield 192, 3) := by decide +kernel
theorem dX6_reading_72 : decode cX6_reading 72 = .ok (.aload_n 0, 1) := by decide +kernel
theorem dX6_reading_73 : decode cX6_reading 73 = .ok (.dup, 1) := by decide +kernel
theorem dX6_reading_74 : decode cX6_reading 74 = .ok (.getfield 181, 3) := by decide +kernel
theorem dX6_reading_77 : decode cX6_reading 77 = .ok (.iconst 1, 1) := by decide +kernel
theorem dX6_reading_78 : decode cX6_reading 78 = .ok (.iadd, 1) := by decide +kernel
theorem dX6_reading_79 : decode cX6_reading 79 = .ok (.putfield 181, 3) := by decide +kernel
theorem dX6_reading_82 : decode cX6_reading 82 = .ok (.aload_n 0, 1) := by decide +kernel
theorem dX6_reading_83 : decode cX6_reading 83 = .ok (.getfield 181, 3) := by decide +kernel
theorem dX6_reading_86 : decode cX6_reading 86 = .ok (.iconst 1, 1) := by decide +kernel
theorem dX6_reading_87 : decode cX6_reading 87 = .ok (.isub, 1) := by decide +kernel
theorem dX6_reading_88 : decode cX6_reading 88 = .ok (.ireturn, 1) := by decide +kernel
set_option maxRecDepth 20000 in
theorem ggX6_back_X6_within : GoodIn wsX6_back wsX6_within := goodIn_r _ [5] (by decide +kernel) (by decide +kernel)
set_option maxRecDepth 20000 in
theorem gX6_back_X6_within : GoodIn wsX6_back (va_wsS RX6 67 yX6_within wsX6_within) := goodIn_app (goodIn_of _ (by decide +kernel)) ggX6_back_X6_within
theorem dX6_back_0 : decode cX6_back 0 = .ok (.iload_n 1, 1) := by decide +kernel
theorem dX6_back_1 : decode cX6_back 1 = .ok (.iconst 0, 1) := by decide +kernel
theorem dX6_back_2 : decode cX6_back 2 = .ok (.aload_n 0, 1) := by decide +kernel
theorem dX6_back_3 : decode cX6_back 3 = .ok (.getfield 181, 3) := by decide +kernel
theorem dX6_back_6 : decode cX6_back 6 = .ok (.invokestatic 67, 3) := by decide +kernel
theorem dX6_back_9 : decode cX6_back 9 = .ok (.ifCond .ne 6, 3) := by decide +kernel
theorem dX6_back_12 : decode cX6_back 12 = .ok (.bipush (-2), 2) := by decide +kernel
theorem dX6_back_14 : decode cX6_back 14 = .ok (.ireturn, 1) := by decide +kernel
theorem dX6_back_15 : decode cX6_back 15 = .ok (.aload_n 0, 1) := by decide +kernel
theorem dX6_back_16 : decode cX6_back 16 = .ok (.dup, 1) := by decide +kernel
theorem dX6_back_17 : decode cX6_back 17 = .ok (.getfield 181, 3) := by decide +kernel
theorem dX6_back_20 : decode cX6_back 20 = .ok (.iload_n 1, 1) := by decide +kernel
theorem dX6_back_21 : decode cX6_back 21 = .ok (.isub, 1) := by decide +kernel
theorem dX6_back_22 : decode cX6_back 22 = .ok (.putfield 181, 3) := by decide +kernel
theorem dX6_back_25 : decode cX6_back 25 = .ok (.aload_n 0, 1) := by decide +kernel
theorem dX6_back_26 : decode cX6_back 26 = .ok (.getfield 181, 3) := by decide +kernel
theorem dX6_back_29 : decode cX6_back 29 = .ok (.ireturn, 1) := by decide +kernel
set_option maxRecDepth 20000 in
theorem ggX6_weights_X6_thingAt : GoodIn wsX6_weights wsX6_thingAt := goodIn_r _ [7, 8, 9, 48, 49, 50, 51, 52, 53, 54, 55, 56, 57, 58, 59, 60] (by decide +kernel) (by decide +kernel)
set_option maxRecDepth 20000 in
theorem gX6_weights_X6_thingAt : GoodIn wsX6_weights (wsV RX6 93 RX6 yX6_thingAt wsX6_thingAt) := goodIn_app (goodIn_of _ (by decide +kernel)) ggX6_weights_X6_thingAt
set_option maxRecDepth 20000 in
theorem ggX6_weights_X6_readingsAreSo : GoodIn wsX6_weights wsX6_readingsAreSo := goodIn_r _ [13, 14, 15, 2, 16, 17, 18, 19, 20, 21, 22, 23, 6, 24, 25, 3, 4, 5, 7, 8, 9, 26, 27, 28, 29, 30, 31, 32, 33, 34, 35, 36, 37, 38, 39, 40, 41, 42, 43, 44, 45, 46, 47, 48, 49, 50, 51, 52, 53, 54, 55, 56, 57, 58, 59, 60, 66, 67, 68, 61, 62, 63, 64, 65, 69, 70] (by decide +kernel) (by decide +kernel)
set_option maxRecDepth 20000 in
theorem gX6_weights_X6_readingsAreSo : GoodIn wsX6_weights (wsV RX6 195 RX6 yX6_readingsAreSo wsX6_readingsAreSo) := goodIn_app (goodIn_of _ (by decide +kernel)) ggX6_weights_X6_readingsAreSo
theorem dX6_weights_0 : decode cX6_weights 0 = .ok (.aload_n 0, 1) := by decide +kernel
theorem dX6_weights_1 : decode cX6_weights 1 = .ok (.iload_n 1, 1) := by decide +kernel
theorem dX6_weights_2 : decode cX6_weights 2 = .ok (.invokevirtual 93, 3) := by decide +kernel
theorem dX6_weights_5 : decode cX6_weights 5 = .ok (.astore_n 2, 1) := by decide +kernel
theorem dX6_weights_6 : decode cX6_weights 6 = .ok (.aload_n 2, 1) := by decide +kernel
theorem dX6_weights_7 : decode cX6_weights 7 = .ok (.ifnonnull 5, 3) := by decide +kernel
theorem dX6_weights_10 : decode cX6_weights 10 = .ok (.iconst (-1), 1) := by decide +kernel
theorem dX6_weights_11 : decode cX6_weights 11 = .ok (.ireturn, 1) := by decide +kernel
theorem dX6_weights_12 : decode cX6_weights 12 = .ok (.iconst 0, 1) := by decide +kernel
theorem dX6_weights_13 : decode cX6_weights 13 = .ok (.istore_n 3, 1) := by decide +kernel
theorem dX6_weights_14 : decode cX6_weights 14 = .ok (.iconst 0, 1) := by decide +kernel
theorem dX6_weights_15 : decode cX6_weights 15 = .ok (.istore 4, 2) := by decide +kernel
theorem dX6_weights_17 : decode cX6_weights 17 = .ok (.iload 4, 2) := by decide +kernel
theorem dX6_weights_19 : decode cX6_weights 19 = .ok (.bipush 9, 2) := by decide +kernel
theorem dX6_weights_21 : decode cX6_weights 21 = .ok (.if_icmp .gt 34, 3) := by decide +kernel
theorem dX6_weights_24 : decode cX6_weights 24 = .ok (.aload_n 0, 1) := by decide +kernel
theorem dX6_weights_25 : decode cX6_weights 25 = .ok (.aload_n 0, 1) := by decide +kernel
theorem dX6_weights_26 : decode cX6_weights 26 = .ok (.getfield 123, 3) := by decide +kernel
theorem dX6_weights_29 : decode cX6_weights 29 = .ok (.iload_n 1, 1) := by decide +kernel
theorem dX6_weights_30 : decode cX6_weights 30 = .ok (.aload_n 2, 1) := by decide +kernel
theorem dX6_weights_31 : decode cX6_weights 31 = .ok (.getfield 97, 3) := by decide +kernel
theorem dX6_weights_34 : decode cX6_weights 34 = .ok (.iload 4, 2) := by decide +kernel
theorem dX6_weights_36 : decode cX6_weights 36 = .ok (.invokevirtual 195, 3) := by decide +kernel
theorem dX6_weights_39 : decode cX6_weights 39 = .ok (.ifCond .eq 10, 3) := by decide +kernel
theorem dX6_weights_42 : decode cX6_weights 42 = .ok (.iload_n 3, 1) := by decide +kernel
theorem dX6_weights_43 : decode cX6_weights 43 = .ok (.iconst 1, 1) := by decide +kernel
theorem dX6_weights_44 : decode cX6_weights 44 = .ok (.iload 4, 2) := by decide +kernel
theorem dX6_weights_46 : decode cX6_weights 46 = .ok (.ishl, 1) := by decide +kernel
theorem dX6_weights_47 : decode cX6_weights 47 = .ok (.ior, 1) := by decide +kernel
theorem dX6_weights_48 : decode cX6_weights 48 = .ok (.istore_n 3, 1) := by decide +kernel
theorem dX6_weights_49 : decode cX6_weights 49 = .ok (.iinc 4 1, 3) := by decide +kernel
theorem dX6_weights_52 : decode cX6_weights 52 = .ok (.goto (-35), 3) := by decide +kernel
theorem dX6_weights_55 : decode cX6_weights 55 = .ok (.iload_n 3, 1) := by decide +kernel
theorem dX6_weights_56 : decode cX6_weights 56 = .ok (.ireturn, 1) := by decide +kernel
set_option maxRecDepth 20000 in
theorem ggX6_kinds_X6_thingAt : GoodIn wsX6_kinds wsX6_thingAt := goodIn_r _ [7, 8, 9, 48, 49, 50, 51, 52, 53, 54, 55, 56, 57, 58, 59, 60] (by decide +kernel) (by decide +kernel)
set_option maxRecDepth 20000 in
theorem gX6_kinds_X6_thingAt : GoodIn wsX6_kinds (wsV RX6 93 RX6 yX6_thingAt wsX6_thingAt) := goodIn_app (goodIn_of _ (by decide +kernel)) ggX6_kinds_X6_thingAt
set_option maxRecDepth 20000 in
theorem ggX6_kinds_X6_readingsAreSo : GoodIn wsX6_kinds wsX6_readingsAreSo := goodIn_r _ [13, 14, 15, 16, 2, 17, 18, 19, 20, 21, 22, 23, 6, 24, 25, 3, 4, 5, 7, 8, 9, 26, 27, 28, 29, 30, 31, 32, 33, 34, 35, 36, 37, 38, 39, 40, 41, 42, 43, 44, 45, 46, 47, 48, 49, 50, 51, 52, 53, 54, 55, 56, 57, 58, 59, 60, 66, 67, 68, 61, 62, 63, 64, 65, 69, 70] (by decide +kernel) (by decide +kernel)
set_option maxRecDepth 20000 in
theorem gX6_kinds_X6_readingsAreSo : GoodIn wsX6_kinds (wsV RX6 195 RX6 yX6_readingsAreSo wsX6_readingsAreSo) := goodIn_app (goodIn_of _ (by decide +kernel)) ggX6_kinds_X6_readingsAreSo
theorem dX6_kinds_0 : decode cX6_kinds 0 = .ok (.aload_n 0, 1) := by decide +kernel
theorem dX6_kinds_1 : decode cX6_kinds 1 = .ok (.iload_n 1, 1) := by decide +kernel
theorem dX6_kinds_2 : decode cX6_kinds 2 = .ok (.invokevirtual 93, 3) := by decide +kernel
theorem dX6_kinds_5 : decode cX6_kinds 5 = .ok (.astore_n 2, 1) := by decide +kernel
theorem dX6_kinds_6 : decode cX6_kinds 6 = .ok (.aload_n 2, 1) := by decide +kernel
theorem dX6_kinds_7 : decode cX6_kinds 7 = .ok (.ifnonnull 5, 3) := by decide +kernel
theorem dX6_kinds_10 : decode cX6_kinds 10 = .ok (.iconst (-1), 1) := by decide +kernel
theorem dX6_kinds_11 : decode cX6_kinds 11 = .ok (.ireturn, 1) := by decide +kernel
theorem dX6_kinds_12 : decode cX6_kinds 12 = .ok (.iconst 0, 1) := by decide +kernel
theorem dX6_kinds_13 : decode cX6_kinds 13 = .ok (.istore_n 3, 1) := by decide +kernel
theorem dX6_kinds_14 : decode cX6_kinds 14 = .ok (.iconst 0, 1) := by decide +kernel
theorem dX6_kinds_15 : decode cX6_kinds 15 = .ok (.istore 4, 2) := by decide +kernel
theorem dX6_kinds_17 : decode cX6_kinds 17 = .ok (.iload 4, 2) := by decide +kernel
theorem dX6_kinds_19 : decode cX6_kinds 19 = .ok (.iconst 2, 1) := by decide +kernel
theorem dX6_kinds_20 : decode cX6_kinds 20 = .ok (.if_icmp .gt 34, 3) := by decide +kernel
theorem dX6_kinds_23 : decode cX6_kinds 23 = .ok (.aload_n 0, 1) := by decide +kernel
theorem dX6_kinds_24 : decode cX6_kinds 24 = .ok (.aload_n 0, 1) := by decide +kernel
theorem dX6_kinds_25 : decode cX6_kinds 25 = .ok (.getfield 123, 3) := by decide +kernel
theorem dX6_kinds_28 : decode cX6_kinds 28 = .ok (.iload_n 1, 1) := by decide +kernel
theorem dX6_kinds_29 : decode cX6_kinds 29 = .ok (.iload 4, 2) := by decide +kernel
theorem dX6_kinds_31 : decode cX6_kinds 31 = .ok (.aload_n 2, 1) := by decide +kernel
theorem dX6_kinds_32 : decode cX6_kinds 32 = .ok (.getfield 100, 3) := by decide +kernel
theorem dX6_kinds_35 : decode cX6_kinds 35 = .ok (.invokevirtual 195, 3) := by decide +kernel
theorem dX6_kinds_38 : decode cX6_kinds 38 = .ok (.ifCond .eq 10, 3) := by decide +kernel
theorem dX6_kinds_41 : decode cX6_kinds 41 = .ok (.iload_n 3, 1) := by decide +kernel
theorem dX6_kinds_42 : decode cX6_kinds 42 = .ok (.iconst 1, 1) := by decide +kernel
theorem dX6_kinds_43 : decode cX6_kinds 43 = .ok (.iload 4, 2) := by decide +kernel
theorem dX6_kinds_45 : decode cX6_kinds 45 = .ok (.ishl, 1) := by decide +kernel
theorem dX6_kinds_46 : decode cX6_kinds 46 = .ok (.ior, 1) := by decide +kernel
theorem dX6_kinds_47 : decode cX6_kinds 47 = .ok (.istore_n 3, 1) := by decide +kernel
theorem dX6_kinds_48 : decode cX6_kinds 48 = .ok (.iinc 4 1, 3) := by decide +kernel
theorem dX6_kinds_51 : decode cX6_kinds 51 = .ok (.goto (-34), 3) := by decide +kernel
theorem dX6_kinds_54 : decode cX6_kinds 54 = .ok (.iload_n 3, 1) := by decide +kernel
theorem dX6_kinds_55 : decode cX6_kinds 55 = .ok (.ireturn, 1) := by decide +kernel
set_option maxRecDepth 20000 in
theorem ggX6_depths_X6_hasWell : GoodIn wsX6_depths wsX6_hasWell := goodIn_r _ [5, 6, 51, 52, 53, 54, 55, 56, 57, 58, 59, 60, 61, 62, 63] (by decide +kernel) (by decide +kernel)
set_option maxRecDepth 20000 in
theorem gX6_depths_X6_hasWell : GoodIn wsX6_depths (wsV RX6 116 RX6 yX6_hasWell wsX6_hasWell) := goodIn_app (goodIn_of _ (by decide +kernel)) ggX6_depths_X6_hasWell
set_option maxRecDepth 20000 in
theorem ggX6_depths_X6_readingsAreSo : GoodIn wsX6_depths wsX6_readingsAreSo := goodIn_r _ [10, 11, 12, 13, 14, 15, 16, 17, 18, 19, 20, 21, 4, 22, 23, 24, 25, 26, 27, 6, 28, 29, 30, 31, 32, 33, 34, 35, 36, 37, 38, 39, 40, 41, 42, 43, 44, 45, 46, 47, 48, 49, 50, 51, 52, 53, 54, 55, 56, 57, 58, 59, 60, 61, 62, 63, 64, 65, 66, 67, 68, 69, 70, 71, 72, 73] (by decide +kernel) (by decide +kernel)
set_option maxRecDepth 20000 in
theorem gX6_depths_X6_readingsAreSo : GoodIn wsX6_depths (wsV RX6 195 RX6 yX6_readingsAreSo wsX6_readingsAreSo) := goodIn_app (goodIn_of _ (by decide +kernel)) ggX6_depths_X6_readingsAreSo
theorem dX6_depths_0 : decode cX6_depths 0 = .ok (.aload_n 0, 1) := by decide +kernel
theorem dX6_depths_1 : decode cX6_depths 1 = .ok (.invokevirtual 116, 3) := by decide +kernel
theorem dX6_depths_4 : decode cX6_depths 4 = .ok (.ifCond .ne 6, 3) := by decide +kernel
theorem dX6_depths_7 : decode cX6_depths 7 = .ok (.bipush (-3), 2) := by decide +kernel
theorem dX6_depths_9 : decode cX6_depths 9 = .ok (.ireturn, 1) := by decide +kernel
theorem dX6_depths_10 : decode cX6_depths 10 = .ok (.iconst 0, 1) := by decide +kernel
theorem dX6_depths_11 : decode cX6_depths 11 = .ok (.istore_n 1, 1) := by decide +kernel
theorem dX6_depths_12 : decode cX6_depths 12 = .ok (.iconst 0, 1) := by decide +kernel
theorem dX6_depths_13 : decode cX6_depths 13 = .ok (.istore_n 2, 1) := by decide +kernel
theorem dX6_depths_14 : decode cX6_depths 14 = .ok (.iload_n 2, 1) := by decide +kernel
theorem dX6_depths_15 : decode cX6_depths 15 = .ok (.bipush 9, 2) := by decide +kernel
theorem dX6_depths_17 : decode cX6_depths 17 = .ok (.if_icmp .gt 27, 3) := by decide +kernel
theorem dX6_depths_20 : decode cX6_depths 20 = .ok (.aload_n 0, 1) := by decide +kernel
theorem dX6_depths_21 : decode cX6_depths 21 = .ok (.iload_n 2, 1) := by decide +kernel
theorem dX6_depths_22 : decode cX6_depths 22 = .ok (.bipush (-9), 2) := by decide +kernel
theorem dX6_depths_24 : decode cX6_depths 24 = .ok (.iconst 0, 1) := by decide +kernel
theorem dX6_depths_25 : decode cX6_depths 25 = .ok (.iconst 0, 1) := by decide +kernel
theorem dX6_depths_26 : decode cX6_depths 26 = .ok (.invokevirtual 195, 3) := by decide +kernel
theorem dX6_depths_29 : decode cX6_depths 29 = .ok (.ifCond .eq 9, 3) := by decide +kernel
theorem dX6_depths_32 : decode cX6_depths 32 = .ok (.iload_n 1, 1) := by decide +kernel
theorem dX6_depths_33 : decode cX6_depths 33 = .ok (.iconst 1, 1) := by decide +kernel
theorem dX6_depths_34 : decode cX6_depths 34 = .ok (.iload_n 2, 1) := by decide +kernel
theorem dX6_depths_35 : decode cX6_depths 35 = .ok (.ishl, 1) := by decide +kernel
theorem dX6_depths_36 : decode cX6_depths 36 = .ok (.ior, 1) := by decide +kernel
theorem dX6_depths_37 : decode cX6_depths 37 = .ok (.istore_n 1, 1) := by decide +kernel
theorem dX6_depths_38 : decode cX6_depths 38 = .ok (.iinc 2 1, 3) := by decide +kernel
theorem dX6_depths_41 : decode cX6_depths 41 = .ok (.goto (-27), 3) := by decide +kernel
theorem dX6_depths_44 : decode cX6_depths 44 = .ok (.iload_n 1, 1) := by decide +kernel
theorem dX6_depths_45 : decode cX6_depths 45 = .ok (.ireturn, 1) := by decide +kernel
set_option maxRecDepth 20000 in
theorem ggX6_odds_X6_thingAt : GoodIn wsX6_odds wsX6_thingAt := goodIn_r _ [7, 8, 9, 51, 52, 53, 54, 55, 56, 57, 58, 59, 60, 61, 62, 63] (by decide +kernel) (by decide +kernel)
set_option maxRecDepth 20000 in
theorem gX6_odds_X6_thingAt : GoodIn wsX6_odds (wsV RX6 93 RX6 yX6_thingAt wsX6_thingAt) := goodIn_app (goodIn_of _ (by decide +kernel)) ggX6_odds_X6_thingAt
set_option maxRecDepth 20000 in
theorem ggX6_odds_X6_within : GoodIn wsX6_odds wsX6_within := goodIn_r _ [12] (by decide +kernel) (by decide +kernel)
set_option maxRecDepth 20000 in
theorem gX6_odds_X6_within : GoodIn wsX6_odds (va_wsS RX6 67 yX6_within wsX6_within) := goodIn_app (goodIn_of _ (by decide +kernel)) ggX6_odds_X6_within
set_option maxRecDepth 20000 in
theorem ggX6_odds_X6_isRight : GoodIn wsX6_odds wsX6_isRight := goodIn_r _ [16, 17, 18, 19, 20, 21, 6, 22, 23, 24, 25, 26, 27, 28, 29, 30, 31, 32, 33, 34, 35, 36, 37, 38, 39, 40, 41, 42, 43, 44, 45, 46, 47, 64, 65, 66, 67, 68, 51, 52, 53, 54, 55, 56, 57, 58, 59, 60, 61, 62, 63, 69, 70] (by decide +kernel) (by decide +kernel)
set_option maxRecDepth 20000 in
theorem gX6_odds_X6_isRight : GoodIn wsX6_odds (wsV RX6 201 RX6 yX6_isRight wsX6_isRight) := goodIn_app (goodIn_of _ (by decide +kernel)) ggX6_odds_X6_isRight
set_option maxRecDepth 20000 in
theorem ggX6_odds_X6_commonMeasure : GoodIn wsX6_odds wsX6_commonMeasure := goodIn_r _ [50] (by decide +kernel) (by decide +kernel)
set_option maxRecDepth 20000 in
theorem gX6_odds_X6_commonMeasure : GoodIn wsX6_odds (va_wsS RX6 205 yX6_commonMeasure wsX6_commonMeasure) := goodIn_app (goodIn_of _ (by decide +kernel)) ggX6_odds_X6_commonMeasure
theorem dX6_odds_0 : decode cX6_odds 0 = .ok (.aload_n 0, 1) := by decide +kernel
theorem dX6_odds_1 : decode cX6_odds 1 = .ok (.iload_n 1, 1) := by decide +kernel
theorem dX6_odds_2 : decode cX6_odds 2 = .ok (.invokevirtual 93, 3) := by decide +kernel
theorem dX6_odds_5 : decode cX6_odds 5 = .ok (.astore_n 3, 1) := by decide +kernel
theorem dX6_odds_6 : decode cX6_odds 6 = .ok (.aload_n 3, 1) := by decide +kernel
theorem dX6_odds_7 : decode cX6_odds 7 = .ok (.ifnull 12, 3) := by decide +kernel
theorem dX6_odds_10 : decode cX6_odds 10 = .ok (.iload_n 2, 1) := by decide +kernel
theorem dX6_odds_11 : decode cX6_odds 11 = .ok (.iconst 0, 1) := by decide +kernel
theorem dX6_odds_12 : decode cX6_odds 12 = .ok (.iconst 1, 1) := by decide +kernel
theorem dX6_odds_13 : decode cX6_odds 13 = .ok (.invokestatic 67, 3) := by decide +kernel
theorem dX6_odds_16 : decode cX6_odds 16 = .ok (.ifCond .ne 7, 3) := by decide +kernel
theorem dX6_odds_19 : decode cX6_odds 19 = .ok (.ldc2_w 199, 3) := by decide +kernel
theorem dX6_odds_22 : decode cX6_odds 22 = .ok (.lreturn, 1) := by decide +kernel
theorem dX6_odds_23 : decode cX6_odds 23 = .ok (.iconst 0, 1) := by decide +kernel
theorem dX6_odds_24 : decode cX6_odds 24 = .ok (.istore 4, 2) := by decide +kernel
theorem dX6_odds_26 : decode cX6_odds 26 = .ok (.iconst 0, 1) := by decide +kernel
theorem dX6_odds_27 : decode cX6_odds 27 = .ok (.istore 5, 2) := by decide +kernel
theorem dX6_odds_29 : decode cX6_odds 29 = .ok (.iload 5, 2) := by decide +kernel
theorem dX6_odds_31 : decode cX6_odds 31 = .ok (.bipush 12, 2) := by decide +kernel
theorem dX6_odds_33 : decode cX6_odds 33 = .ok (.if_icmp .ge 26, 3) := by decide +kernel
theorem dX6_odds_36 : decode cX6_odds 36 = .ok (.aload_n 0, 1) := by decide +kernel
theorem dX6_odds_37 : decode cX6_odds 37 = .ok (.aload_n 3, 1) := by decide +kernel
theorem dX6_odds_38 : decode cX6_odds 38 = .ok (.aload_n 0, 1) := by decide +kernel
theorem dX6_odds_39 : decode cX6_odds 39 = .ok (.getfield 32, 3) := by decide +kernel
theorem dX6_odds_42 : decode cX6_odds 42 = .ok (.iload 5, 2) := by decide +kernel
theorem dX6_odds_44 : decode cX6_odds 44 = .ok (.invokevirtual 201, 3) := by decide +kernel
theorem dX6_odds_47 : decode cX6_odds 47 = .ok (.ifCond .eq 6, 3) := by decide +kernel
theorem dX6_odds_50 : decode cX6_odds 50 = .ok (.iinc 4 1, 3) := by decide +kernel
theorem dX6_odds_53 : decode cX6_odds 53 = .ok (.iinc 5 1, 3) := by decide +kernel
theorem dX6_odds_56 : decode cX6_odds 56 = .ok (.goto (-27), 3) := by decide +kernel
theorem dX6_odds_59 : decode cX6_odds 59 = .ok (.iload_n 2, 1) := by decide +kernel
theorem dX6_odds_60 : decode cX6_odds 60 = .ok (.ifCond .ne 8, 3) := by decide +kernel
theorem dX6_odds_63 : decode cX6_odds 63 = .ok (.iload 4, 2) := by decide +kernel
theorem dX6_odds_65 : decode cX6_odds 65 = .ok (.goto 5, 3) := by decide +kernel
theorem dX6_odds_68 : decode cX6_odds 68 = .ok (.bipush 12, 2) := by decide +kernel
theorem dX6_odds_70 : decode cX6_odds 70 = .ok (.istore 5, 2) := by decide +kernel
theorem dX6_odds_72 : decode cX6_odds 72 = .ok (.iload 4, 2) := by decide +kernel
theorem dX6_odds_74 : decode cX6_odds 74 = .ok (.bipush 12, 2) := by decide +kernel
theorem dX6_odds_76 : decode cX6_odds 76 = .ok (.invokestatic 205, 3) := by decide +kernel
theorem dX6_odds_79 : decode cX6_odds 79 = .ok (.istore 6, 2) := by decide +kernel
theorem dX6_odds_81 : decode cX6_odds 81 = .ok (.iload 6, 2) := by decide +kernel
theorem dX6_odds_83 : decode cX6_odds 83 = .ok (.ifCond .le 12, 3) := by decide +kernel
theorem dX6_odds_86 : decode cX6_odds 86 = .ok (.iload 5, 2) := by decide +kernel
theorem dX6_odds_88 : decode cX6_odds 88 = .ok (.iload 6, 2) := by decide +kernel
theorem dX6_odds_90 : decode cX6_odds 90 = .ok (.idiv, 1) := by decide +kernel
theorem dX6_odds_91 : decode cX6_odds 91 = .ok (.i2l, 1) := by decide +kernel
theorem dX6_odds_92 : decode cX6_odds 92 = .ok (.goto 6, 3) := by decide +kernel
theorem dX6_odds_95 : decode cX6_odds 95 = .ok (.ldc2_w 199, 3) := by decide +kernel
theorem dX6_odds_98 : decode cX6_odds 98 = .ok (.lreturn, 1) := by decide +kernel
set_option maxRecDepth 20000 in
theorem ggX6_sheet_X6_sheetAt : GoodIn wsX6_sheet wsX6_sheetAt := goodIn_r _ [6, 7, 23, 24, 25, 26, 27, 28, 29, 30, 31, 32, 33, 34, 35] (by decide +kernel) (by decide +kernel)
set_option maxRecDepth 20000 in
theorem gX6_sheet_X6_sheetAt : GoodIn wsX6_sheet (wsV RX6 63 RX6 yX6_sheetAt wsX6_sheetAt) := goodIn_app (goodIn_of _ (by decide +kernel)) ggX6_sheet_X6_sheetAt
set_option maxRecDepth 20000 in
theorem ggX6_sheet_X6_within : GoodIn wsX6_sheet wsX6_within := goodIn_r _ [10] (by decide +kernel) (by decide +kernel)
set_option maxRecDepth 20000 in
theorem gX6_sheet_X6_within : GoodIn wsX6_sheet (va_wsS RX6 67 yX6_within wsX6_within) := goodIn_app (goodIn_of _ (by decide +kernel)) ggX6_sheet_X6_within
set_option maxRecDepth 20000 in
theorem ggX6_sheet_X6_faulted : GoodIn wsX6_sheet wsX6_faulted := goodIn_r _ [14, 1, 23, 24, 25, 26, 27, 28, 29, 30, 31, 32, 33, 34, 35] (by decide +kernel) (by decide +kernel)
set_option maxRecDepth 20000 in
theorem gX6_sheet_X6_faulted : GoodIn wsX6_sheet (wsV RX6 75 RX6 yX6_faulted wsX6_faulted) := goodIn_app (goodIn_of _ (by decide +kernel)) ggX6_sheet_X6_faulted
set_option maxRecDepth 20000 in
theorem ggX6_sheet_X2_begin : GoodIn wsX6_sheet wsX2_begin := goodIn_r _ [19, 20, 21, 22, 36, 37, 38] (by decide +kernel) (by decide +kernel)
set_option maxRecDepth 20000 in
theorem gX6_sheet_X2_begin : GoodIn wsX6_sheet (wsV RX6 209 RX2 yX2_begin wsX2_begin) := goodIn_app (goodIn_of _ (by decide +kernel)) ggX6_sheet_X2_begin
theorem dX6_sheet_0 : decode cX6_sheet 0 = .ok (.aload_n 0, 1) := by decide +kernel
theorem dX6_sheet_1 : decode cX6_sheet 1 = .ok (.iconst 0, 1) := by decide +kernel
theorem dX6_sheet_2 : decode cX6_sheet 2 = .ok (.putfield 59, 3) := by decide +kernel
theorem dX6_sheet_5 : decode cX6_sheet 5 = .ok (.aload_n 0, 1) := by decide +kernel
theorem dX6_sheet_6 : decode cX6_sheet 6 = .ok (.iload_n 1, 1) := by decide +kernel
theorem dX6_sheet_7 : decode cX6_sheet 7 = .ok (.invokevirtual 63, 3) := by decide +kernel
theorem dX6_sheet_10 : decode cX6_sheet 10 = .ok (.astore 4, 2) := by decide +kernel
theorem dX6_sheet_12 : decode cX6_sheet 12 = .ok (.aload 4, 2) := by decide +kernel
theorem dX6_sheet_14 : decode cX6_sheet 14 = .ok (.ifnonnull 5, 3) := by decide +kernel
theorem dX6_sheet_17 : decode cX6_sheet 17 = .ok (.iconst (-1), 1) := by decide +kernel
theorem dX6_sheet_18 : decode cX6_sheet 18 = .ok (.ireturn, 1) := by decide +kernel
theorem dX6_sheet_19 : decode cX6_sheet 19 = .ok (.iload_n 2, 1) := by decide +kernel
theorem dX6_sheet_20 : decode cX6_sheet 20 = .ok (.iconst 0, 1) := by decide +kernel
theorem dX6_sheet_21 : decode cX6_sheet 21 = .ok (.iconst 2, 1) := by decide +kernel
theorem dX6_sheet_22 : decode cX6_sheet 22 = .ok (.invokestatic 67, 3) := by decide +kernel
theorem dX6_sheet_25 : decode cX6_sheet 25 = .ok (.ifCond .eq 9, 3) := by decide +kernel
theorem dX6_sheet_28 : decode cX6_sheet 28 = .ok (.iload_n 3, 1) := by decide +kernel
theorem dX6_sheet_29 : decode cX6_sheet 29 = .ok (.bipush 60, 2) := by decide +kernel
theorem dX6_sheet_31 : decode cX6_sheet 31 = .ok (.if_icmp .le 6, 3) := by decide +kernel
theorem dX6_sheet_34 : decode cX6_sheet 34 = .ok (.bipush (-2), 2) := by decide +kernel
theorem dX6_sheet_36 : decode cX6_sheet 36 = .ok (.ireturn, 1) := by decide +kernel
theorem dX6_sheet_37 : decode cX6_sheet 37 = .ok (.iload_n 3, 1) := by decide +kernel
theorem dX6_sheet_38 : decode cX6_sheet 38 = .ok (.ifCond .ge 9, 3) := by decide +kernel
theorem dX6_sheet_41 : decode cX6_sheet 41 = .ok (.aload_n 0, 1) := by decide +kernel
theorem dX6_sheet_42 : decode cX6_sheet 42 = .ok (.iconst 4, 1) := by decide +kernel
theorem dX6_sheet_43 : decode cX6_sheet 43 = .ok (.invokevirtual 75, 3) := by decide +kernel
theorem dX6_sheet_46 : decode cX6_sheet 46 = .ok (.ireturn, 1) := by decide +kernel
theorem dX6_sheet_47 : decode cX6_sheet 47 = .ok (.aload 4, 2) := by decide +kernel
theorem dX6_sheet_49 : decode cX6_sheet 49 = .ok (.iload_n 2, 1) := by decide +kernel
theorem dX6_sheet_50 : decode cX6_sheet 50 = .ok (.iload_n 3, 1) := by decide +kernel
theorem dX6_sheet_51 : decode cX6_sheet 51 = .ok (.invokevirtual 209, 3) := by decide +kernel
theorem dX6_sheet_54 : decode cX6_sheet 54 = .ok (.iconst 1, 1) := by decide +kernel
theorem dX6_sheet_55 : decode cX6_sheet 55 = .ok (.ireturn, 1) := by decide +kernel
set_option maxRecDepth 20000 in
theorem ggX6_lose_X6_sheetAt : GoodIn wsX6_lose wsX6_sheetAt := goodIn_r _ [5, 6, 18, 19, 20, 21, 22, 23, 24, 25, 26, 27, 28, 29, 30] (by decide +kernel) (by decide +kernel)
set_option maxRecDepth 20000 in
theorem gX6_lose_X6_sheetAt : GoodIn wsX6_lose (wsV RX6 63 RX6 yX6_sheetAt wsX6_sheetAt) := goodIn_app (goodIn_of _ (by decide +kernel)) ggX6_lose_X6_sheetAt
set_option maxRecDepth 20000 in
theorem ggX6_lose_X2_hasRow : GoodIn wsX6_lose wsX2_hasRow := goodIn_r _ [11, 12, 31, 32, 33] (by decide +kernel) (by decide +kernel)
set_option maxRecDepth 20000 in
theorem gX6_lose_X2_hasRow : GoodIn wsX6_lose (wsV RX6 211 RX2 yX2_hasRow wsX2_hasRow) := goodIn_app (goodIn_of _ (by decide +kernel)) ggX6_lose_X2_hasRow
set_option maxRecDepth 20000 in
theorem ggX6_lose_X2_empty : GoodIn wsX6_lose wsX2_empty := goodIn_r _ [16, 12, 17, 31, 32, 33] (by decide +kernel) (by decide +kernel)
set_option maxRecDepth 20000 in
theorem gX6_lose_X2_empty : GoodIn wsX6_lose (wsV RX6 214 RX2 yX2_empty wsX2_empty) := goodIn_app (goodIn_of _ (by decide +kernel)) ggX6_lose_X2_empty
theorem dX6_lose_0 : decode cX6_lose 0 = .ok (.aload_n 0, 1) := by decide +kernel
theorem dX6_lose_1 : decode cX6_lose 1 = .ok (.iload_n 1, 1) := by decide +kernel
theorem dX6_lose_2 : decode cX6_lose 2 = .ok (.invokevirtual 63, 3) := by decide +kernel
theorem dX6_lose_5 : decode cX6_lose 5 = .ok (.astore_n 2, 1) := by decide +kernel
theorem dX6_lose_6 : decode cX6_lose 6 = .ok (.aload_n 2, 1) := by decide +kernel
theorem dX6_lose_7 : decode cX6_lose 7 = .ok (.ifnonnull 5, 3) := by decide +kernel
theorem dX6_lose_10 : decode cX6_lose 10 = .ok (.iconst (-1), 1) := by decide +kernel
theorem dX6_lose_11 : decode cX6_lose 11 = .ok (.ireturn, 1) := by decide +kernel
theorem dX6_lose_12 : decode cX6_lose 12 = .ok (.aload_n 2, 1) := by decide +kernel
theorem dX6_lose_13 : decode cX6_lose 13 = .ok (.invokevirtual 211, 3) := by decide +kernel
theorem dX6_lose_16 : decode cX6_lose 16 = .ok (.istore_n 3, 1) := by decide +kernel
theorem dX6_lose_17 : decode cX6_lose 17 = .ok (.aload_n 2, 1) := by decide +kernel
theorem dX6_lose_18 : decode cX6_lose 18 = .ok (.invokevirtual 214, 3) := by decide +kernel
theorem dX6_lose_21 : decode cX6_lose 21 = .ok (.iload_n 3, 1) := by decide +kernel
theorem dX6_lose_22 : decode cX6_lose 22 = .ok (.ifCond .eq 7, 3) := by decide +kernel
theorem dX6_lose_25 : decode cX6_lose 25 = .ok (.iconst 1, 1) := by decide +kernel
theorem dX6_lose_26 : decode cX6_lose 26 = .ok (.goto 4, 3) := by decide +kernel
theorem dX6_lose_29 : decode cX6_lose 29 = .ok (.iconst 0, 1) := by decide +kernel
theorem dX6_lose_30 : decode cX6_lose 30 = .ok (.ireturn, 1) := by decide +kernel
set_option maxRecDepth 20000 in
theorem ggX6_put_X6_sheetAt : GoodIn wsX6_put wsX6_sheetAt := goodIn_r _ [6, 7, 33, 34, 35, 36, 37, 38, 39, 40, 41, 42, 43, 44, 45] (by decide +kernel) (by decide +kernel)
set_option maxRecDepth 20000 in
theorem gX6_put_X6_sheetAt : GoodIn wsX6_put (wsV RX6 63 RX6 yX6_sheetAt wsX6_sheetAt) := goodIn_app (goodIn_of _ (by decide +kernel)) ggX6_put_X6_sheetAt
set_option maxRecDepth 20000 in
theorem ggX6_put_X2_hasRow : GoodIn wsX6_put wsX2_hasRow := goodIn_r _ [12, 13, 46, 47, 48] (by decide +kernel) (by decide +kernel)
set_option maxRecDepth 20000 in
theorem gX6_put_X2_hasRow : GoodIn wsX6_put (wsV RX6 211 RX2 yX2_hasRow wsX2_hasRow) := goodIn_app (goodIn_of _ (by decide +kernel)) ggX6_put_X2_hasRow
set_option maxRecDepth 20000 in
theorem ggX6_put_X6_faulted : GoodIn wsX6_put wsX6_faulted := goodIn_r _ [17, 1, 33, 34, 35, 36, 37, 38, 39, 40, 41, 42, 43, 44, 45] (by decide +kernel) (by decide +kernel)
set_option maxRecDepth 20000 in
theorem gX6_put_X6_faulted : GoodIn wsX6_put (wsV RX6 75 RX6 yX6_faulted wsX6_faulted) := goodIn_app (goodIn_of _ (by decide +kernel)) ggX6_put_X6_faulted
set_option maxRecDepth 20000 in
theorem ggX6_put_X2_hasCell : GoodIn wsX6_put wsX2_hasCell := goodIn_r _ [21, 22, 23, 46, 47, 48] (by decide +kernel) (by decide +kernel)
set_option maxRecDepth 20000 in
theorem gX6_put_X2_hasCell : GoodIn wsX6_put (wsV RX6 217 RX2 yX2_hasCell wsX2_hasCell) := goodIn_app (goodIn_of _ (by decide +kernel)) ggX6_put_X2_hasCell
set_option maxRecDepth 20000 in
theorem ggX6_put_X2_write : GoodIn wsX6_put wsX2_write := goodIn_r _ [27, 23, 28, 19, 20, 11, 21, 22, 29, 30, 31, 32, 13, 46, 47, 48] (by decide +kernel) (by decide +kernel)
set_option maxRecDepth 20000 in
theorem gX6_put_X2_write : GoodIn wsX6_put (wsV RX6 220 RX2 yX2_write wsX2_write) := goodIn_app (goodIn_of _ (by decide +kernel)) ggX6_put_X2_write
theorem dX6_put_0 : decode cX6_put 0 = .ok (.aload_n 0, 1) := by decide +kernel
theorem dX6_put_1 : decode cX6_put 1 = .ok (.iconst 0, 1) := by decide +kernel
theorem dX6_put_2 : decode cX6_put 2 = .ok (.putfield 59, 3) := by decide +kernel
theorem dX6_put_5 : decode cX6_put 5 = .ok (.aload_n 0, 1) := by decide +kernel
theorem dX6_put_6 : decode cX6_put 6 = .ok (.iload_n 1, 1) := by decide +kernel
theorem dX6_put_7 : decode cX6_put 7 = .ok (.invokevirtual 63, 3) := by decide +kernel
theorem dX6_put_10 : decode cX6_put 10 = .ok (.astore 4, 2) := by decide +kernel
theorem dX6_put_12 : decode cX6_put 12 = .ok (.aload 4, 2) := by decide +kernel
theorem dX6_put_14 : decode cX6_put 14 = .ok (.ifnonnull 5, 3) := by decide +kernel
theorem dX6_put_17 : decode cX6_put 17 = .ok (.iconst (-1), 1) := by decide +kernel
theorem dX6_put_18 : decode cX6_put 18 = .ok (.ireturn, 1) := by decide +kernel
theorem dX6_put_19 : decode cX6_put 19 = .ok (.aload 4, 2) := by decide +kernel
theorem dX6_put_21 : decode cX6_put 21 = .ok (.invokevirtual 211, 3) := by decide +kernel
theorem dX6_put_24 : decode cX6_put 24 = .ok (.ifCond .ne 9, 3) := by decide +kernel
theorem dX6_put_27 : decode cX6_put 27 = .ok (.aload_n 0, 1) := by decide +kernel
theorem dX6_put_28 : decode cX6_put 28 = .ok (.iconst 1, 1) := by decide +kernel
theorem dX6_put_29 : decode cX6_put 29 = .ok (.invokevirtual 75, 3) := by decide +kernel
theorem dX6_put_32 : decode cX6_put 32 = .ok (.ireturn, 1) := by decide +kernel
theorem dX6_put_33 : decode cX6_put 33 = .ok (.aload 4, 2) := by decide +kernel
theorem dX6_put_35 : decode cX6_put 35 = .ok (.iload_n 2, 1) := by decide +kernel
theorem dX6_put_36 : decode cX6_put 36 = .ok (.invokevirtual 217, 3) := by decide +kernel
theorem dX6_put_39 : decode cX6_put 39 = .ok (.ifCond .ne 9, 3) := by decide +kernel
theorem dX6_put_42 : decode cX6_put 42 = .ok (.aload_n 0, 1) := by decide +kernel
theorem dX6_put_43 : decode cX6_put 43 = .ok (.iconst 3, 1) := by decide +kernel
theorem dX6_put_44 : decode cX6_put 44 = .ok (.invokevirtual 75, 3) := by decide +kernel
theorem dX6_put_47 : decode cX6_put 47 = .ok (.ireturn, 1) := by decide +kernel
theorem dX6_put_48 : decode cX6_put 48 = .ok (.aload 4, 2) := by decide +kernel
theorem dX6_put_50 : decode cX6_put 50 = .ok (.iload_n 2, 1) := by decide +kernel
theorem dX6_put_51 : decode cX6_put 51 = .ok (.iload_n 3, 1) := by decide +kernel
theorem dX6_put_52 : decode cX6_put 52 = .ok (.invokevirtual 220, 3) := by decide +kernel
theorem dX6_put_55 : decode cX6_put 55 = .ok (.iconst 1, 1) := by decide +kernel
theorem dX6_put_56 : decode cX6_put 56 = .ok (.ireturn, 1) := by decide +kernel
set_option maxRecDepth 20000 in
theorem ggX6_cell_X6_sheetAt : GoodIn wsX6_cell wsX6_sheetAt := goodIn_r _ [7, 8, 33, 34, 35, 36, 37, 38, 39, 40, 41, 42, 43, 44, 45] (by decide +kernel) (by decide +kernel)
set_option maxRecDepth 20000 in
theorem gX6_cell_X6_sheetAt : GoodIn wsX6_cell (wsV RX6 63 RX6 yX6_sheetAt wsX6_sheetAt) := goodIn_app (goodIn_of _ (by decide +kernel)) ggX6_cell_X6_sheetAt
set_option maxRecDepth 20000 in
theorem ggX6_cell_X6_within : GoodIn wsX6_cell wsX6_within := goodIn_r _ [11] (by decide +kernel) (by decide +kernel)
set_option maxRecDepth 20000 in
theorem gX6_cell_X6_within : GoodIn wsX6_cell (va_wsS RX6 67 yX6_within wsX6_within) := goodIn_app (goodIn_of _ (by decide +kernel)) ggX6_cell_X6_within
set_option maxRecDepth 20000 in
theorem ggX6_cell_X2_faultOfLane : GoodIn wsX6_cell wsX2_faultOfLane := goodIn_r _ [16, 17, 18, 19, 20, 15, 21, 46, 47, 48] (by decide +kernel) (by decide +kernel)
set_option maxRecDepth 20000 in
theorem gX6_cell_X2_faultOfLane : GoodIn wsX6_cell (wsV RX6 223 RX2 yX2_faultOfLane wsX2_faultOfLane) := goodIn_app (goodIn_of _ (by decide +kernel)) ggX6_cell_X2_faultOfLane
set_option maxRecDepth 20000 in
theorem ggX6_cell_X2_hasCell : GoodIn wsX6_cell wsX2_hasCell := goodIn_r _ [25, 26, 27, 46, 47, 48] (by decide +kernel) (by decide +kernel)
set_option maxRecDepth 20000 in
theorem gX6_cell_X2_hasCell : GoodIn wsX6_cell (wsV RX6 217 RX2 yX2_hasCell wsX2_hasCell) := goodIn_app (goodIn_of _ (by decide +kernel)) ggX6_cell_X2_hasCell
set_option maxRecDepth 20000 in
theorem ggX6_cell_X2_numberAt : GoodIn wsX6_cell wsX2_numberAt := goodIn_r _ [31, 27, 32, 23, 24, 15, 25, 26, 46, 47, 48] (by decide +kernel) (by decide +kernel)
set_option maxRecDepth 20000 in
theorem gX6_cell_X2_numberAt : GoodIn wsX6_cell (wsV RX6 226 RX2 yX2_numberAt wsX2_numberAt) := goodIn_app (goodIn_of _ (by decide +kernel)) ggX6_cell_X2_numberAt
theorem dX6_cell_0 : decode cX6_cell 0 = .ok (.aload_n 0, 1) := by decide +kernel
theorem dX6_cell_1 : decode cX6_cell 1 = .ok (.iconst 0, 1) := by decide +kernel
theorem dX6_cell_2 : decode cX6_cell 2 = .ok (.putfield 59, 3) := by decide +kernel
theorem dX6_cell_5 : decode cX6_cell 5 = .ok (.aload_n 0, 1) := by decide +kernel
theorem dX6_cell_6 : decode cX6_cell 6 = .ok (.iload_n 1, 1) := by decide +kernel
theorem dX6_cell_7 : decode cX6_cell 7 = .ok (.invokevirtual 63, 3) := by decide +kernel
theorem dX6_cell_10 : decode cX6_cell 10 = .ok (.astore 4, 2) := by decide +kernel
theorem dX6_cell_12 : decode cX6_cell 12 = .ok (.aload 4, 2) := by decide +kernel
theorem dX6_cell_14 : decode cX6_cell 14 = .ok (.ifnull 12, 3) := by decide +kernel
theorem dX6_cell_17 : decode cX6_cell 17 = .ok (.iload_n 3, 1) := by decide +kernel
theorem dX6_cell_18 : decode cX6_cell 18 = .ok (.iconst 0, 1) := by decide +kernel
theorem dX6_cell_19 : decode cX6_cell 19 = .ok (.iconst 2, 1) := by decide +kernel
theorem dX6_cell_20 : decode cX6_cell 20 = .ok (.invokestatic 67, 3) := by decide +kernel
theorem dX6_cell_23 : decode cX6_cell 23 = .ok (.ifCond .ne 7, 3) := by decide +kernel
theorem dX6_cell_26 : decode cX6_cell 26 = .ok (.ldc2_w 199, 3) := by decide +kernel
theorem dX6_cell_29 : decode cX6_cell 29 = .ok (.lreturn, 1) := by decide +kernel
theorem dX6_cell_30 : decode cX6_cell 30 = .ok (.aload_n 0, 1) := by decide +kernel
theorem dX6_cell_31 : decode cX6_cell 31 = .ok (.aload 4, 2) := by decide +kernel
theorem dX6_cell_33 : decode cX6_cell 33 = .ok (.iload_n 3, 1) := by decide +kernel
theorem dX6_cell_34 : decode cX6_cell 34 = .ok (.invokevirtual 223, 3) := by decide +kernel
theorem dX6_cell_37 : decode cX6_cell 37 = .ok (.putfield 59, 3) := by decide +kernel
theorem dX6_cell_40 : decode cX6_cell 40 = .ok (.aload_n 0, 1) := by decide +kernel
theorem dX6_cell_41 : decode cX6_cell 41 = .ok (.getfield 59, 3) := by decide +kernel
theorem dX6_cell_44 : decode cX6_cell 44 = .ok (.ifCond .ne 17, 3) := by decide +kernel
theorem dX6_cell_47 : decode cX6_cell 47 = .ok (.aload 4, 2) := by decide +kernel
theorem dX6_cell_49 : decode cX6_cell 49 = .ok (.iload_n 2, 1) := by decide +kernel
theorem dX6_cell_50 : decode cX6_cell 50 = .ok (.invokevirtual 217, 3) := by decide +kernel
theorem dX6_cell_53 : decode cX6_cell 53 = .ok (.ifCond .ne 8, 3) := by decide +kernel
theorem dX6_cell_56 : decode cX6_cell 56 = .ok (.aload_n 0, 1) := by decide +kernel
theorem dX6_cell_57 : decode cX6_cell 57 = .ok (.iconst 3, 1) := by decide +kernel
theorem dX6_cell_58 : decode cX6_cell 58 = .ok (.putfield 59, 3) := by decide +kernel
theorem dX6_cell_61 : decode cX6_cell 61 = .ok (.aload_n 0, 1) := by decide +kernel
theorem dX6_cell_62 : decode cX6_cell 62 = .ok (.getfield 59, 3) := by decide +kernel
theorem dX6_cell_65 : decode cX6_cell 65 = .ok (.ifCond .ne 13, 3) := by decide +kernel
theorem dX6_cell_68 : decode cX6_cell 68 = .ok (.aload 4, 2) := by decide +kernel
theorem dX6_cell_70 : decode cX6_cell 70 = .ok (.iload_n 2, 1) := by decide +kernel
theorem dX6_cell_71 : decode cX6_cell 71 = .ok (.invokevirtual 226, 3) := by decide +kernel
theorem dX6_cell_74 : decode cX6_cell 74 = .ok (.i2l, 1) := by decide +kernel
theorem dX6_cell_75 : decode cX6_cell 75 = .ok (.goto 6, 3) := by decide +kernel
theorem dX6_cell_78 : decode cX6_cell 78 = .ok (.ldc2_w 199, 3) := by decide +kernel
theorem dX6_cell_81 : decode cX6_cell 81 = .ok (.lreturn, 1) := by decide +kernel
set_option maxRecDepth 20000 in
theorem ggX6_copy_X6_sheetAt : GoodIn wsX6_copy wsX6_sheetAt := goodIn_r _ [12, 13, 30, 31, 32, 33, 34, 35, 36, 37, 38, 39, 40, 41, 42] (by decide +kernel) (by decide +kernel)
set_option maxRecDepth 20000 in
theorem gX6_copy_X6_sheetAt : GoodIn wsX6_copy (wsV RX6 63 RX6 yX6_sheetAt wsX6_sheetAt) := goodIn_app (goodIn_of _ (by decide +kernel)) ggX6_copy_X6_sheetAt
set_option maxRecDepth 20000 in
theorem ggX6_copy_X2_hasRow : GoodIn wsX6_copy wsX2_hasRow := goodIn_r _ [18, 19, 43, 44, 45] (by decide +kernel) (by decide +kernel)
set_option maxRecDepth 20000 in
theorem gX6_copy_X2_hasRow : GoodIn wsX6_copy (wsV RX6 211 RX2 yX2_hasRow wsX2_hasRow) := goodIn_app (goodIn_of _ (by decide +kernel)) ggX6_copy_X2_hasRow
set_option maxRecDepth 20000 in
theorem ggX6_copy_X6_faulted : GoodIn wsX6_copy wsX6_faulted := goodIn_r _ [23, 1, 30, 31, 32, 33, 34, 35, 36, 37, 38, 39, 40, 41, 42] (by decide +kernel) (by decide +kernel)
set_option maxRecDepth 20000 in
theorem gX6_copy_X6_faulted : GoodIn wsX6_copy (wsV RX6 75 RX6 yX6_faulted wsX6_faulted) := goodIn_app (goodIn_of _ (by decide +kernel)) ggX6_copy_X6_faulted
set_option maxRecDepth 20000 in
theorem ggX6_copy_X2_hasCells : GoodIn wsX6_copy wsX2_hasCells := goodIn_r _ [27, 28, 29, 43, 44, 45] (by decide +kernel) (by decide +kernel)
set_option maxRecDepth 20000 in
theorem gX6_copy_X2_hasCells : GoodIn wsX6_copy (wsV RX6 232 RX2 yX2_hasCells wsX2_hasCells) := goodIn_app (goodIn_of _ (by decide +kernel)) ggX6_copy_X2_hasCells
theorem dX6_copy_0 : decode cX6_copy 0 = .ok (.aload_n 0, 1) := by decide +kernel
theorem dX6_copy_1 : decode cX6_copy 1 = .ok (.iconst 0, 1) := by decide +kernel
theorem dX6_copy_2 : decode cX6_copy 2 = .ok (.putfield 59, 3) := by decide +kernel
theorem dX6_copy_5 : decode cX6_copy 5 = .ok (.aload_n 0, 1) := by decide +kernel
theorem dX6_copy_6 : decode cX6_copy 6 = .ok (.iload_n 1, 1) := by decide +kernel
theorem dX6_copy_7 : decode cX6_copy 7 = .ok (.invokevirtual 63, 3) := by decide +kernel
theorem dX6_copy_10 : decode cX6_copy 10 = .ok (.astore 6, 2) := by decide +kernel
theorem dX6_copy_12 : decode cX6_copy 12 = .ok (.aload_n 0, 1) := by decide +kernel
theorem dX6_copy_13 : decode cX6_copy 13 = .ok (.iload_n 3, 1) := by decide +kernel
theorem dX6_copy_14 : decode cX6_copy 14 = .ok (.invokevirtual 63, 3) := by decide +kernel
theorem dX6_copy_17 : decode cX6_copy 17 = .ok (.astore 7, 2) := by decide +kernel
theorem dX6_copy_19 : decode cX6_copy 19 = .ok (.aload 6, 2) := by decide +kernel
theorem dX6_copy_21 : decode cX6_copy 21 = .ok (.ifnull 8, 3) := by decide +kernel
theorem dX6_copy_24 : decode cX6_copy 24 = .ok (.aload 7, 2) := by decide +kernel
theorem dX6_copy_26 : decode cX6_copy 26 = .ok (.ifnonnull 5, 3) := by decide +kernel
theorem dX6_copy_29 : decode cX6_copy 29 = .ok (.iconst (-1), 1) := by decide +kernel
theorem dX6_copy_30 : decode cX6_copy 30 = .ok (.ireturn, 1) := by decide +kernel
theorem dX6_copy_31 : decode cX6_copy 31 = .ok (.aload 6, 2) := by decide +kernel
theorem dX6_copy_33 : decode cX6_copy 33 = .ok (.invokevirtual 211, 3) := by decide +kernel
theorem dX6_copy_36 : decode cX6_copy 36 = .ok (.ifCond .eq 11, 3) := by decide +kernel
theorem dX6_copy_39 : decode cX6_copy 39 = .ok (.aload 7, 2) := by decide +kernel
theorem dX6_copy_41 : decode cX6_copy 41 = .ok (.invokevirtual 211, 3) := by decide +kernel
theorem dX6_copy_44 : decode cX6_copy 44 = .ok (.ifCond .ne 9, 3) := by decide +kernel
theorem dX6_copy_47 : decode cX6_copy 47 = .ok (.aload_n 0, 1) := by decide +kernel
theorem dX6_copy_48 : decode cX6_copy 48 = .ok (.iconst 1, 1) := by decide +kernel
theorem dX6_copy_49 : decode cX6_copy 49 = .ok (.invokevirtual 75, 3) := by decide +kernel
theorem dX6_copy_52 : decode cX6_copy 52 = .ok (.ireturn, 1) := by decide +kernel
theorem dX6_copy_53 : decode cX6_copy 53 = .ok (.aload 6, 2) := by decide +kernel
theorem dX6_copy_55 : decode cX6_copy 55 = .ok (.getfield 229, 3) := by decide +kernel
theorem dX6_copy_58 : decode cX6_copy 58 = .ok (.aload 7, 2) := by decide +kernel
theorem dX6_copy_60 : decode cX6_copy 60 = .ok (.getfield 229, 3) := by decide +kernel
theorem dX6_copy_63 : decode cX6_copy 63 = .ok (.if_icmp .eq 9, 3) := by decide +kernel
theorem dX6_copy_66 : decode cX6_copy 66 = .ok (.aload_n 0, 1) := by decide +kernel
theorem dX6_copy_67 : decode cX6_copy 67 = .ok (.iconst 2, 1) := by decide +kernel
theorem dX6_copy_68 : decode cX6_copy 68 = .ok (.invokevirtual 75, 3) := by decide +kernel
theorem dX6_copy_71 : decode cX6_copy 71 = .ok (.ireturn, 1) := by decide +kernel
theorem dX6_copy_72 : decode cX6_copy 72 = .ok (.aload 6, 2) := by decide +kernel
theorem dX6_copy_74 : decode cX6_copy 74 = .ok (.iload_n 2, 1) := by decide +kernel
theorem dX6_copy_75 : decode cX6_copy 75 = .ok (.iload 5, 2) := by decide +kernel
theorem dX6_copy_77 : decode cX6_copy 77 = .ok (.invokevirtual 232, 3) := by decide +kernel
theorem dX6_copy_80 : decode cX6_copy 80 = .ok (.ifCond .eq 15, 3) := by decide +kernel
theorem dX6_copy_83 : decode cX6_copy 83 = .ok (.aload 7, 2) := by decide +kernel
theorem dX6_copy_85 : decode cX6_copy 85 = .ok (.iload 4, 2) := by decide +kernel
theorem dX6_copy_87 : decode cX6_copy 87 = .ok (.iload 5, 2) := by decide +kernel
theorem dX6_copy_89 : decode cX6_copy 89 = .ok (.invokevirtual 232, 3) := by decide +kernel
theorem dX6_copy_92 : decode cX6_copy 92 = .ok (.ifCond .ne 9, 3) := by decide +kernel
theorem dX6_copy_95 : decode cX6_copy 95 = .ok (.aload_n 0, 1) := by decide +kernel
theorem dX6_copy_96 : decode cX6_copy 96 = .ok (.iconst 3, 1) := by decide +kernel
theorem dX6_copy_97 : decode cX6_copy 97 = .ok (.invokevirtual 75, 3) := by decide +kernel
theorem dX6_copy_100 : decode cX6_copy 100 = .ok (.ireturn, 1) := by decide +kernel
theorem dX6_copy_101 : decode cX6_copy 101 = .ok (.aload 6, 2) := by decide +kernel
theorem dX6_copy_103 : decode cX6_copy 103 = .ok (.getfield 235, 3) := by decide +kernel
theorem dX6_copy_106 : decode cX6_copy 106 = .ok (.iload_n 2, 1) := by decide +kernel
theorem dX6_copy_107 : decode cX6_copy 107 = .ok (.aload 7, 2) := by decide +kernel
theorem dX6_copy_109 : decode cX6_copy 109 = .ok (.getfield 235, 3) := by decide +kernel
theorem dX6_copy_112 : decode cX6_copy 112 = .ok (.iload 4, 2) := by decide +kernel
theorem dX6_copy_114 : decode cX6_copy 114 = .ok (.iload 5, 2) := by decide +kernel
theorem dX6_copy_116 : decode cX6_copy 116 = .ok (.invokestatic 239, 3) := by decide +kernel
theorem dX6_copy_119 : decode cX6_copy 119 = .ok (.iload 5, 2) := by decide +kernel
theorem dX6_copy_121 : decode cX6_copy 121 = .ok (.ireturn, 1) := by decide +kernel
set_option maxRecDepth 20000 in
theorem ggX6_tell_X6_thingAt : GoodIn wsX6_tell wsX6_thingAt := goodIn_r _ [6, 7, 8, 32, 33, 34, 35, 36, 37, 38, 39, 40, 41, 42, 43, 44] (by decide +kernel) (by decide +kernel)
set_option maxRecDepth 20000 in
theorem gX6_tell_X6_thingAt : GoodIn wsX6_tell (wsV RX6 93 RX6 yX6_thingAt wsX6_thingAt) := goodIn_app (goodIn_of _ (by decide +kernel)) ggX6_tell_X6_thingAt
set_option maxRecDepth 20000 in
theorem ggX6_tell_X6_tellLetter : GoodIn wsX6_tell wsX6_tellLetter := goodIn_r _ [12, 13, 14, 15, 5, 16, 17, 18, 19, 20, 21, 22, 32, 33, 34, 35, 36, 37, 38, 39, 40, 41, 42, 43, 44, 27, 28, 29, 30, 31] (by decide +kernel) (by decide +kernel)
set_option maxRecDepth 20000 in
theorem gX6_tell_X6_tellLetter : GoodIn wsX6_tell (wsV RX6 245 RX6 yX6_tellLetter wsX6_tellLetter) := goodIn_app (goodIn_of _ (by decide +kernel)) ggX6_tell_X6_tellLetter
set_option maxRecDepth 20000 in
theorem ggX6_tell_X6_tellRing : GoodIn wsX6_tell wsX6_tellRing := goodIn_r _ [26, 13, 14, 15, 5, 16, 17, 9, 10, 11, 12, 18, 19, 20, 21, 22, 32, 33, 34, 35, 36, 37, 38, 39, 40, 41, 42, 43, 44, 27, 28, 29, 30, 31] (by decide +kernel) (by decide +kernel)
set_option maxRecDepth 20000 in
theorem gX6_tell_X6_tellRing : GoodIn wsX6_tell (wsV RX6 248 RX6 yX6_tellRing wsX6_tellRing) := goodIn_app (goodIn_of _ (by decide +kernel)) ggX6_tell_X6_tellRing
set_option maxRecDepth 20000 in
theorem ggX6_tell_X6_tellThing : GoodIn wsX6_tell wsX6_tellThing := goodIn_r _ [21, 22, 13, 14, 15, 5, 16, 17, 27, 28, 29, 30, 31, 32, 33, 34, 35, 36, 37, 38, 39, 40, 41, 42, 43, 44] (by decide +kernel) (by decide +kernel)
set_option maxRecDepth 20000 in
theorem gX6_tell_X6_tellThing : GoodIn wsX6_tell (wsV RX6 251 RX6 yX6_tellThing wsX6_tellThing) := goodIn_app (goodIn_of _ (by decide +kernel)) ggX6_tell_X6_tellThing
theorem dX6_tell_0 : decode cX6_tell 0 = .ok (.aload_n 0, 1) := by decide +kernel
theorem dX6_tell_1 : decode cX6_tell 1 = .ok (.iload_n 1, 1) := by decide +kernel
theorem dX6_tell_2 : decode cX6_tell 2 = .ok (.invokevirtual 93, 3) := by decide +kernel
theorem dX6_tell_5 : decode cX6_tell 5 = .ok (.astore_n 2, 1) := by decide +kernel
theorem dX6_tell_6 : decode cX6_tell 6 = .ok (.aload_n 2, 1) := by decide +kernel
theorem dX6_tell_7 : decode cX6_tell 7 = .ok (.ifnonnull 5, 3) := by decide +kernel
theorem dX6_tell_10 : decode cX6_tell 10 = .ok (.iconst (-1), 1) := by decide +kernel
theorem dX6_tell_11 : decode cX6_tell 11 = .ok (.ireturn, 1) := by decide +kernel
theorem dX6_tell_12 : decode cX6_tell 12 = .ok (.aload_n 2, 1) := by decide +kernel
theorem dX6_tell_13 : decode cX6_tell 13 = .ok (.getfield 97, 3) := by decide +kernel
theorem dX6_tell_16 : decode cX6_tell 16 = .ok (.lookupswitch 40 #[(1, 28), (2, 34)], 28) := by decide +kernel
theorem dX6_tell_44 : decode cX6_tell 44 = .ok (.aload_n 0, 1) := by decide +kernel
theorem dX6_tell_45 : decode cX6_tell 45 = .ok (.aload_n 2, 1) := by decide +kernel
theorem dX6_tell_46 : decode cX6_tell 46 = .ok (.invokevirtual 245, 3) := by decide +kernel
theorem dX6_tell_49 : decode cX6_tell 49 = .ok (.ireturn, 1) := by decide +kernel
theorem dX6_tell_50 : decode cX6_tell 50 = .ok (.aload_n 0, 1) := by decide +kernel
theorem dX6_tell_51 : decode cX6_tell 51 = .ok (.aload_n 2, 1) := by decide +kernel
theorem dX6_tell_52 : decode cX6_tell 52 = .ok (.invokevirtual 248, 3) := by decide +kernel
theorem dX6_tell_55 : decode cX6_tell 55 = .ok (.ireturn, 1) := by decide +kernel
theorem dX6_tell_56 : decode cX6_tell 56 = .ok (.aload_n 0, 1) := by decide +kernel
theorem dX6_tell_57 : decode cX6_tell 57 = .ok (.aload_n 2, 1) := by decide +kernel
theorem dX6_tell_58 : decode cX6_tell 58 = .ok (.invokevirtual 251, 3) := by decide +kernel
theorem dX6_tell_61 : decode cX6_tell 61 = .ok (.ireturn, 1) := by decide +kernel
set_option maxRecDepth 20000 in
theorem ggX6_splash_X6_thingAt : GoodIn wsX6_splash wsX6_thingAt := goodIn_r _ [6, 7, 8, 19, 20, 21, 22, 23, 24, 25, 26, 27, 28, 29, 30, 31] (by decide +kernel) (by decide +kernel)
set_option maxRecDepth 20000 in
theorem gX6_splash_X6_thingAt : GoodIn wsX6_splash (wsV RX6 93 RX6 yX6_thingAt wsX6_thingAt) := goodIn_app (goodIn_of _ (by decide +kernel)) ggX6_splash_X6_thingAt
set_option maxRecDepth 20000 in
theorem ggX6_splash_X6_leaveTrace : GoodIn wsX6_splash wsX6_leaveTrace := goodIn_r _ [12, 13, 19, 20, 21, 22, 23, 24, 25, 26, 27, 28, 29, 30, 31] (by decide +kernel) (by decide +kernel)
set_option maxRecDepth 20000 in
theorem gX6_splash_X6_leaveTrace : GoodIn wsX6_splash (wsV RX6 254 RX6 yX6_leaveTrace wsX6_leaveTrace) := goodIn_app (goodIn_of _ (by decide +kernel)) ggX6_splash_X6_leaveTrace
theorem dX6_splash_0 : decode cX6_splash 0 = .ok (.aload_n 0, 1) := by decide +kernel
theorem dX6_splash_1 : decode cX6_splash 1 = .ok (.iload_n 1, 1) := by decide +kernel
theorem dX6_splash_2 : decode cX6_splash 2 = .ok (.invokevirtual 93, 3) := by decide +kernel
theorem dX6_splash_5 : decode cX6_splash 5 = .ok (.astore_n 2, 1) := by decide +kernel
theorem dX6_splash_6 : decode cX6_splash 6 = .ok (.aload_n 2, 1) := by decide +kernel
theorem dX6_splash_7 : decode cX6_splash 7 = .ok (.ifnonnull 5, 3) := by decide +kernel
theorem dX6_splash_10 : decode cX6_splash 10 = .ok (.iconst (-1), 1) := by decide +kernel
theorem dX6_splash_11 : decode cX6_splash 11 = .ok (.ireturn, 1) := by decide +kernel
theorem dX6_splash_12 : decode cX6_splash 12 = .ok (.aload_n 2, 1) := by decide +kernel
theorem dX6_splash_13 : decode cX6_splash 13 = .ok (.getfield 97, 3) := by decide +kernel
theorem dX6_splash_16 : decode cX6_splash 16 = .ok (.iconst 2, 1) := by decide +kernel
theorem dX6_splash_17 : decode cX6_splash 17 = .ok (.if_icmp .ne 11, 3) := by decide +kernel
theorem dX6_splash_20 : decode cX6_splash 20 = .ok (.aload_n 0, 1) := by decide +kernel
theorem dX6_splash_21 : decode cX6_splash 21 = .ok (.iconst 5, 1) := by decide +kernel
theorem dX6_splash_22 : decode cX6_splash 22 = .ok (.invokevirtual 254, 3) := by decide +kernel
theorem dX6_splash_25 : decode cX6_splash 25 = .ok (.bipush 80, 2) := by decide +kernel
theorem dX6_splash_27 : decode cX6_splash 27 = .ok (.ireturn, 1) := by decide +kernel
theorem dX6_splash_28 : decode cX6_splash 28 = .ok (.aload_n 0, 1) := by decide +kernel
theorem dX6_splash_29 : decode cX6_splash 29 = .ok (.iconst 4, 1) := by decide +kernel
theorem dX6_splash_30 : decode cX6_splash 30 = .ok (.invokevirtual 254, 3) := by decide +kernel
theorem dX6_splash_33 : decode cX6_splash 33 = .ok (.iload_n 1, 1) := by decide +kernel
theorem dX6_splash_34 : decode cX6_splash 34 = .ok (.ireturn, 1) := by decide +kernel
set_option maxRecDepth 20000 in
theorem ggX6_as_X6_thingAt : GoodIn wsX6_as wsX6_thingAt := goodIn_r _ [7, 8, 9, 17, 18, 19, 20, 21, 22, 23, 24, 25, 26, 27, 28, 29] (by decide +kernel) (by decide +kernel)
set_option maxRecDepth 20000 in
theorem gX6_as_X6_thingAt : GoodIn wsX6_as (wsV RX6 93 RX6 yX6_thingAt wsX6_thingAt) := goodIn_app (goodIn_of _ (by decide +kernel)) ggX6_as_X6_thingAt
set_option maxRecDepth 20000 in
theorem ggX6_as_X6_within : GoodIn wsX6_as wsX6_within := goodIn_r _ [12] (by decide +kernel) (by decide +kernel)
set_option maxRecDepth 20000 in
theorem gX6_as_X6_within : GoodIn wsX6_as (va_wsS RX6 67 yX6_within wsX6_within) := goodIn_app (goodIn_of _ (by decide +kernel)) ggX6_as_X6_within
set_option maxRecDepth 20000 in
theorem ggX6_as_X6_faulted : GoodIn wsX6_as wsX6_faulted := goodIn_r _ [16, 1, 17, 18, 19, 20, 21, 22, 23, 24, 25, 26, 27, 28, 29] (by decide +kernel) (by decide +kernel)
set_option maxRecDepth 20000 in
theorem gX6_as_X6_faulted : GoodIn wsX6_as (wsV RX6 75 RX6 yX6_faulted wsX6_faulted) := goodIn_app (goodIn_of _ (by decide +kernel)) ggX6_as_X6_faulted
theorem dX6_as_0 : decode cX6_as 0 = .ok (.aload_n 0, 1) := by decide +kernel
theorem dX6_as_1 : decode cX6_as 1 = .ok (.iconst 0, 1) := by decide +kernel
theorem dX6_as_2 : decode cX6_as 2 = .ok (.putfield 59, 3) := by decide +kernel
theorem dX6_as_5 : decode cX6_as 5 = .ok (.aload_n 0, 1) := by decide +kernel
theorem dX6_as_6 : decode cX6_as 6 = .ok (.iload_n 1, 1) := by decide +kernel
theorem dX6_as_7 : decode cX6_as 7 = .ok (.invokevirtual 93, 3) := by decide +kernel
theorem dX6_as_10 : decode cX6_as 10 = .ok (.astore_n 3, 1) := by decide +kernel
theorem dX6_as_11 : decode cX6_as 11 = .ok (.aload_n 3, 1) := by decide +kernel
theorem dX6_as_12 : decode cX6_as 12 = .ok (.ifnonnull 5, 3) := by decide +kernel
theorem dX6_as_15 : decode cX6_as 15 = .ok (.iconst (-1), 1) := by decide +kernel
theorem dX6_as_16 : decode cX6_as 16 = .ok (.ireturn, 1) := by decide +kernel
theorem dX6_as_17 : decode cX6_as 17 = .ok (.iload_n 2, 1) := by decide +kernel
theorem dX6_as_18 : decode cX6_as 18 = .ok (.iconst 0, 1) := by decide +kernel
theorem dX6_as_19 : decode cX6_as 19 = .ok (.iconst 2, 1) := by decide +kernel
theorem dX6_as_20 : decode cX6_as 20 = .ok (.invokestatic 67, 3) := by decide +kernel
theorem dX6_as_23 : decode cX6_as 23 = .ok (.ifCond .ne 6, 3) := by decide +kernel
theorem dX6_as_26 : decode cX6_as 26 = .ok (.bipush (-2), 2) := by decide +kernel
theorem dX6_as_28 : decode cX6_as 28 = .ok (.ireturn, 1) := by decide +kernel
theorem dX6_as_29 : decode cX6_as 29 = .ok (.aload_n 3, 1) := by decide +kernel
theorem dX6_as_30 : decode cX6_as 30 = .ok (.getfield 97, 3) := by decide +kernel
theorem dX6_as_33 : decode cX6_as 33 = .ok (.iload_n 2, 1) := by decide +kernel
theorem dX6_as_34 : decode cX6_as 34 = .ok (.if_icmp .lt 7, 3) := by decide +kernel
theorem dX6_as_37 : decode cX6_as 37 = .ok (.iconst 1, 1) := by decide +kernel
theorem dX6_as_38 : decode cX6_as 38 = .ok (.goto 8, 3) := by decide +kernel
theorem dX6_as_41 : decode cX6_as 41 = .ok (.aload_n 0, 1) := by decide +kernel
theorem dX6_as_42 : decode cX6_as 42 = .ok (.iconst 2, 1) := by decide +kernel
theorem dX6_as_43 : decode cX6_as 43 = .ok (.invokevirtual 75, 3) := by decide +kernel
theorem dX6_as_46 : decode cX6_as 46 = .ok (.ireturn, 1) := by decide +kernel
theorem dX6_trace_0 : decode cX6_trace 0 = .ok (.aload_n 0, 1) := by decide +kernel
theorem dX6_trace_1 : decode cX6_trace 1 = .ok (.getfield 258, 3) := by decide +kernel
theorem dX6_trace_4 : decode cX6_trace 4 = .ok (.ireturn, 1) := by decide +kernel
theorem dX6_fault_0 : decode cX6_fault 0 = .ok (.aload_n 0, 1) := by decide +kernel
theorem dX6_fault_1 : decode cX6_fault 1 = .ok (.getfield 59, 3) := by decide +kernel
theorem dX6_fault_4 : decode cX6_fault 4 = .ok (.ireturn, 1) := by decide +kernel
theorem dX6_many_0 : decode cX6_many 0 = .ok (.iload_n 1, 1) := by decide +kernel
theorem dX6_many_1 : decode cX6_many 1 = .ok (.tableswitch 54 0 3 #[31, 36, 44, 49], 31) := by decide +kernel
theorem dX6_many_32 : decode cX6_many 32 = .ok (.aload_n 0, 1) := by decide +kernel
theorem dX6_many_33 : decode cX6_many 33 = .ok (.getfield 90, 3) := by decide +kernel
theorem dX6_many_36 : decode cX6_many 36 = .ok (.ireturn, 1) := by decide +kernel
theorem dX6_many_37 : decode cX6_many 37 = .ok (.aload_n 0, 1) := by decide +kernel
theorem dX6_many_38 : decode cX6_many 38 = .ok (.getfield 32, 3) := by decide +kernel
theorem dX6_many_41 : decode cX6_many 41 = .ok (.getfield 175, 3) := by decide +kernel
theorem dX6_many_44 : decode cX6_many 44 = .ok (.ireturn, 1) := by decide +kernel
theorem dX6_many_45 : decode cX6_many 45 = .ok (.aload_n 0, 1) := by decide +kernel
theorem dX6_many_46 : decode cX6_many 46 = .ok (.getfield 123, 3) := by decide +kernel
theorem dX6_many_49 : decode cX6_many 49 = .ok (.ireturn, 1) := by decide +kernel
theorem dX6_many_50 : decode cX6_many 50 = .ok (.aload_n 0, 1) := by decide +kernel
theorem dX6_many_51 : decode cX6_many 51 = .ok (.getfield 181, 3) := by decide +kernel
theorem dX6_many_54 : decode cX6_many 54 = .ok (.ireturn, 1) := by decide +kernel
theorem dX6_many_55 : decode cX6_many 55 = .ok (.bipush (-2), 2) := by decide +kernel
theorem dX6_many_57 : decode cX6_many 57 = .ok (.ireturn, 1) := by decide +kernel
theorem dX6_within_0 : decode cX6_within 0 = .ok (.iload_n 0, 1) := by decide +kernel
theorem dX6_within_1 : decode cX6_within 1 = .ok (.iload_n 1, 1) := by decide +kernel
theorem dX6_within_2 : decode cX6_within 2 = .ok (.if_icmp .lt 12, 3) := by decide +kernel
theorem dX6_within_5 : decode cX6_within 5 = .ok (.iload_n 0, 1) := by decide +kernel
theorem dX6_within_6 : decode cX6_within 6 = .ok (.iload_n 2, 1) := by decide +kernel
theorem dX6_within_7 : decode cX6_within 7 = .ok (.if_icmp .gt 7, 3) := by decide +kernel
theorem dX6_within_10 : decode cX6_within 10 = .ok (.iconst 1, 1) := by decide +kernel
theorem dX6_within_11 : decode cX6_within 11 = .ok (.goto 4, 3) := by decide +kernel
theorem dX6_within_14 : decode cX6_within 14 = .ok (.iconst 0, 1) := by decide +kernel
theorem dX6_within_15 : decode cX6_within 15 = .ok (.ireturn, 1) := by decide +kernel
set_option maxRecDepth 20000 in
theorem ggX6_isDrawer_X6_within : GoodIn wsX6_isDrawer wsX6_within := goodIn_r _ [4] (by decide +kernel) (by decide +kernel)
set_option maxRecDepth 20000 in
theorem gX6_isDrawer_X6_within : GoodIn wsX6_isDrawer (va_wsS RX6 67 yX6_within wsX6_within) := goodIn_app (goodIn_of _ (by decide +kernel)) ggX6_isDrawer_X6_within
theorem dX6_isDrawer_0 : decode cX6_isDrawer 0 = .ok (.iload_n 0, 1) := by decide +kernel
theorem dX6_isDrawer_1 : decode cX6_isDrawer 1 = .ok (.iconst 0, 1) := by decide +kernel
theorem dX6_isDrawer_2 : decode cX6_isDrawer 2 = .ok (.iconst 4, 1) := by decide +kernel
theorem dX6_isDrawer_3 : decode cX6_isDrawer 3 = .ok (.invokestatic 67, 3) := by decide +kernel
theorem dX6_isDrawer_6 : decode cX6_isDrawer 6 = .ok (.ireturn, 1) := by decide +kernel
set_option maxRecDepth 20000 in
theorem ggX6_asksOfHours_X6_within : GoodIn wsX6_asksOfHours wsX6_within := goodIn_r _ [4] (by decide +kernel) (by decide +kernel)
set_option maxRecDepth 20000 in
theorem gX6_asksOfHours_X6_within : GoodIn wsX6_asksOfHours (va_wsS RX6 67 yX6_within wsX6_within) := goodIn_app (goodIn_of _ (by decide +kernel)) ggX6_asksOfHours_X6_within
theorem dX6_asksOfHours_0 : decode cX6_asksOfHours 0 = .ok (.iload_n 0, 1) := by decide +kernel
theorem dX6_asksOfHours_1 : decode cX6_asksOfHours 1 = .ok (.iconst 0, 1) := by decide +kernel
theorem dX6_asksOfHours_2 : decode cX6_asksOfHours 2 = .ok (.iconst 2, 1) := by decide +kernel
theorem dX6_asksOfHours_3 : decode cX6_asksOfHours 3 = .ok (.invokestatic 67, 3) := by decide +kernel
theorem dX6_asksOfHours_6 : decode cX6_asksOfHours 6 = .ok (.ifCond .ne 14, 3) := by decide +kernel
theorem dX6_asksOfHours_9 : decode cX6_asksOfHours 9 = .ok (.iload_n 0, 1) := by decide +kernel
theorem dX6_asksOfHours_10 : decode cX6_asksOfHours 10 = .ok (.bipush 10, 2) := by decide +kernel
theorem dX6_asksOfHours_12 : decode cX6_asksOfHours 12 = .ok (.bipush 14, 2) := by decide +kernel
theorem dX6_asksOfHours_14 : decode cX6_asksOfHours 14 = .ok (.invokestatic 67, 3) := by decide +kernel
theorem dX6_asksOfHours_17 : decode cX6_asksOfHours 17 = .ok (.ifCond .eq 7, 3) := by decide +kernel
theorem dX6_asksOfHours_20 : decode cX6_asksOfHours 20 = .ok (.iconst 1, 1) := by decide +kernel
theorem dX6_asksOfHours_21 : decode cX6_asksOfHours 21 = .ok (.goto 4, 3) := by decide +kernel
theorem dX6_asksOfHours_24 : decode cX6_asksOfHours 24 = .ok (.iconst 0, 1) := by decide +kernel
theorem dX6_asksOfHours_25 : decode cX6_asksOfHours 25 = .ok (.ireturn, 1) := by decide +kernel
theorem dX6_hasWell_0 : decode cX6_hasWell 0 = .ok (.aload_n 0, 1) := by decide +kernel
theorem dX6_hasWell_1 : decode cX6_hasWell 1 = .ok (.getfield 90, 3) := by decide +kernel
theorem dX6_hasWell_4 : decode cX6_hasWell 4 = .ok (.ifCond .le 7, 3) := by decide +kernel
theorem dX6_hasWell_7 : decode cX6_hasWell 7 = .ok (.iconst 1, 1) := by decide +kernel
theorem dX6_hasWell_8 : decode cX6_hasWell 8 = .ok (.goto 4, 3) := by decide +kernel
theorem dX6_hasWell_11 : decode cX6_hasWell 11 = .ok (.iconst 0, 1) := by decide +kernel
theorem dX6_hasWell_12 : decode cX6_hasWell 12 = .ok (.ireturn, 1) := by decide +kernel
theorem dX6_sheetAt_0 : decode cX6_sheetAt 0 = .ok (.iload_n 1, 1) := by decide +kernel
theorem dX6_sheetAt_1 : decode cX6_sheetAt 1 = .ok (.ifCond .lt 21, 3) := by decide +kernel
theorem dX6_sheetAt_4 : decode cX6_sheetAt 4 = .ok (.iload_n 1, 1) := by decide +kernel
theorem dX6_sheetAt_5 : decode cX6_sheetAt 5 = .ok (.aload_n 0, 1) := by decide +kernel
theorem dX6_sheetAt_6 : decode cX6_sheetAt 6 = .ok (.getfield 13, 3) := by decide +kernel
theorem dX6_sheetAt_9 : decode cX6_sheetAt 9 = .ok (.arraylength, 1) := by decide +kernel
theorem dX6_sheetAt_10 : decode cX6_sheetAt 10 = .ok (.if_icmp .ge 12, 3) := by decide +kernel
theorem dX6_sheetAt_13 : decode cX6_sheetAt 13 = .ok (.aload_n 0, 1) := by decide +kernel
theorem dX6_sheetAt_14 : decode cX6_sheetAt 14 = .ok (.getfield 13, 3) := by decide +kernel
theorem dX6_sheetAt_17 : decode cX6_sheetAt 17 = .ok (.iload_n 1, 1) := by decide +kernel
theorem dX6_sheetAt_18 : decode cX6_sheetAt 18 = .ok (.aaload, 1) := by decide +kernel
theorem dX6_sheetAt_19 : decode cX6_sheetAt 19 = .ok (.goto 4, 3) := by decide +kernel
theorem dX6_sheetAt_22 : decode cX6_sheetAt 22 = .ok (.aconst_null, 1) := by decide +kernel
theorem dX6_sheetAt_23 : decode cX6_sheetAt 23 = .ok (.areturn, 1) := by decide +kernel
theorem dX6_thingAt_0 : decode cX6_thingAt 0 = .ok (.iload_n 1, 1) := by decide +kernel
theorem dX6_thingAt_1 : decode cX6_thingAt 1 = .ok (.ifCond .lt 29, 3) := by decide +kernel
theorem dX6_thingAt_4 : decode cX6_thingAt 4 = .ok (.iload_n 1, 1) := by decide +kernel
theorem dX6_thingAt_5 : decode cX6_thingAt 5 = .ok (.aload_n 0, 1) := by decide +kernel
theorem dX6_thingAt_6 : decode cX6_thingAt 6 = .ok (.getfield 90, 3) := by decide +kernel
theorem dX6_thingAt_9 : decode cX6_thingAt 9 = .ok (.if_icmp .ge 21, 3) := by decide +kernel
theorem dX6_thingAt_12 : decode cX6_thingAt 12 = .ok (.iload_n 1, 1) := by decide +kernel
theorem dX6_thingAt_13 : decode cX6_thingAt 13 = .ok (.aload_n 0, 1) := by decide +kernel
theorem dX6_thingAt_14 : decode cX6_thingAt 14 = .ok (.getfield 19, 3) := by decide +kernel
theorem dX6_thingAt_17 : decode cX6_thingAt 17 = .ok (.arraylength, 1) := by decide +kernel
theorem dX6_thingAt_18 : decode cX6_thingAt 18 = .ok (.if_icmp .ge 12, 3) := by decide +kernel
theorem dX6_thingAt_21 : decode cX6_thingAt 21 = .ok (.aload_n 0, 1) := by decide +kernel
theorem dX6_thingAt_22 : decode cX6_thingAt 22 = .ok (.getfield 19, 3) := by decide +kernel
theorem dX6_thingAt_25 : decode cX6_thingAt 25 = .ok (.iload_n 1, 1) := by decide +kernel
theorem dX6_thingAt_26 : decode cX6_thingAt 26 = .ok (.aaload, 1) := by decide +kernel
theorem dX6_thingAt_27 : decode cX6_thingAt 27 = .ok (.goto 4, 3) := by decide +kernel
theorem dX6_thingAt_30 : decode cX6_thingAt 30 = .ok (.aconst_null, 1) := by decide +kernel
theorem dX6_thingAt_31 : decode cX6_thingAt 31 = .ok (.areturn, 1) := by decide +kernel
theorem dX6_readingAt_0 : decode cX6_readingAt 0 = .ok (.iload_n 1, 1) := by decide +kernel
theorem dX6_readingAt_1 : decode cX6_readingAt 1 = .ok (.ifCond .lt 21, 3) := by decide +kernel
theorem dX6_readingAt_4 : decode cX6_readingAt 4 = .ok (.iload_n 1, 1) := by decide +kernel
theorem dX6_readingAt_5 : decode cX6_readingAt 5 = .ok (.aload_n 0, 1) := by decide +kernel
theorem dX6_readingAt_6 : decode cX6_readingAt 6 = .ok (.getfield 25, 3) := by decide +kernel
theorem dX6_readingAt_9 : decode cX6_readingAt 9 = .ok (.arraylength, 1) := by decide +kernel
theorem dX6_readingAt_10 : decode cX6_readingAt 10 = .ok (.if_icmp .ge 12, 3) := by decide +kernel
theorem dX6_readingAt_13 : decode cX6_readingAt 13 = .ok (.aload_n 0, 1) := by decide +kernel
theorem dX6_readingAt_14 : decode cX6_readingAt 14 = .ok (.getfield 25, 3) := by decide +kernel
theorem dX6_readingAt_17 : decode cX6_readingAt 17 = .ok (.iload_n 1, 1) := by decide +kernel
theorem dX6_readingAt_18 : decode cX6_readingAt 18 = .ok (.aaload, 1) := by decide +kernel
theorem dX6_readingAt_19 : decode cX6_readingAt 19 = .ok (.goto 4, 3) := by decide +kernel
theorem dX6_readingAt_22 : decode cX6_readingAt 22 = .ok (.aconst_null, 1) := by decide +kernel
theorem dX6_readingAt_23 : decode cX6_readingAt 23 = .ok (.areturn, 1) := by decide +kernel
theorem dX6_faulted_0 : decode cX6_faulted 0 = .ok (.aload_n 0, 1) := by decide +kernel
theorem dX6_faulted_1 : decode cX6_faulted 1 = .ok (.iload_n 1, 1) := by decide +kernel
theorem dX6_faulted_2 : decode cX6_faulted 2 = .ok (.putfield 59, 3) := by decide +kernel
theorem dX6_faulted_5 : decode cX6_faulted 5 = .ok (.bipush (-10), 2) := by decide +kernel
theorem dX6_faulted_7 : decode cX6_faulted 7 = .ok (.iload_n 1, 1) := by decide +kernel
theorem dX6_faulted_8 : decode cX6_faulted 8 = .ok (.isub, 1) := by decide +kernel
theorem dX6_faulted_9 : decode cX6_faulted 9 = .ok (.ireturn, 1) := by decide +kernel
set_option maxRecDepth 20000 in
theorem ggX6_makeAnew_X3_digitAt : GoodIn wsX6_makeAnew wsX3_digitAt := goodIn_r _ [11, 12, 13, 14, 10, 15, 16, 17, 79, 80] (by decide +kernel) (by decide +kernel)
set_option maxRecDepth 20000 in
theorem gX6_makeAnew_X3_digitAt : GoodIn wsX6_makeAnew (wsV RX6 261 RX3 yX3_digitAt wsX3_digitAt) := goodIn_app (goodIn_of _ (by decide +kernel)) ggX6_makeAnew_X3_digitAt
set_option maxRecDepth 20000 in
theorem ggX6_makeAnew_X3_places : GoodIn wsX6_makeAnew wsX3_places := goodIn_r _ [21, 22, 23, 24, 10, 25, 12, 13, 14, 15, 16, 17, 26, 27, 28, 79, 80] (by decide +kernel) (by decide +kernel)
set_option maxRecDepth 20000 in
theorem gX6_makeAnew_X3_places : GoodIn wsX6_makeAnew (wsV RX6 264 RX3 yX3_places wsX3_places) := goodIn_app (goodIn_of _ (by decide +kernel)) ggX6_makeAnew_X3_places
set_option maxRecDepth 20000 in
theorem ggX6_makeAnew_X1_setPlace : GoodIn wsX6_makeAnew wsX1_setPlace := goodIn_r _ [33, 34, 35, 36, 37, 32, 38, 39, 77, 78] (by decide +kernel) (by decide +kernel)
set_option maxRecDepth 20000 in
theorem gX6_makeAnew_X1_setPlace : GoodIn wsX6_makeAnew (wsV RX6 133 RX1 yX1_setPlace wsX1_setPlace) := goodIn_app (goodIn_of _ (by decide +kernel)) ggX6_makeAnew_X1_setPlace
set_option maxRecDepth 20000 in
theorem ggX6_makeAnew_X3_thingsTold : GoodIn wsX6_makeAnew wsX3_thingsTold := goodIn_r _ [43, 16, 44, 19, 20, 10, 21, 22, 23, 24, 25, 12, 13, 14, 15, 17, 26, 27, 28, 79, 80] (by decide +kernel) (by decide +kernel)
set_option maxRecDepth 20000 in
theorem gX6_makeAnew_X3_thingsTold : GoodIn wsX6_makeAnew (wsV RX6 266 RX3 yX3_thingsTold wsX3_thingsTold) := goodIn_app (goodIn_of _ (by decide +kernel)) ggX6_makeAnew_X3_thingsTold
set_option maxRecDepth 20000 in
theorem ggX6_makeAnew_X6_thingAt : GoodIn wsX6_makeAnew wsX6_thingAt := goodIn_r _ [48, 5, 49, 64, 65, 66, 67, 68, 69, 70, 71, 72, 73, 74, 75, 76] (by decide +kernel) (by decide +kernel)
set_option maxRecDepth 20000 in
theorem gX6_makeAnew_X6_thingAt : GoodIn wsX6_makeAnew (wsV RX6 93 RX6 yX6_thingAt wsX6_thingAt) := goodIn_app (goodIn_of _ (by decide +kernel)) ggX6_makeAnew_X6_thingAt
set_option maxRecDepth 20000 in
theorem ggX6_makeAnew_X3_tellThingTo : GoodIn wsX6_makeAnew wsX3_tellThingTo := goodIn_r _ [53, 54, 55, 56, 57, 58, 44, 19, 20, 10, 21, 22, 23, 24, 25, 12, 13, 14, 15, 16, 17, 26, 27, 28, 59, 60, 61, 62, 63, 8, 9, 11, 81, 82, 83, 84, 85, 79, 80] (by decide +kernel) (by decide +kernel)
set_option maxRecDepth 20000 in
theorem gX6_makeAnew_X3_tellThingTo : GoodIn wsX6_makeAnew (wsV RX6 269 RX3 yX3_tellThingTo wsX3_tellThingTo) := goodIn_app (goodIn_of _ (by decide +kernel)) ggX6_makeAnew_X3_tellThingTo
theorem dX6_makeAnew_0 : decode cX6_makeAnew 0 = .ok (.aload_n 0, 1) := by decide +kernel
theorem dX6_makeAnew_1 : decode cX6_makeAnew 1 = .ok (.aload_n 0, 1) := by decide +kernel
theorem dX6_makeAnew_2 : decode cX6_makeAnew 2 = .ok (.getfield 45, 3) := by decide +kernel
theorem dX6_makeAnew_5 : decode cX6_makeAnew 5 = .ok (.iconst 1, 1) := by decide +kernel
theorem dX6_makeAnew_6 : decode cX6_makeAnew 6 = .ok (.invokevirtual 261, 3) := by decide +kernel
theorem dX6_makeAnew_9 : decode cX6_makeAnew 9 = .ok (.putfield 123, 3) := by decide +kernel
theorem dX6_makeAnew_12 : decode cX6_makeAnew 12 = .ok (.aload_n 0, 1) := by decide +kernel
theorem dX6_makeAnew_13 : decode cX6_makeAnew 13 = .ok (.getfield 32, 3) := by decide +kernel
theorem dX6_makeAnew_16 : decode cX6_makeAnew 16 = .ok (.aload_n 0, 1) := by decide +kernel
theorem dX6_makeAnew_17 : decode cX6_makeAnew 17 = .ok (.getfield 45, 3) := by decide +kernel
theorem dX6_makeAnew_20 : decode cX6_makeAnew 20 = .ok (.invokevirtual 264, 3) := by decide +kernel
theorem dX6_makeAnew_23 : decode cX6_makeAnew 23 = .ok (.putfield 175, 3) := by decide +kernel
theorem dX6_makeAnew_26 : decode cX6_makeAnew 26 = .ok (.iconst 0, 1) := by decide +kernel
theorem dX6_makeAnew_27 : decode cX6_makeAnew 27 = .ok (.istore_n 1, 1) := by decide +kernel
theorem dX6_makeAnew_28 : decode cX6_makeAnew 28 = .ok (.iload_n 1, 1) := by decide +kernel
theorem dX6_makeAnew_29 : decode cX6_makeAnew 29 = .ok (.aload_n 0, 1) := by decide +kernel
theorem dX6_makeAnew_30 : decode cX6_makeAnew 30 = .ok (.getfield 32, 3) := by decide +kernel
theorem dX6_makeAnew_33 : decode cX6_makeAnew 33 = .ok (.getfield 175, 3) := by decide +kernel
theorem dX6_makeAnew_36 : decode cX6_makeAnew 36 = .ok (.if_icmp .ge 27, 3) := by decide +kernel
theorem dX6_makeAnew_39 : decode cX6_makeAnew 39 = .ok (.aload_n 0, 1) := by decide +kernel
theorem dX6_makeAnew_40 : decode cX6_makeAnew 40 = .ok (.getfield 32, 3) := by decide +kernel
theorem dX6_makeAnew_43 : decode cX6_makeAnew 43 = .ok (.iload_n 1, 1) := by decide +kernel
theorem dX6_makeAnew_44 : decode cX6_makeAnew 44 = .ok (.aload_n 0, 1) := by decide +kernel
theorem dX6_makeAnew_45 : decode cX6_makeAnew 45 = .ok (.getfield 45, 3) := by decide +kernel
theorem dX6_makeAnew_48 : decode cX6_makeAnew 48 = .ok (.iconst 2, 1) := by decide +kernel
theorem dX6_makeAnew_49 : decode cX6_makeAnew 49 = .ok (.iload_n 1, 1) := by decide +kernel
theorem dX6_makeAnew_50 : decode cX6_makeAnew 50 = .ok (.iadd, 1) := by decide +kernel
theorem dX6_makeAnew_51 : decode cX6_makeAnew 51 = .ok (.invokevirtual 261, 3) := by decide +kernel
theorem dX6_makeAnew_54 : decode cX6_makeAnew 54 = .ok (.invokevirtual 133, 3) := by decide +kernel
theorem dX6_makeAnew_57 : decode cX6_makeAnew 57 = .ok (.iinc 1 1, 3) := by decide +kernel
theorem dX6_makeAnew_60 : decode cX6_makeAnew 60 = .ok (.goto (-32), 3) := by decide +kernel
theorem dX6_makeAnew_63 : decode cX6_makeAnew 63 = .ok (.aload_n 0, 1) := by decide +kernel
theorem dX6_makeAnew_64 : decode cX6_makeAnew 64 = .ok (.aload_n 0, 1) := by decide +kernel
theorem dX6_makeAnew_65 : decode cX6_makeAnew 65 = .ok (.getfield 45, 3) := by decide +kernel
theorem dX6_makeAnew_68 : decode cX6_makeAnew 68 = .ok (.invokevirtual 266, 3) := by decide +kernel
theorem dX6_makeAnew_71 : decode cX6_makeAnew 71 = .ok (.putfield 90, 3) := by decide +kernel
theorem dX6_makeAnew_74 : decode cX6_makeAnew 74 = .ok (.iconst 0, 1) := by decide +kernel
theorem dX6_makeAnew_75 : decode cX6_makeAnew 75 = .ok (.istore_n 1, 1) := by decide +kernel
theorem dX6_makeAnew_76 : decode cX6_makeAnew 76 = .ok (.iload_n 1, 1) := by decide +kernel
theorem dX6_makeAnew_77 : decode cX6_makeAnew 77 = .ok (.aload_n 0, 1) := by decide +kernel
theorem dX6_makeAnew_78 : decode cX6_makeAnew 78 = .ok (.getfield 90, 3) := by decide +kernel
theorem dX6_makeAnew_81 : decode cX6_makeAnew 81 = .ok (.if_icmp .ge 28, 3) := by decide +kernel
theorem dX6_makeAnew_84 : decode cX6_makeAnew 84 = .ok (.aload_n 0, 1) := by decide +kernel
theorem dX6_makeAnew_85 : decode cX6_makeAnew 85 = .ok (.iload_n 1, 1) := by decide +kernel
theorem dX6_makeAnew_86 : decode cX6_makeAnew 86 = .ok (.invokevirtual 93, 3) := by decide +kernel
theorem dX6_makeAnew_89 : decode cX6_makeAnew 89 = .ok (.astore_n 2, 1) := by decide +kernel
theorem dX6_makeAnew_90 : decode cX6_makeAnew 90 = .ok (.aload_n 2, 1) := by decide +kernel
theorem dX6_makeAnew_91 : decode cX6_makeAnew 91 = .ok (.ifnull 12, 3) := by decide +kernel
theorem dX6_makeAnew_94 : decode cX6_makeAnew 94 = .ok (.aload_n 0, 1) := by decide +kernel
theorem dX6_makeAnew_95 : decode cX6_makeAnew 95 = .ok (.getfield 45, 3) := by decide +kernel
theorem dX6_makeAnew_98 : decode cX6_makeAnew 98 = .ok (.aload_n 2, 1) := by decide +kernel
theorem dX6_makeAnew_99 : decode cX6_makeAnew 99 = .ok (.iload_n 1, 1) := by decide +kernel
theorem dX6_makeAnew_100 : decode cX6_makeAnew 100 = .ok (.invokevirtual 269, 3) := by decide +kernel
theorem dX6_makeAnew_103 : decode cX6_makeAnew 103 = .ok (.iinc 1 1, 3) := by decide +kernel
theorem dX6_makeAnew_106 : decode cX6_makeAnew 106 = .ok (.goto (-30), 3) := by decide +kernel
theorem dX6_makeAnew_109 : decode cX6_makeAnew 109 = .ok (.aload_n 0, 1) := by decide +kernel
theorem dX6_makeAnew_110 : decode cX6_makeAnew 110 = .ok (.iconst 0, 1) := by decide +kernel
theorem dX6_makeAnew_111 : decode cX6_makeAnew 111 = .ok (.putfield 181, 3) := by decide +kernel
theorem dX6_makeAnew_114 : decode cX6_makeAnew 114 = .ok (.return_, 1) := by decide +kernel
theorem dX6_delayBy_0 : decode cX6_delayBy 0 = .ok (.iload_n 1, 1) := by decide +kernel
theorem dX6_delayBy_1 : decode cX6_delayBy 1 = .ok (.iload_n 2, 1) := by decide +kernel
theorem dX6_delayBy_2 : decode cX6_delayBy 2 = .ok (.iadd, 1) := by decide +kernel
theorem dX6_delayBy_3 : decode cX6_delayBy 3 = .ok (.istore_n 3, 1) := by decide +kernel
theorem dX6_delayBy_4 : decode cX6_delayBy 4 = .ok (.iload_n 0, 1) := by decide +kernel
theorem dX6_delayBy_5 : decode cX6_delayBy 5 = .ok (.iconst 1, 1) := by decide +kernel
theorem dX6_delayBy_6 : decode cX6_delayBy 6 = .ok (.if_icmp .ne 11, 3) := by decide +kernel
theorem dX6_delayBy_9 : decode cX6_delayBy 9 = .ok (.iconst 0, 1) := by decide +kernel
theorem dX6_delayBy_10 : decode cX6_delayBy 10 = .ok (.iload_n 3, 1) := by decide +kernel
theorem dX6_delayBy_11 : decode cX6_delayBy 11 = .ok (.iconst 1, 1) := by decide +kernel
theorem dX6_delayBy_12 : decode cX6_delayBy 12 = .ok (.isub, 1) := by decide +kernel
theorem dX6_delayBy_13 : decode cX6_delayBy 13 = .ok (.invokestatic 273, 3) := by decide +kernel
theorem dX6_delayBy_16 : decode cX6_delayBy 16 = .ok (.ireturn, 1) := by decide +kernel
theorem dX6_delayBy_17 : decode cX6_delayBy 17 = .ok (.iload_n 0, 1) := by decide +kernel
theorem dX6_delayBy_18 : decode cX6_delayBy 18 = .ok (.iconst 2, 1) := by decide +kernel
theorem dX6_delayBy_19 : decode cX6_delayBy 19 = .ok (.if_icmp .ne 9, 3) := by decide +kernel
theorem dX6_delayBy_22 : decode cX6_delayBy 22 = .ok (.iconst 2, 1) := by decide +kernel
theorem dX6_delayBy_23 : decode cX6_delayBy 23 = .ok (.iload_n 3, 1) := by decide +kernel
theorem dX6_delayBy_24 : decode cX6_delayBy 24 = .ok (.imul, 1) := by decide +kernel
theorem dX6_delayBy_25 : decode cX6_delayBy 25 = .ok (.goto 4, 3) := by decide +kernel
theorem dX6_delayBy_28 : decode cX6_delayBy 28 = .ok (.iload_n 3, 1) := by decide +kernel
theorem dX6_delayBy_29 : decode cX6_delayBy 29 = .ok (.ireturn, 1) := by decide +kernel
set_option maxRecDepth 20000 in
theorem ggX6_delayOf_X6_delayBy : GoodIn wsX6_delayOf wsX6_delayBy := goodIn_r _ [7, 8, 9, 10, 11] (by decide +kernel) (by decide +kernel)
set_option maxRecDepth 20000 in
theorem gX6_delayOf_X6_delayBy : GoodIn wsX6_delayOf (va_wsS RX6 278 yX6_delayBy wsX6_delayBy) := goodIn_app (goodIn_of _ (by decide +kernel)) ggX6_delayOf_X6_delayBy
theorem dX6_delayOf_0 : decode cX6_delayOf 0 = .ok (.aload_n 1, 1) := by decide +kernel
theorem dX6_delayOf_1 : decode cX6_delayOf 1 = .ok (.getfield 97, 3) := by decide +kernel
theorem dX6_delayOf_4 : decode cX6_delayOf 4 = .ok (.aload_n 0, 1) := by decide +kernel
theorem dX6_delayOf_5 : decode cX6_delayOf 5 = .ok (.getfield 123, 3) := by decide +kernel
theorem dX6_delayOf_8 : decode cX6_delayOf 8 = .ok (.aload_n 1, 1) := by decide +kernel
theorem dX6_delayOf_9 : decode cX6_delayOf 9 = .ok (.getfield 100, 3) := by decide +kernel
theorem dX6_delayOf_12 : decode cX6_delayOf 12 = .ok (.invokestatic 278, 3) := by decide +kernel
theorem dX6_delayOf_15 : decode cX6_delayOf 15 = .ok (.ireturn, 1) := by decide +kernel
set_option maxRecDepth 20000 in
theorem ggX6_isRight_X6_delayOf : GoodIn wsX6_isRight wsX6_delayOf := goodIn_r _ [7, 8, 9, 10, 11, 12, 6, 13, 14, 15, 16, 17, 33, 34, 35, 36, 37, 38, 39, 40, 41, 42, 43, 44, 45, 46, 47, 48, 49, 50] (by decide +kernel) (by decide +kernel)
set_option maxRecDepth 20000 in
theorem gX6_isRight_X6_delayOf : GoodIn wsX6_isRight (wsV RX6 112 RX6 yX6_delayOf wsX6_delayOf) := goodIn_app (goodIn_of _ (by decide +kernel)) ggX6_isRight_X6_delayOf
set_option maxRecDepth 20000 in
theorem ggX6_isRight_X1_otherDrawer : GoodIn wsX6_isRight wsX1_otherDrawer := goodIn_r _ [22, 23, 24, 25, 21, 26, 27, 28, 29, 30, 31, 32, 51, 52] (by decide +kernel) (by decide +kernel)
set_option maxRecDepth 20000 in
theorem gX6_isRight_X1_otherDrawer : GoodIn wsX6_isRight (wsV RX6 172 RX1 yX1_otherDrawer wsX1_otherDrawer) := goodIn_app (goodIn_of _ (by decide +kernel)) ggX6_isRight_X1_otherDrawer
theorem dX6_isRight_0 : decode cX6_isRight 0 = .ok (.aload_n 2, 1) := by decide +kernel
theorem dX6_isRight_1 : decode cX6_isRight 1 = .ok (.aload_n 1, 1) := by decide +kernel
theorem dX6_isRight_2 : decode cX6_isRight 2 = .ok (.getfield 103, 3) := by decide +kernel
theorem dX6_isRight_5 : decode cX6_isRight 5 = .ok (.iload_n 3, 1) := by decide +kernel
theorem dX6_isRight_6 : decode cX6_isRight 6 = .ok (.aload_n 0, 1) := by decide +kernel
theorem dX6_isRight_7 : decode cX6_isRight 7 = .ok (.aload_n 1, 1) := by decide +kernel
theorem dX6_isRight_8 : decode cX6_isRight 8 = .ok (.invokevirtual 112, 3) := by decide +kernel
theorem dX6_isRight_11 : decode cX6_isRight 11 = .ok (.invokevirtual 172, 3) := by decide +kernel
theorem dX6_isRight_14 : decode cX6_isRight 14 = .ok (.aload_n 1, 1) := by decide +kernel
theorem dX6_isRight_15 : decode cX6_isRight 15 = .ok (.getfield 106, 3) := by decide +kernel
theorem dX6_isRight_18 : decode cX6_isRight 18 = .ok (.if_icmp .ne 7, 3) := by decide +kernel
theorem dX6_isRight_21 : decode cX6_isRight 21 = .ok (.iconst 1, 1) := by decide +kernel
theorem dX6_isRight_22 : decode cX6_isRight 22 = .ok (.goto 4, 3) := by decide +kernel
theorem dX6_isRight_25 : decode cX6_isRight 25 = .ok (.iconst 0, 1) := by decide +kernel
theorem dX6_isRight_26 : decode cX6_isRight 26 = .ok (.ireturn, 1) := by decide +kernel
set_option maxRecDepth 20000 in
theorem ggX6_rightOnesTold_X6_thingAt : GoodIn wsX6_rightOnesTold wsX6_thingAt := goodIn_r _ [7, 1, 8, 55, 56, 57, 58, 59, 60, 61, 62, 63, 64, 65, 66, 67] (by decide +kernel) (by decide +kernel)
set_option maxRecDepth 20000 in
theorem gX6_rightOnesTold_X6_thingAt : GoodIn wsX6_rightOnesTold (wsV RX6 93 RX6 yX6_thingAt wsX6_thingAt) := goodIn_app (goodIn_of _ (by decide +kernel)) ggX6_rightOnesTold_X6_thingAt
set_option maxRecDepth 20000 in
theorem ggX6_rightOnesTold_X2_numberAt : GoodIn wsX6_rightOnesTold wsX2_numberAt := goodIn_r _ [13, 14, 15, 16, 17, 12, 18, 19, 68, 69, 70] (by decide +kernel) (by decide +kernel)
set_option maxRecDepth 20000 in
theorem gX6_rightOnesTold_X2_numberAt : GoodIn wsX6_rightOnesTold (wsV RX6 226 RX2 yX2_numberAt wsX2_numberAt) := goodIn_app (goodIn_of _ (by decide +kernel)) ggX6_rightOnesTold_X2_numberAt
set_option maxRecDepth 20000 in
theorem ggX6_rightOnesTold_X6_isRight : GoodIn wsX6_rightOnesTold wsX6_isRight := goodIn_r _ [23, 24, 25, 26, 27, 28, 6, 29, 30, 31, 32, 33, 34, 35, 36, 37, 38, 39, 40, 41, 42, 43, 44, 45, 46, 47, 48, 49, 50, 51, 52, 53, 54, 71, 72, 73, 74, 75, 55, 56, 57, 58, 59, 60, 61, 62, 63, 64, 65, 66, 67, 76, 77] (by decide +kernel) (by decide +kernel)
set_option maxRecDepth 20000 in
theorem gX6_rightOnesTold_X6_isRight : GoodIn wsX6_rightOnesTold (wsV RX6 201 RX6 yX6_isRight wsX6_isRight) := goodIn_app (goodIn_of _ (by decide +kernel)) ggX6_rightOnesTold_X6_isRight
theorem dX6_rightOnesTold_0 : decode cX6_rightOnesTold 0 = .ok (.iconst 0, 1) := by decide +kernel
theorem dX6_rightOnesTold_1 : decode cX6_rightOnesTold 1 = .ok (.istore_n 3, 1) := by decide +kernel
theorem dX6_rightOnesTold_2 : decode cX6_rightOnesTold 2 = .ok (.iconst 0, 1) := by decide +kernel
theorem dX6_rightOnesTold_3 : decode cX6_rightOnesTold 3 = .ok (.istore 4, 2) := by decide +kernel
theorem dX6_rightOnesTold_5 : decode cX6_rightOnesTold 5 = .ok (.iload 4, 2) := by decide +kernel
theorem dX6_rightOnesTold_7 : decode cX6_rightOnesTold 7 = .ok (.aload_n 0, 1) := by decide +kernel
theorem dX6_rightOnesTold_8 : decode cX6_rightOnesTold 8 = .ok (.getfield 90, 3) := by decide +kernel
theorem dX6_rightOnesTold_11 : decode cX6_rightOnesTold 11 = .ok (.if_icmp .ge 50, 3) := by decide +kernel
theorem dX6_rightOnesTold_14 : decode cX6_rightOnesTold 14 = .ok (.aload_n 0, 1) := by decide +kernel
theorem dX6_rightOnesTold_15 : decode cX6_rightOnesTold 15 = .ok (.iload 4, 2) := by decide +kernel
theorem dX6_rightOnesTold_17 : decode cX6_rightOnesTold 17 = .ok (.invokevirtual 93, 3) := by decide +kernel
theorem dX6_rightOnesTold_20 : decode cX6_rightOnesTold 20 = .ok (.astore 5, 2) := by decide +kernel
theorem dX6_rightOnesTold_22 : decode cX6_rightOnesTold 22 = .ok (.aload 5, 2) := by decide +kernel
theorem dX6_rightOnesTold_24 : decode cX6_rightOnesTold 24 = .ok (.ifnull 31, 3) := by decide +kernel
theorem dX6_rightOnesTold_27 : decode cX6_rightOnesTold 27 = .ok (.aload_n 0, 1) := by decide +kernel
theorem dX6_rightOnesTold_28 : decode cX6_rightOnesTold 28 = .ok (.aload 5, 2) := by decide +kernel
theorem dX6_rightOnesTold_30 : decode cX6_rightOnesTold 30 = .ok (.aload_n 0, 1) := by decide +kernel
theorem dX6_rightOnesTold_31 : decode cX6_rightOnesTold 31 = .ok (.getfield 32, 3) := by decide +kernel
theorem dX6_rightOnesTold_34 : decode cX6_rightOnesTold 34 = .ok (.aload_n 1, 1) := by decide +kernel
theorem dX6_rightOnesTold_35 : decode cX6_rightOnesTold 35 = .ok (.iload_n 2, 1) := by decide +kernel
theorem dX6_rightOnesTold_36 : decode cX6_rightOnesTold 36 = .ok (.iload 4, 2) := by decide +kernel
theorem dX6_rightOnesTold_38 : decode cX6_rightOnesTold 38 = .ok (.iadd, 1) := by decide +kernel
theorem dX6_rightOnesTold_39 : decode cX6_rightOnesTold 39 = .ok (.invokevirtual 226, 3) := by decide +kernel
theorem dX6_rightOnesTold_42 : decode cX6_rightOnesTold 42 = .ok (.invokevirtual 201, 3) := by decide +kernel
theorem dX6_rightOnesTold_45 : decode cX6_rightOnesTold 45 = .ok (.ifCond .eq 10, 3) := by decide +kernel
theorem dX6_rightOnesTold_48 : decode cX6_rightOnesTold 48 = .ok (.iload_n 3, 1) := by decide +kernel
theorem dX6_rightOnesTold_49 : decode cX6_rightOnesTold 49 = .ok (.iconst 1, 1) := by decide +kernel
theorem dX6_rightOnesTold_50 : decode cX6_rightOnesTold 50 = .ok (.iload 4, 2) := by decide +kernel
theorem dX6_rightOnesTold_52 : decode cX6_rightOnesTold 52 = .ok (.ishl, 1) := by decide +kernel
theorem dX6_rightOnesTold_53 : decode cX6_rightOnesTold 53 = .ok (.ior, 1) := by decide +kernel
theorem dX6_rightOnesTold_54 : decode cX6_rightOnesTold 54 = .ok (.istore_n 3, 1) := by decide +kernel
theorem dX6_rightOnesTold_55 : decode cX6_rightOnesTold 55 = .ok (.iinc 4 1, 3) := by decide +kernel
theorem dX6_rightOnesTold_58 : decode cX6_rightOnesTold 58 = .ok (.goto (-53), 3) := by decide +kernel
theorem dX6_rightOnesTold_61 : decode cX6_rightOnesTold 61 = .ok (.iload_n 3, 1) := by decide +kernel
theorem dX6_rightOnesTold_62 : decode cX6_rightOnesTold 62 = .ok (.ireturn, 1) := by decide +kernel
set_option maxRecDepth 20000 in
theorem ggX6_latestDrawTold_X6_thingAt : GoodIn wsX6_latestDrawTold wsX6_thingAt := goodIn_r _ [12, 1, 13, 46, 47, 48, 49, 50, 51, 52, 53, 54, 55, 56, 57, 58] (by decide +kernel) (by decide +kernel)
set_option maxRecDepth 20000 in
theorem gX6_latestDrawTold_X6_thingAt : GoodIn wsX6_latestDrawTold (wsV RX6 93 RX6 yX6_thingAt wsX6_thingAt) := goodIn_app (goodIn_of _ (by decide +kernel)) ggX6_latestDrawTold_X6_thingAt
set_option maxRecDepth 20000 in
theorem ggX6_latestDrawTold_X2_numberAt : GoodIn wsX6_latestDrawTold wsX2_numberAt := goodIn_r _ [18, 19, 20, 21, 22, 17, 23, 24, 64, 65, 66] (by decide +kernel) (by decide +kernel)
set_option maxRecDepth 20000 in
theorem gX6_latestDrawTold_X2_numberAt : GoodIn wsX6_latestDrawTold (wsV RX6 226 RX2 yX2_numberAt wsX2_numberAt) := goodIn_app (goodIn_of _ (by decide +kernel)) ggX6_latestDrawTold_X2_numberAt
set_option maxRecDepth 20000 in
theorem ggX6_latestDrawTold_X6_delayOf : GoodIn wsX6_latestDrawTold wsX6_delayOf := goodIn_r _ [28, 29, 30, 31, 32, 33, 11, 34, 4, 5, 6, 7, 59, 60, 61, 62, 63, 46, 47, 48, 49, 50, 51, 52, 53, 54, 55, 56, 57, 58] (by decide +kernel) (by decide +kernel)
set_option maxRecDepth 20000 in
theorem gX6_latestDrawTold_X6_delayOf : GoodIn wsX6_latestDrawTold (wsV RX6 112 RX6 yX6_delayOf wsX6_delayOf) := goodIn_app (goodIn_of _ (by decide +kernel)) ggX6_latestDrawTold_X6_delayOf
set_option maxRecDepth 20000 in
theorem ggX6_latestDrawTold_X1_comingsTillAnother : GoodIn wsX6_latestDrawTold wsX1_comingsTillAnother := goodIn_r _ [39, 40, 41, 42, 43, 38, 44, 45, 67, 68] (by decide +kernel) (by decide +kernel)
set_option maxRecDepth 20000 in
theorem gX6_latestDrawTold_X1_comingsTillAnother : GoodIn wsX6_latestDrawTold (wsV RX6 137 RX1 yX1_comingsTillAnother wsX1_comingsTillAnother) := goodIn_app (goodIn_of _ (by decide +kernel)) ggX6_latestDrawTold_X1_comingsTillAnother
theorem dX6_latestDrawTold_0 : decode cX6_latestDrawTold 0 = .ok (.bipush (-9), 2) := by decide +kernel
theorem dX6_latestDrawTold_2 : decode cX6_latestDrawTold 2 = .ok (.istore_n 3, 1) := by decide +kernel
theorem dX6_latestDrawTold_3 : decode cX6_latestDrawTold 3 = .ok (.iconst 0, 1) := by decide +kernel
theorem dX6_latestDrawTold_4 : decode cX6_latestDrawTold 4 = .ok (.istore 4, 2) := by decide +kernel
theorem dX6_latestDrawTold_6 : decode cX6_latestDrawTold 6 = .ok (.iload 4, 2) := by decide +kernel
theorem dX6_latestDrawTold_8 : decode cX6_latestDrawTold 8 = .ok (.aload_n 0, 1) := by decide +kernel
theorem dX6_latestDrawTold_9 : decode cX6_latestDrawTold 9 = .ok (.getfield 90, 3) := by decide +kernel
theorem dX6_latestDrawTold_12 : decode cX6_latestDrawTold 12 = .ok (.if_icmp .ge 76, 3) := by decide +kernel
theorem dX6_latestDrawTold_15 : decode cX6_latestDrawTold 15 = .ok (.aload_n 0, 1) := by decide +kernel
theorem dX6_latestDrawTold_16 : decode cX6_latestDrawTold 16 = .ok (.iload 4, 2) := by decide +kernel
theorem dX6_latestDrawTold_18 : decode cX6_latestDrawTold 18 = .ok (.invokevirtual 93, 3) := by decide +kernel
theorem dX6_latestDrawTold_21 : decode cX6_latestDrawTold 21 = .ok (.astore 5, 2) := by decide +kernel
theorem dX6_latestDrawTold_23 : decode cX6_latestDrawTold 23 = .ok (.aload 5, 2) := by decide +kernel
theorem dX6_latestDrawTold_25 : decode cX6_latestDrawTold 25 = .ok (.ifnull 57, 3) := by decide +kernel
theorem dX6_latestDrawTold_28 : decode cX6_latestDrawTold 28 = .ok (.aload_n 1, 1) := by decide +kernel
theorem dX6_latestDrawTold_29 : decode cX6_latestDrawTold 29 = .ok (.iload_n 2, 1) := by decide +kernel
theorem dX6_latestDrawTold_30 : decode cX6_latestDrawTold 30 = .ok (.iload 4, 2) := by decide +kernel
theorem dX6_latestDrawTold_32 : decode cX6_latestDrawTold 32 = .ok (.iadd, 1) := by decide +kernel
theorem dX6_latestDrawTold_33 : decode cX6_latestDrawTold 33 = .ok (.invokevirtual 226, 3) := by decide +kernel
theorem dX6_latestDrawTold_36 : decode cX6_latestDrawTold 36 = .ok (.istore 6, 2) := by decide +kernel
theorem dX6_latestDrawTold_38 : decode cX6_latestDrawTold 38 = .ok (.aload_n 0, 1) := by decide +kernel
theorem dX6_latestDrawTold_39 : decode cX6_latestDrawTold 39 = .ok (.aload 5, 2) := by decide +kernel
theorem dX6_latestDrawTold_41 : decode cX6_latestDrawTold 41 = .ok (.invokevirtual 112, 3) := by decide +kernel
theorem dX6_latestDrawTold_44 : decode cX6_latestDrawTold 44 = .ok (.istore 7, 2) := by decide +kernel
theorem dX6_latestDrawTold_46 : decode cX6_latestDrawTold 46 = .ok (.aload_n 0, 1) := by decide +kernel
theorem dX6_latestDrawTold_47 : decode cX6_latestDrawTold 47 = .ok (.getfield 32, 3) := by decide +kernel
theorem dX6_latestDrawTold_50 : decode cX6_latestDrawTold 50 = .ok (.aload 5, 2) := by decide +kernel
theorem dX6_latestDrawTold_52 : decode cX6_latestDrawTold 52 = .ok (.getfield 103, 3) := by decide +kernel
theorem dX6_latestDrawTold_55 : decode cX6_latestDrawTold 55 = .ok (.iload 6, 2) := by decide +kernel
theorem dX6_latestDrawTold_57 : decode cX6_latestDrawTold 57 = .ok (.iload 7, 2) := by decide +kernel
theorem dX6_latestDrawTold_59 : decode cX6_latestDrawTold 59 = .ok (.invokevirtual 137, 3) := by decide +kernel
theorem dX6_latestDrawTold_62 : decode cX6_latestDrawTold 62 = .ok (.istore 8, 2) := by decide +kernel
theorem dX6_latestDrawTold_64 : decode cX6_latestDrawTold 64 = .ok (.iload 8, 2) := by decide +kernel
theorem dX6_latestDrawTold_66 : decode cX6_latestDrawTold 66 = .ok (.ifCond .le 16, 3) := by decide +kernel
theorem dX6_latestDrawTold_69 : decode cX6_latestDrawTold 69 = .ok (.iload_n 3, 1) := by decide +kernel
theorem dX6_latestDrawTold_70 : decode cX6_latestDrawTold 70 = .ok (.iload 6, 2) := by decide +kernel
theorem dX6_latestDrawTold_72 : decode cX6_latestDrawTold 72 = .ok (.iload 8, 2) := by decide +kernel
theorem dX6_latestDrawTold_74 : decode cX6_latestDrawTold 74 = .ok (.iload 7, 2) := by decide +kernel
theorem dX6_latestDrawTold_76 : decode cX6_latestDrawTold 76 = .ok (.imul, 1) := by decide +kernel
theorem dX6_latestDrawTold_77 : decode cX6_latestDrawTold 77 = .ok (.iadd, 1) := by decide +kernel
theorem dX6_latestDrawTold_78 : decode cX6_latestDrawTold 78 = .ok (.invokestatic 273, 3) := by decide +kernel
theorem dX6_latestDrawTold_81 : decode cX6_latestDrawTold 81 = .ok (.istore_n 3, 1) := by decide +kernel
theorem dX6_latestDrawTold_82 : decode cX6_latestDrawTold 82 = .ok (.iinc 4 1, 3) := by decide +kernel
theorem dX6_latestDrawTold_85 : decode cX6_latestDrawTold 85 = .ok (.goto (-79), 3) := by decide +kernel
theorem dX6_latestDrawTold_88 : decode cX6_latestDrawTold 88 = .ok (.iload_n 3, 1) := by decide +kernel
theorem dX6_latestDrawTold_89 : decode cX6_latestDrawTold 89 = .ok (.ireturn, 1) := by decide +kernel
set_option maxRecDepth 20000 in
theorem ggX6_busiestDrawerTold_X6_drawerTold : GoodIn wsX6_busiestDrawerTold wsX6_drawerTold := goodIn_r _ [6, 7, 8, 9, 10, 11, 5, 12, 1, 13, 14, 15, 16, 17, 18, 19, 20, 21, 22, 23, 24, 25, 26, 27, 28, 29, 30, 31, 32, 33, 34, 35, 36, 37, 38, 39, 40, 41, 42, 43, 44, 45, 46, 47, 48, 49, 50, 51, 52, 53, 54, 55, 56, 57, 58, 59, 60, 61, 62, 63, 64, 65, 66, 67, 68, 69, 70, 71, 72, 73, 74, 75, 76] (by decide +kernel) (by decide +kernel)
set_option maxRecDepth 20000 in
theorem gX6_busiestDrawerTold_X6_drawerTold : GoodIn wsX6_busiestDrawerTold (wsV RX6 168 RX6 yX6_drawerTold wsX6_drawerTold) := goodIn_app (goodIn_of _ (by decide +kernel)) ggX6_busiestDrawerTold_X6_drawerTold
theorem dX6_busiestDrawerTold_0 : decode cX6_busiestDrawerTold 0 = .ok (.bipush (-9), 2) := by decide +kernel
theorem dX6_busiestDrawerTold_2 : decode cX6_busiestDrawerTold 2 = .ok (.istore_n 3, 1) := by decide +kernel
theorem dX6_busiestDrawerTold_3 : decode cX6_busiestDrawerTold 3 = .ok (.iconst 0, 1) := by decide +kernel
theorem dX6_busiestDrawerTold_4 : decode cX6_busiestDrawerTold 4 = .ok (.istore 4, 2) := by decide +kernel
theorem dX6_busiestDrawerTold_6 : decode cX6_busiestDrawerTold 6 = .ok (.iconst 0, 1) := by decide +kernel
theorem dX6_busiestDrawerTold_7 : decode cX6_busiestDrawerTold 7 = .ok (.istore 5, 2) := by decide +kernel
theorem dX6_busiestDrawerTold_9 : decode cX6_busiestDrawerTold 9 = .ok (.iload 5, 2) := by decide +kernel
theorem dX6_busiestDrawerTold_11 : decode cX6_busiestDrawerTold 11 = .ok (.iconst 4, 1) := by decide +kernel
theorem dX6_busiestDrawerTold_12 : decode cX6_busiestDrawerTold 12 = .ok (.if_icmp .gt 60, 3) := by decide +kernel
theorem dX6_busiestDrawerTold_15 : decode cX6_busiestDrawerTold 15 = .ok (.iconst 0, 1) := by decide +kernel
theorem dX6_busiestDrawerTold_16 : decode cX6_busiestDrawerTold 16 = .ok (.istore 6, 2) := by decide +kernel
theorem dX6_busiestDrawerTold_18 : decode cX6_busiestDrawerTold 18 = .ok (.iconst 0, 1) := by decide +kernel
theorem dX6_busiestDrawerTold_19 : decode cX6_busiestDrawerTold 19 = .ok (.istore 7, 2) := by decide +kernel
theorem dX6_busiestDrawerTold_21 : decode cX6_busiestDrawerTold 21 = .ok (.iload 7, 2) := by decide +kernel
theorem dX6_busiestDrawerTold_23 : decode cX6_busiestDrawerTold 23 = .ok (.aload_n 0, 1) := by decide +kernel
theorem dX6_busiestDrawerTold_24 : decode cX6_busiestDrawerTold 24 = .ok (.getfield 90, 3) := by decide +kernel
theorem dX6_busiestDrawerTold_27 : decode cX6_busiestDrawerTold 27 = .ok (.if_icmp .ge 25, 3) := by decide +kernel
theorem dX6_busiestDrawerTold_30 : decode cX6_busiestDrawerTold 30 = .ok (.aload_n 0, 1) := by decide +kernel
theorem dX6_busiestDrawerTold_31 : decode cX6_busiestDrawerTold 31 = .ok (.aload_n 1, 1) := by decide +kernel
theorem dX6_busiestDrawerTold_32 : decode cX6_busiestDrawerTold 32 = .ok (.iload_n 2, 1) := by decide +kernel
theorem dX6_busiestDrawerTold_33 : decode cX6_busiestDrawerTold 33 = .ok (.iload 7, 2) := by decide +kernel
theorem dX6_busiestDrawerTold_35 : decode cX6_busiestDrawerTold 35 = .ok (.invokevirtual 168, 3) := by decide +kernel
theorem dX6_busiestDrawerTold_38 : decode cX6_busiestDrawerTold 38 = .ok (.iload 5, 2) := by decide +kernel
theorem dX6_busiestDrawerTold_40 : decode cX6_busiestDrawerTold 40 = .ok (.if_icmp .ne 6, 3) := by decide +kernel
theorem dX6_busiestDrawerTold_43 : decode cX6_busiestDrawerTold 43 = .ok (.iinc 6 1, 3) := by decide +kernel
theorem dX6_busiestDrawerTold_46 : decode cX6_busiestDrawerTold 46 = .ok (.iinc 7 1, 3) := by decide +kernel
theorem dX6_busiestDrawerTold_49 : decode cX6_busiestDrawerTold 49 = .ok (.goto (-28), 3) := by decide +kernel
theorem dX6_busiestDrawerTold_52 : decode cX6_busiestDrawerTold 52 = .ok (.iload 6, 2) := by decide +kernel
theorem dX6_busiestDrawerTold_54 : decode cX6_busiestDrawerTold 54 = .ok (.iload 4, 2) := by decide +kernel
theorem dX6_busiestDrawerTold_56 : decode cX6_busiestDrawerTold 56 = .ok (.if_icmp .le 10, 3) := by decide +kernel
theorem dX6_busiestDrawerTold_59 : decode cX6_busiestDrawerTold 59 = .ok (.iload 6, 2) := by decide +kernel
theorem dX6_busiestDrawerTold_61 : decode cX6_busiestDrawerTold 61 = .ok (.istore 4, 2) := by decide +kernel
theorem dX6_busiestDrawerTold_63 : decode cX6_busiestDrawerTold 63 = .ok (.iload 5, 2) := by decide +kernel
theorem dX6_busiestDrawerTold_65 : decode cX6_busiestDrawerTold 65 = .ok (.istore_n 3, 1) := by decide +kernel
theorem dX6_busiestDrawerTold_66 : decode cX6_busiestDrawerTold 66 = .ok (.iinc 5 1, 3) := by decide +kernel
theorem dX6_busiestDrawerTold_69 : decode cX6_busiestDrawerTold 69 = .ok (.goto (-60), 3) := by decide +kernel
theorem dX6_busiestDrawerTold_72 : decode cX6_busiestDrawerTold 72 = .ok (.iload_n 3, 1) := by decide +kernel
theorem dX6_busiestDrawerTold_73 : decode cX6_busiestDrawerTold 73 = .ok (.ireturn, 1) := by decide +kernel
set_option maxRecDepth 20000 in
theorem ggX6_drawerTold_X6_thingAt : GoodIn wsX6_drawerTold wsX6_thingAt := goodIn_r _ [7, 8, 9, 50, 51, 52, 53, 54, 55, 56, 57, 58, 59, 60, 61, 62] (by decide +kernel) (by decide +kernel)
set_option maxRecDepth 20000 in
theorem gX6_drawerTold_X6_thingAt : GoodIn wsX6_drawerTold (wsV RX6 93 RX6 yX6_thingAt wsX6_thingAt) := goodIn_app (goodIn_of _ (by decide +kernel)) ggX6_drawerTold_X6_thingAt
set_option maxRecDepth 20000 in
theorem ggX6_drawerTold_X2_numberAt : GoodIn wsX6_drawerTold wsX2_numberAt := goodIn_r _ [14, 15, 16, 17, 18, 13, 19, 20, 68, 69, 70] (by decide +kernel) (by decide +kernel)
set_option maxRecDepth 20000 in
theorem gX6_drawerTold_X2_numberAt : GoodIn wsX6_drawerTold (wsV RX6 226 RX2 yX2_numberAt wsX2_numberAt) := goodIn_app (goodIn_of _ (by decide +kernel)) ggX6_drawerTold_X2_numberAt
set_option maxRecDepth 20000 in
theorem ggX6_drawerTold_X6_delayOf : GoodIn wsX6_drawerTold wsX6_delayOf := goodIn_r _ [24, 25, 26, 27, 28, 29, 6, 30, 31, 32, 33, 34, 63, 64, 65, 66, 67, 50, 51, 52, 53, 54, 55, 56, 57, 58, 59, 60, 61, 62] (by decide +kernel) (by decide +kernel)
set_option maxRecDepth 20000 in
theorem gX6_drawerTold_X6_delayOf : GoodIn wsX6_drawerTold (wsV RX6 112 RX6 yX6_delayOf wsX6_delayOf) := goodIn_app (goodIn_of _ (by decide +kernel)) ggX6_drawerTold_X6_delayOf
set_option maxRecDepth 20000 in
theorem ggX6_drawerTold_X1_otherDrawer : GoodIn wsX6_drawerTold wsX1_otherDrawer := goodIn_r _ [39, 40, 41, 42, 38, 43, 44, 45, 46, 47, 48, 49, 71, 72] (by decide +kernel) (by decide +kernel)
set_option maxRecDepth 20000 in
theorem gX6_drawerTold_X1_otherDrawer : GoodIn wsX6_drawerTold (wsV RX6 172 RX1 yX1_otherDrawer wsX1_otherDrawer) := goodIn_app (goodIn_of _ (by decide +kernel)) ggX6_drawerTold_X1_otherDrawer
theorem dX6_drawerTold_0 : decode cX6_drawerTold 0 = .ok (.aload_n 0, 1) := by decide +kernel
theorem dX6_drawerTold_1 : decode cX6_drawerTold 1 = .ok (.iload_n 3, 1) := by decide +kernel
theorem dX6_drawerTold_2 : decode cX6_drawerTold 2 = .ok (.invokevirtual 93, 3) := by decide +kernel
theorem dX6_drawerTold_5 : decode cX6_drawerTold 5 = .ok (.astore 4, 2) := by decide +kernel
theorem dX6_drawerTold_7 : decode cX6_drawerTold 7 = .ok (.aload 4, 2) := by decide +kernel
theorem dX6_drawerTold_9 : decode cX6_drawerTold 9 = .ok (.ifnonnull 8, 3) := by decide +kernel
theorem dX6_drawerTold_12 : decode cX6_drawerTold 12 = .ok (.bipush (-9), 2) := by decide +kernel
theorem dX6_drawerTold_14 : decode cX6_drawerTold 14 = .ok (.goto 28, 3) := by decide +kernel
theorem dX6_drawerTold_17 : decode cX6_drawerTold 17 = .ok (.aload_n 0, 1) := by decide +kernel
theorem dX6_drawerTold_18 : decode cX6_drawerTold 18 = .ok (.getfield 32, 3) := by decide +kernel
theorem dX6_drawerTold_21 : decode cX6_drawerTold 21 = .ok (.aload 4, 2) := by decide +kernel
theorem dX6_drawerTold_23 : decode cX6_drawerTold 23 = .ok (.getfield 103, 3) := by decide +kernel
theorem dX6_drawerTold_26 : decode cX6_drawerTold 26 = .ok (.aload_n 1, 1) := by decide +kernel
theorem dX6_drawerTold_27 : decode cX6_drawerTold 27 = .ok (.iload_n 2, 1) := by decide +kernel
theorem dX6_drawerTold_28 : decode cX6_drawerTold 28 = .ok (.iload_n 3, 1) := by decide +kernel
theorem dX6_drawerTold_29 : decode cX6_drawerTold 29 = .ok (.iadd, 1) := by decide +kernel
theorem dX6_drawerTold_30 : decode cX6_drawerTold 30 = .ok (.invokevirtual 226, 3) := by decide +kernel
theorem dX6_drawerTold_33 : decode cX6_drawerTold 33 = .ok (.aload_n 0, 1) := by decide +kernel
theorem dX6_drawerTold_34 : decode cX6_drawerTold 34 = .ok (.aload 4, 2) := by decide +kernel
theorem dX6_drawerTold_36 : decode cX6_drawerTold 36 = .ok (.invokevirtual 112, 3) := by decide +kernel
theorem dX6_drawerTold_39 : decode cX6_drawerTold 39 = .ok (.invokevirtual 172, 3) := by decide +kernel
theorem dX6_drawerTold_42 : decode cX6_drawerTold 42 = .ok (.ireturn, 1) := by decide +kernel
set_option maxRecDepth 20000 in
theorem ggX6_rightOnesBy_X6_thingAt : GoodIn wsX6_rightOnesBy wsX6_thingAt := goodIn_r _ [7, 1, 8, 44, 45, 46, 47, 48, 49, 50, 51, 52, 53, 54, 55, 56] (by decide +kernel) (by decide +kernel)
set_option maxRecDepth 20000 in
theorem gX6_rightOnesBy_X6_thingAt : GoodIn wsX6_rightOnesBy (wsV RX6 93 RX6 yX6_thingAt wsX6_thingAt) := goodIn_app (goodIn_of _ (by decide +kernel)) ggX6_rightOnesBy_X6_thingAt
set_option maxRecDepth 20000 in
theorem ggX6_rightOnesBy_X6_isRight : GoodIn wsX6_rightOnesBy wsX6_isRight := goodIn_r _ [12, 13, 14, 15, 16, 17, 6, 18, 19, 20, 21, 22, 23, 24, 25, 26, 27, 28, 29, 30, 31, 32, 33, 34, 35, 36, 37, 38, 39, 40, 41, 42, 43, 57, 58, 59, 60, 61, 44, 45, 46, 47, 48, 49, 50, 51, 52, 53, 54, 55, 56, 62, 63] (by decide +kernel) (by decide +kernel)
set_option maxRecDepth 20000 in
theorem gX6_rightOnesBy_X6_isRight : GoodIn wsX6_rightOnesBy (wsV RX6 201 RX6 yX6_isRight wsX6_isRight) := goodIn_app (goodIn_of _ (by decide +kernel)) ggX6_rightOnesBy_X6_isRight
theorem dX6_rightOnesBy_0 : decode cX6_rightOnesBy 0 = .ok (.iconst 0, 1) := by decide +kernel
theorem dX6_rightOnesBy_1 : decode cX6_rightOnesBy 1 = .ok (.istore_n 2, 1) := by decide +kernel
theorem dX6_rightOnesBy_2 : decode cX6_rightOnesBy 2 = .ok (.iconst 0, 1) := by decide +kernel
theorem dX6_rightOnesBy_3 : decode cX6_rightOnesBy 3 = .ok (.istore_n 3, 1) := by decide +kernel
theorem dX6_rightOnesBy_4 : decode cX6_rightOnesBy 4 = .ok (.iload_n 3, 1) := by decide +kernel
theorem dX6_rightOnesBy_5 : decode cX6_rightOnesBy 5 = .ok (.aload_n 0, 1) := by decide +kernel
theorem dX6_rightOnesBy_6 : decode cX6_rightOnesBy 6 = .ok (.getfield 90, 3) := by decide +kernel
theorem dX6_rightOnesBy_9 : decode cX6_rightOnesBy 9 = .ok (.if_icmp .ge 39, 3) := by decide +kernel
theorem dX6_rightOnesBy_12 : decode cX6_rightOnesBy 12 = .ok (.aload_n 0, 1) := by decide +kernel
theorem dX6_rightOnesBy_13 : decode cX6_rightOnesBy 13 = .ok (.iload_n 3, 1) := by decide +kernel
theorem dX6_rightOnesBy_14 : decode cX6_rightOnesBy 14 = .ok (.invokevirtual 93, 3) := by decide +kernel
theorem dX6_rightOnesBy_17 : decode cX6_rightOnesBy 17 = .ok (.astore 4, 2) := by decide +kernel
theorem dX6_rightOnesBy_19 : decode cX6_rightOnesBy 19 = .ok (.aload 4, 2) := by decide +kernel
theorem dX6_rightOnesBy_21 : decode cX6_rightOnesBy 21 = .ok (.ifnull 21, 3) := by decide +kernel
theorem dX6_rightOnesBy_24 : decode cX6_rightOnesBy 24 = .ok (.aload_n 0, 1) := by decide +kernel
theorem dX6_rightOnesBy_25 : decode cX6_rightOnesBy 25 = .ok (.aload 4, 2) := by decide +kernel
theorem dX6_rightOnesBy_27 : decode cX6_rightOnesBy 27 = .ok (.aload_n 1, 1) := by decide +kernel
theorem dX6_rightOnesBy_28 : decode cX6_rightOnesBy 28 = .ok (.aload 4, 2) := by decide +kernel
theorem dX6_rightOnesBy_30 : decode cX6_rightOnesBy 30 = .ok (.getfield 109, 3) := by decide +kernel
theorem dX6_rightOnesBy_33 : decode cX6_rightOnesBy 33 = .ok (.invokevirtual 201, 3) := by decide +kernel
theorem dX6_rightOnesBy_36 : decode cX6_rightOnesBy 36 = .ok (.ifCond .eq 6, 3) := by decide +kernel
theorem dX6_rightOnesBy_39 : decode cX6_rightOnesBy 39 = .ok (.iinc 2 1, 3) := by decide +kernel
theorem dX6_rightOnesBy_42 : decode cX6_rightOnesBy 42 = .ok (.iinc 3 1, 3) := by decide +kernel
theorem dX6_rightOnesBy_45 : decode cX6_rightOnesBy 45 = .ok (.goto (-41), 3) := by decide +kernel
theorem dX6_rightOnesBy_48 : decode cX6_rightOnesBy 48 = .ok (.iload_n 2, 1) := by decide +kernel
theorem dX6_rightOnesBy_49 : decode cX6_rightOnesBy 49 = .ok (.ireturn, 1) := by decide +kernel
set_option maxRecDepth 20000 in
theorem ggX6_findBestRota_X1_takeFrom : GoodIn wsX6_findBestRota wsX1_takeFrom := goodIn_r _ [9, 10, 11, 12, 13, 8, 14, 15, 16, 17, 18, 19, 20, 21, 22, 23, 88, 89] (by decide +kernel) (by decide +kernel)
set_option maxRecDepth 20000 in
theorem gX6_findBestRota_X1_takeFrom : GoodIn wsX6_findBestRota (wsV RX6 281 RX1 yX1_takeFrom wsX1_takeFrom) := goodIn_app (goodIn_of _ (by decide +kernel)) ggX6_findBestRota_X1_takeFrom
set_option maxRecDepth 20000 in
theorem ggX6_findBestRota_X1_sort : GoodIn wsX6_findBestRota wsX1_sort := goodIn_r _ [27, 10, 11, 12, 13, 8, 14, 15, 28, 29, 30, 31, 16, 17, 18, 19, 20, 21, 22, 23, 88, 89] (by decide +kernel) (by decide +kernel)
set_option maxRecDepth 20000 in
theorem gX6_findBestRota_X1_sort : GoodIn wsX6_findBestRota (wsV RX6 285 RX1 yX1_sort wsX1_sort) := goodIn_app (goodIn_of _ (by decide +kernel)) ggX6_findBestRota_X1_sort
set_option maxRecDepth 20000 in
theorem ggX6_findBestRota_X6_rightOnesBy : GoodIn wsX6_findBestRota wsX6_rightOnesBy := goodIn_r _ [36, 4, 37, 38, 39, 40, 35, 41, 42, 43, 44, 45, 46, 47, 48, 49, 50, 51, 52, 53, 54, 55, 56, 57, 58, 59, 60, 61, 62, 63, 64, 65, 8, 66, 67, 68, 69, 70, 10, 11, 12, 13, 14, 15, 75, 76, 77, 78, 79, 80, 81, 82, 83, 84, 85, 86, 87, 90, 91, 92, 93, 94, 88, 89] (by decide +kernel) (by decide +kernel)
set_option maxRecDepth 20000 in
theorem gX6_findBestRota_X6_rightOnesBy : GoodIn wsX6_findBestRota (wsV RX6 288 RX6 yX6_rightOnesBy wsX6_rightOnesBy) := goodIn_app (goodIn_of _ (by decide +kernel)) ggX6_findBestRota_X6_rightOnesBy
set_option maxRecDepth 20000 in
theorem ggX6_findBestRota_X1_goToNextOrder : GoodIn wsX6_findBestRota wsX1_goToNextOrder := goodIn_r _ [74, 10, 11, 12, 13, 8, 14, 15, 28, 29, 30, 31, 16, 17, 18, 19, 20, 21, 22, 23, 88, 89] (by decide +kernel) (by decide +kernel)
set_option maxRecDepth 20000 in
theorem gX6_findBestRota_X1_goToNextOrder : GoodIn wsX6_findBestRota (wsV RX6 292 RX1 yX1_goToNextOrder wsX1_goToNextOrder) := goodIn_app (goodIn_of _ (by decide +kernel)) ggX6_findBestRota_X1_goToNextOrder
theorem dX6_findBestRota_0 : decode cX6_findBestRota 0 = .ok (.aload_n 0, 1) := by decide +kernel
theorem dX6_findBestRota_1 : decode cX6_findBestRota 1 = .ok (.getfield 36, 3) := by decide +kernel
theorem dX6_findBestRota_4 : decode cX6_findBestRota 4 = .ok (.aload_n 0, 1) := by decide +kernel
theorem dX6_findBestRota_5 : decode cX6_findBestRota 5 = .ok (.getfield 32, 3) := by decide +kernel
theorem dX6_findBestRota_8 : decode cX6_findBestRota 8 = .ok (.invokevirtual 281, 3) := by decide +kernel
theorem dX6_findBestRota_11 : decode cX6_findBestRota 11 = .ok (.aload_n 0, 1) := by decide +kernel
theorem dX6_findBestRota_12 : decode cX6_findBestRota 12 = .ok (.getfield 36, 3) := by decide +kernel
theorem dX6_findBestRota_15 : decode cX6_findBestRota 15 = .ok (.invokevirtual 285, 3) := by decide +kernel
theorem dX6_findBestRota_18 : decode cX6_findBestRota 18 = .ok (.iconst (-1), 1) := by decide +kernel
theorem dX6_findBestRota_19 : decode cX6_findBestRota 19 = .ok (.istore_n 1, 1) := by decide +kernel
theorem dX6_findBestRota_20 : decode cX6_findBestRota 20 = .ok (.iconst 0, 1) := by decide +kernel
theorem dX6_findBestRota_21 : decode cX6_findBestRota 21 = .ok (.istore_n 2, 1) := by decide +kernel
theorem dX6_findBestRota_22 : decode cX6_findBestRota 22 = .ok (.iload_n 2, 1) := by decide +kernel
theorem dX6_findBestRota_23 : decode cX6_findBestRota 23 = .ok (.sipush 720, 3) := by decide +kernel
theorem dX6_findBestRota_26 : decode cX6_findBestRota 26 = .ok (.if_icmp .ge 57, 3) := by decide +kernel
theorem dX6_findBestRota_29 : decode cX6_findBestRota 29 = .ok (.aload_n 0, 1) := by decide +kernel
theorem dX6_findBestRota_30 : decode cX6_findBestRota 30 = .ok (.aload_n 0, 1) := by decide +kernel
theorem dX6_findBestRota_31 : decode cX6_findBestRota 31 = .ok (.getfield 36, 3) := by decide +kernel
theorem dX6_findBestRota_34 : decode cX6_findBestRota 34 = .ok (.invokevirtual 288, 3) := by decide +kernel
theorem dX6_findBestRota_37 : decode cX6_findBestRota 37 = .ok (.istore_n 3, 1) := by decide +kernel
theorem dX6_findBestRota_38 : decode cX6_findBestRota 38 = .ok (.iload_n 3, 1) := by decide +kernel
theorem dX6_findBestRota_39 : decode cX6_findBestRota 39 = .ok (.iload_n 1, 1) := by decide +kernel
theorem dX6_findBestRota_40 : decode cX6_findBestRota 40 = .ok (.if_icmp .le 16, 3) := by decide +kernel
theorem dX6_findBestRota_43 : decode cX6_findBestRota 43 = .ok (.iload_n 3, 1) := by decide +kernel
theorem dX6_findBestRota_44 : decode cX6_findBestRota 44 = .ok (.istore_n 1, 1) := by decide +kernel
theorem dX6_findBestRota_45 : decode cX6_findBestRota 45 = .ok (.aload_n 0, 1) := by decide +kernel
theorem dX6_findBestRota_46 : decode cX6_findBestRota 46 = .ok (.getfield 39, 3) := by decide +kernel
theorem dX6_findBestRota_49 : decode cX6_findBestRota 49 = .ok (.aload_n 0, 1) := by decide +kernel
theorem dX6_findBestRota_50 : decode cX6_findBestRota 50 = .ok (.getfield 36, 3) := by decide +kernel
theorem dX6_findBestRota_53 : decode cX6_findBestRota 53 = .ok (.invokevirtual 281, 3) := by decide +kernel
theorem dX6_findBestRota_56 : decode cX6_findBestRota 56 = .ok (.iload_n 1, 1) := by decide +kernel
theorem dX6_findBestRota_57 : decode cX6_findBestRota 57 = .ok (.aload_n 0, 1) := by decide +kernel
theorem dX6_findBestRota_58 : decode cX6_findBestRota 58 = .ok (.getfield 90, 3) := by decide +kernel
theorem dX6_findBestRota_61 : decode cX6_findBestRota 61 = .ok (.if_icmp .eq 22, 3) := by decide +kernel
theorem dX6_findBestRota_64 : decode cX6_findBestRota 64 = .ok (.aload_n 0, 1) := by decide +kernel
theorem dX6_findBestRota_65 : decode cX6_findBestRota 65 = .ok (.getfield 36, 3) := by decide +kernel
theorem dX6_findBestRota_68 : decode cX6_findBestRota 68 = .ok (.invokevirtual 292, 3) := by decide +kernel
theorem dX6_findBestRota_71 : decode cX6_findBestRota 71 = .ok (.ifCond .ne 6, 3) := by decide +kernel
theorem dX6_findBestRota_74 : decode cX6_findBestRota 74 = .ok (.goto 9, 3) := by decide +kernel
theorem dX6_findBestRota_77 : decode cX6_findBestRota 77 = .ok (.iinc 2 1, 3) := by decide +kernel
theorem dX6_findBestRota_80 : decode cX6_findBestRota 80 = .ok (.goto (-58), 3) := by decide +kernel
theorem dX6_findBestRota_83 : decode cX6_findBestRota 83 = .ok (.iload_n 1, 1) := by decide +kernel
theorem dX6_findBestRota_84 : decode cX6_findBestRota 84 = .ok (.ireturn, 1) := by decide +kernel
set_option maxRecDepth 20000 in
theorem ggX6_readingsAreSo_X6_readingAt : GoodIn wsX6_readingsAreSo wsX6_readingAt := goodIn_r _ [13, 14, 43, 44, 45, 46, 47, 48, 49, 50, 51, 52, 53, 54, 55] (by decide +kernel) (by decide +kernel)
set_option maxRecDepth 20000 in
theorem gX6_readingsAreSo_X6_readingAt : GoodIn wsX6_readingsAreSo (wsV RX6 184 RX6 yX6_readingAt wsX6_readingAt) := goodIn_app (goodIn_of _ (by decide +kernel)) ggX6_readingsAreSo_X6_readingAt
set_option maxRecDepth 20000 in
theorem ggX6_readingsAreSo_X6_thingAt : GoodIn wsX6_readingsAreSo wsX6_thingAt := goodIn_r _ [18, 19, 20, 43, 44, 45, 46, 47, 48, 49, 50, 51, 52, 53, 54, 55] (by decide +kernel) (by decide +kernel)
set_option maxRecDepth 20000 in
theorem gX6_readingsAreSo_X6_thingAt : GoodIn wsX6_readingsAreSo (wsV RX6 93 RX6 yX6_thingAt wsX6_thingAt) := goodIn_app (goodIn_of _ (by decide +kernel)) ggX6_readingsAreSo_X6_thingAt
set_option maxRecDepth 20000 in
theorem ggX6_readingsAreSo_X6_delayBy : GoodIn wsX6_readingsAreSo wsX6_delayBy := goodIn_r _ [23, 24, 25, 26, 27] (by decide +kernel) (by decide +kernel)
set_option maxRecDepth 20000 in
theorem gX6_readingsAreSo_X6_delayBy : GoodIn wsX6_readingsAreSo (va_wsS RX6 278 yX6_delayBy wsX6_delayBy) := goodIn_app (goodIn_of _ (by decide +kernel)) ggX6_readingsAreSo_X6_delayBy
set_option maxRecDepth 20000 in
theorem ggX6_readingsAreSo_X1_otherDrawer : GoodIn wsX6_readingsAreSo wsX1_otherDrawer := goodIn_r _ [32, 33, 34, 35, 31, 36, 37, 38, 39, 40, 41, 42, 64, 65] (by decide +kernel) (by decide +kernel)
set_option maxRecDepth 20000 in
theorem gX6_readingsAreSo_X1_otherDrawer : GoodIn wsX6_readingsAreSo (wsV RX6 172 RX1 yX1_otherDrawer wsX1_otherDrawer) := goodIn_app (goodIn_of _ (by decide +kernel)) ggX6_readingsAreSo_X1_otherDrawer
theorem dX6_readingsAreSo_0 : decode cX6_readingsAreSo 0 = .ok (.iconst 0, 1) := by decide +kernel
theorem dX6_readingsAreSo_1 : decode cX6_readingsAreSo 1 = .ok (.istore 5, 2) := by decide +kernel
theorem dX6_readingsAreSo_3 : decode cX6_readingsAreSo 3 = .ok (.iload 5, 2) := by decide +kernel
theorem dX6_readingsAreSo_5 : decode cX6_readingsAreSo 5 = .ok (.aload_n 0, 1) := by decide +kernel
theorem dX6_readingsAreSo_6 : decode cX6_readingsAreSo 6 = .ok (.getfield 181, 3) := by decide +kernel
theorem dX6_readingsAreSo_9 : decode cX6_readingsAreSo 9 = .ok (.if_icmp .ge 106, 3) := by decide +kernel
theorem dX6_readingsAreSo_12 : decode cX6_readingsAreSo 12 = .ok (.aload_n 0, 1) := by decide +kernel
theorem dX6_readingsAreSo_13 : decode cX6_readingsAreSo 13 = .ok (.iload 5, 2) := by decide +kernel
theorem dX6_readingsAreSo_15 : decode cX6_readingsAreSo 15 = .ok (.invokevirtual 184, 3) := by decide +kernel
theorem dX6_readingsAreSo_18 : decode cX6_readingsAreSo 18 = .ok (.astore 6, 2) := by decide +kernel
theorem dX6_readingsAreSo_20 : decode cX6_readingsAreSo 20 = .ok (.aload 6, 2) := by decide +kernel
theorem dX6_readingsAreSo_22 : decode cX6_readingsAreSo 22 = .ok (.ifnonnull 7, 3) := by decide +kernel
theorem dX6_readingsAreSo_25 : decode cX6_readingsAreSo 25 = .ok (.aconst_null, 1) := by decide +kernel
theorem dX6_readingsAreSo_26 : decode cX6_readingsAreSo 26 = .ok (.goto 12, 3) := by decide +kernel
theorem dX6_readingsAreSo_29 : decode cX6_readingsAreSo 29 = .ok (.aload_n 0, 1) := by decide +kernel
theorem dX6_readingsAreSo_30 : decode cX6_readingsAreSo 30 = .ok (.aload 6, 2) := by decide +kernel
theorem dX6_readingsAreSo_32 : decode cX6_readingsAreSo 32 = .ok (.getfield 188, 3) := by decide +kernel
theorem dX6_readingsAreSo_35 : decode cX6_readingsAreSo 35 = .ok (.invokevirtual 93, 3) := by decide +kernel
theorem dX6_readingsAreSo_38 : decode cX6_readingsAreSo 38 = .ok (.astore 7, 2) := by decide +kernel
theorem dX6_readingsAreSo_40 : decode cX6_readingsAreSo 40 = .ok (.aload 7, 2) := by decide +kernel
theorem dX6_readingsAreSo_42 : decode cX6_readingsAreSo 42 = .ok (.ifnull 67, 3) := by decide +kernel
theorem dX6_readingsAreSo_45 : decode cX6_readingsAreSo 45 = .ok (.aload 6, 2) := by decide +kernel
theorem dX6_readingsAreSo_47 : decode cX6_readingsAreSo 47 = .ok (.getfield 188, 3) := by decide +kernel
theorem dX6_readingsAreSo_50 : decode cX6_readingsAreSo 50 = .ok (.iload_n 2, 1) := by decide +kernel
theorem dX6_readingsAreSo_51 : decode cX6_readingsAreSo 51 = .ok (.if_icmp .ne 13, 3) := by decide +kernel
theorem dX6_readingsAreSo_54 : decode cX6_readingsAreSo 54 = .ok (.iload_n 3, 1) := by decide +kernel
theorem dX6_readingsAreSo_55 : decode cX6_readingsAreSo 55 = .ok (.iload_n 1, 1) := by decide +kernel
theorem dX6_readingsAreSo_56 : decode cX6_readingsAreSo 56 = .ok (.iload 4, 2) := by decide +kernel
theorem dX6_readingsAreSo_58 : decode cX6_readingsAreSo 58 = .ok (.invokestatic 278, 3) := by decide +kernel
theorem dX6_readingsAreSo_61 : decode cX6_readingsAreSo 61 = .ok (.goto 17, 3) := by decide +kernel
theorem dX6_readingsAreSo_64 : decode cX6_readingsAreSo 64 = .ok (.aload 7, 2) := by decide +kernel
theorem dX6_readingsAreSo_66 : decode cX6_readingsAreSo 66 = .ok (.getfield 97, 3) := by decide +kernel
theorem dX6_readingsAreSo_69 : decode cX6_readingsAreSo 69 = .ok (.iload_n 1, 1) := by decide +kernel
theorem dX6_readingsAreSo_70 : decode cX6_readingsAreSo 70 = .ok (.aload 7, 2) := by decide +kernel
theorem dX6_readingsAreSo_72 : decode cX6_readingsAreSo 72 = .ok (.getfield 100, 3) := by decide +kernel
theorem dX6_readingsAreSo_75 : decode cX6_readingsAreSo 75 = .ok (.invokestatic 278, 3) := by decide +kernel
theorem dX6_readingsAreSo_78 : decode cX6_readingsAreSo 78 = .ok (.istore 8, 2) := by decide +kernel
theorem dX6_readingsAreSo_80 : decode cX6_readingsAreSo 80 = .ok (.aload_n 0, 1) := by decide +kernel
theorem dX6_readingsAreSo_81 : decode cX6_readingsAreSo 81 = .ok (.getfield 32, 3) := by decide +kernel
theorem dX6_readingsAreSo_84 : decode cX6_readingsAreSo 84 = .ok (.aload 7, 2) := by decide +kernel
theorem dX6_readingsAreSo_86 : decode cX6_readingsAreSo 86 = .ok (.getfield 103, 3) := by decide +kernel
theorem dX6_readingsAreSo_89 : decode cX6_readingsAreSo 89 = .ok (.aload 6, 2) := by decide +kernel
theorem dX6_readingsAreSo_91 : decode cX6_readingsAreSo 91 = .ok (.getfield 191, 3) := by decide +kernel
theorem dX6_readingsAreSo_94 : decode cX6_readingsAreSo 94 = .ok (.iload 8, 2) := by decide +kernel
theorem dX6_readingsAreSo_96 : decode cX6_readingsAreSo 96 = .ok (.invokevirtual 172, 3) := by decide +kernel
theorem dX6_readingsAreSo_99 : decode cX6_readingsAreSo 99 = .ok (.aload 6, 2) := by decide +kernel
theorem dX6_readingsAreSo_101 : decode cX6_readingsAreSo 101 = .ok (.getfield 192, 3) := by decide +kernel
theorem dX6_readingsAreSo_104 : decode cX6_readingsAreSo 104 = .ok (.if_icmp .eq 5, 3) := by decide +kernel
theorem dX6_readingsAreSo_107 : decode cX6_readingsAreSo 107 = .ok (.iconst 0, 1) := by decide +kernel
theorem dX6_readingsAreSo_108 : decode cX6_readingsAreSo 108 = .ok (.ireturn, 1) := by decide +kernel
theorem dX6_readingsAreSo_109 : decode cX6_readingsAreSo 109 = .ok (.iinc 5 1, 3) := by decide +kernel
theorem dX6_readingsAreSo_112 : decode cX6_readingsAreSo 112 = .ok (.goto (-109), 3) := by decide +kernel
theorem dX6_readingsAreSo_115 : decode cX6_readingsAreSo 115 = .ok (.iconst 1, 1) := by decide +kernel
theorem dX6_readingsAreSo_116 : decode cX6_readingsAreSo 116 = .ok (.ireturn, 1) := by decide +kernel
theorem dX6_commonMeasure_0 : decode cX6_commonMeasure 0 = .ok (.iload_n 1, 1) := by decide +kernel
theorem dX6_commonMeasure_1 : decode cX6_commonMeasure 1 = .ok (.istore_n 2, 1) := by decide +kernel
theorem dX6_commonMeasure_2 : decode cX6_commonMeasure 2 = .ok (.iload_n 2, 1) := by decide +kernel
theorem dX6_commonMeasure_3 : decode cX6_commonMeasure 3 = .ok (.iconst 1, 1) := by decide +kernel
theorem dX6_commonMeasure_4 : decode cX6_commonMeasure 4 = .ok (.if_icmp .le 23, 3) := by decide +kernel
theorem dX6_commonMeasure_7 : decode cX6_commonMeasure 7 = .ok (.iload_n 0, 1) := by decide +kernel
theorem dX6_commonMeasure_8 : decode cX6_commonMeasure 8 = .ok (.iload_n 2, 1) := by decide +kernel
theorem dX6_commonMeasure_9 : decode cX6_commonMeasure 9 = .ok (.irem, 1) := by decide +kernel
theorem dX6_commonMeasure_10 : decode cX6_commonMeasure 10 = .ok (.ifCond .ne 11, 3) := by decide +kernel
theorem dX6_commonMeasure_13 : decode cX6_commonMeasure 13 = .ok (.iload_n 1, 1) := by decide +kernel
theorem dX6_commonMeasure_14 : decode cX6_commonMeasure 14 = .ok (.iload_n 2, 1) := by decide +kernel
theorem dX6_commonMeasure_15 : decode cX6_commonMeasure 15 = .ok (.irem, 1) := by decide +kernel
theorem dX6_commonMeasure_16 : decode cX6_commonMeasure 16 = .ok (.ifCond .ne 5, 3) := by decide +kernel
theorem dX6_commonMeasure_19 : decode cX6_commonMeasure 19 = .ok (.iload_n 2, 1) := by decide +kernel
theorem dX6_commonMeasure_20 : decode cX6_commonMeasure 20 = .ok (.ireturn, 1) := by decide +kernel
theorem dX6_commonMeasure_21 : decode cX6_commonMeasure 21 = .ok (.iinc 2 (-1), 3) := by decide +kernel
theorem dX6_commonMeasure_24 : decode cX6_commonMeasure 24 = .ok (.goto (-22), 3) := by decide +kernel
theorem dX6_commonMeasure_27 : decode cX6_commonMeasure 27 = .ok (.iconst 1, 1) := by decide +kernel
theorem dX6_commonMeasure_28 : decode cX6_commonMeasure 28 = .ok (.ireturn, 1) := by decide +kernel
theorem dX6_leaveTrace_0 : decode cX6_leaveTrace 0 = .ok (.aload_n 0, 1) := by decide +kernel
theorem dX6_leaveTrace_1 : decode cX6_leaveTrace 1 = .ok (.bipush 31, 2) := by decide +kernel
theorem dX6_leaveTrace_3 : decode cX6_leaveTrace 3 = .ok (.aload_n 0, 1) := by decide +kernel
theorem dX6_leaveTrace_4 : decode cX6_leaveTrace 4 = .ok (.getfield 258, 3) := by decide +kernel
theorem dX6_leaveTrace_7 : decode cX6_leaveTrace 7 = .ok (.imul, 1) := by decide +kernel
theorem dX6_leaveTrace_8 : decode cX6_leaveTrace 8 = .ok (.iload_n 1, 1) := by decide +kernel
theorem dX6_leaveTrace_9 : decode cX6_leaveTrace 9 = .ok (.iadd, 1) := by decide +kernel
theorem dX6_leaveTrace_10 : decode cX6_leaveTrace 10 = .ok (.putfield 258, 3) := by decide +kernel
theorem dX6_leaveTrace_13 : decode cX6_leaveTrace 13 = .ok (.return_, 1) := by decide +kernel
set_option maxRecDepth 20000 in
theorem ggX6_tellThing_X6_leaveTrace : GoodIn wsX6_tellThing wsX6_leaveTrace := goodIn_r _ [6, 7, 13, 14, 15, 16, 17, 18, 19, 20, 21, 22, 23, 24, 25] (by decide +kernel) (by decide +kernel)
set_option maxRecDepth 20000 in
theorem gX6_tellThing_X6_leaveTrace : GoodIn wsX6_tellThing (wsV RX6 254 RX6 yX6_leaveTrace wsX6_leaveTrace) := goodIn_app (goodIn_of _ (by decide +kernel)) ggX6_tellThing_X6_leaveTrace
theorem dX6_tellThing_0 : decode cX6_tellThing 0 = .ok (.aload_n 0, 1) := by decide +kernel
theorem dX6_tellThing_1 : decode cX6_tellThing 1 = .ok (.iconst 1, 1) := by decide +kernel
theorem dX6_tellThing_2 : decode cX6_tellThing 2 = .ok (.invokevirtual 254, 3) := by decide +kernel
theorem dX6_tellThing_5 : decode cX6_tellThing 5 = .ok (.aload_n 1, 1) := by decide +kernel
theorem dX6_tellThing_6 : decode cX6_tellThing 6 = .ok (.getfield 100, 3) := by decide +kernel
theorem dX6_tellThing_9 : decode cX6_tellThing 9 = .ok (.ireturn, 1) := by decide +kernel
set_option maxRecDepth 20000 in
theorem ggX6_tellLetter_X6_leaveTrace : GoodIn wsX6_tellLetter wsX6_leaveTrace := goodIn_r _ [5, 6, 12, 13, 14, 15, 16, 17, 18, 19, 20, 21, 22, 23, 24] (by decide +kernel) (by decide +kernel)
set_option maxRecDepth 20000 in
theorem gX6_tellLetter_X6_leaveTrace : GoodIn wsX6_tellLetter (wsV RX6 254 RX6 yX6_leaveTrace wsX6_leaveTrace) := goodIn_app (goodIn_of _ (by decide +kernel)) ggX6_tellLetter_X6_leaveTrace
set_option maxRecDepth 20000 in
theorem ggX6_tellLetter_X6_tellThing : GoodIn wsX6_tellLetter wsX6_tellThing := goodIn_r _ [10, 11, 1, 2, 3, 4, 5, 6, 25, 26, 27, 28, 29, 12, 13, 14, 15, 16, 17, 18, 19, 20, 21, 22, 23, 24] (by decide +kernel) (by decide +kernel)
set_option maxRecDepth 20000 in
theorem gX6_tellLetter_X6_tellThing : GoodIn wsX6_tellLetter (wsV RX6 251 RX6 yX6_tellThing wsX6_tellThing) := goodIn_app (goodIn_of _ (by decide +kernel)) ggX6_tellLetter_X6_tellThing
theorem dX6_tellLetter_0 : decode cX6_tellLetter 0 = .ok (.aload_n 0, 1) := by decide +kernel
theorem dX6_tellLetter_1 : decode cX6_tellLetter 1 = .ok (.iconst 2, 1) := by decide +kernel
theorem dX6_tellLetter_2 : decode cX6_tellLetter 2 = .ok (.invokevirtual 254, 3) := by decide +kernel
theorem dX6_tellLetter_5 : decode cX6_tellLetter 5 = .ok (.aload_n 0, 1) := by decide +kernel
theorem dX6_tellLetter_6 : decode cX6_tellLetter 6 = .ok (.aload_n 1, 1) := by decide +kernel
theorem dX6_tellLetter_7 : decode cX6_tellLetter 7 = .ok (.invokevirtual 251, 3) := by decide +kernel
theorem dX6_tellLetter_10 : decode cX6_tellLetter 10 = .ok (.bipush 100, 2) := by decide +kernel
theorem dX6_tellLetter_12 : decode cX6_tellLetter 12 = .ok (.iadd, 1) := by decide +kernel
theorem dX6_tellLetter_13 : decode cX6_tellLetter 13 = .ok (.ireturn, 1) := by decide +kernel
set_option maxRecDepth 20000 in
theorem ggX6_tellRing_X6_leaveTrace : GoodIn wsX6_tellRing wsX6_leaveTrace := goodIn_r _ [5, 6, 16, 17, 18, 19, 20, 21, 22, 23, 24, 25, 26, 27, 28] (by decide +kernel) (by decide +kernel)
set_option maxRecDepth 20000 in
theorem gX6_tellRing_X6_leaveTrace : GoodIn wsX6_tellRing (wsV RX6 254 RX6 yX6_leaveTrace wsX6_leaveTrace) := goodIn_app (goodIn_of _ (by decide +kernel)) ggX6_tellRing_X6_leaveTrace
set_option maxRecDepth 20000 in
theorem ggX6_tellRing_X6_tellLetter : GoodIn wsX6_tellRing wsX6_tellLetter := goodIn_r _ [10, 1, 2, 3, 4, 5, 6, 11, 12, 13, 14, 15, 16, 17, 18, 19, 20, 21, 22, 23, 24, 25, 26, 27, 28, 29, 30, 31, 32, 33] (by decide +kernel) (by decide +kernel)
set_option maxRecDepth 20000 in
theorem gX6_tellRing_X6_tellLetter : GoodIn wsX6_tellRing (wsV RX6 245 RX6 yX6_tellLetter wsX6_tellLetter) := goodIn_app (goodIn_of _ (by decide +kernel)) ggX6_tellRing_X6_tellLetter
set_option maxRecDepth 20000 in
theorem ggX6_tellRing_X6_tellThing : GoodIn wsX6_tellRing wsX6_tellThing := goodIn_r _ [14, 15, 1, 2, 3, 4, 5, 6, 29, 30, 31, 32, 33, 16, 17, 18, 19, 20, 21, 22, 23, 24, 25, 26, 27, 28] (by decide +kernel) (by decide +kernel)
set_option maxRecDepth 20000 in
theorem gX6_tellRing_X6_tellThing : GoodIn wsX6_tellRing (wsV RX6 251 RX6 yX6_tellThing wsX6_tellThing) := goodIn_app (goodIn_of _ (by decide +kernel)) ggX6_tellRing_X6_tellThing
theorem dX6_tellRing_0 : decode cX6_tellRing 0 = .ok (.aload_n 0, 1) := by decide +kernel
theorem dX6_tellRing_1 : decode cX6_tellRing 1 = .ok (.iconst 3, 1) := by decide +kernel
theorem dX6_tellRing_2 : decode cX6_tellRing 2 = .ok (.invokevirtual 254, 3) := by decide +kernel
theorem dX6_tellRing_5 : decode cX6_tellRing 5 = .ok (.aload_n 0, 1) := by decide +kernel
theorem dX6_tellRing_6 : decode cX6_tellRing 6 = .ok (.aload_n 1, 1) := by decide +kernel
theorem dX6_tellRing_7 : decode cX6_tellRing 7 = .ok (.invokevirtual 245, 3) := by decide +kernel
theorem dX6_tellRing_10 : decode cX6_tellRing 10 = .ok (.istore_n 2, 1) := by decide +kernel
theorem dX6_tellRing_11 : decode cX6_tellRing 11 = .ok (.iload_n 2, 1) := by decide +kernel
theorem dX6_tellRing_12 : decode cX6_tellRing 12 = .ok (.aload_n 0, 1) := by decide +kernel
theorem dX6_tellRing_13 : decode cX6_tellRing 13 = .ok (.aload_n 1, 1) := by decide +kernel
theorem dX6_tellRing_14 : decode cX6_tellRing 14 = .ok (.invokevirtual 251, 3) := by decide +kernel
theorem dX6_tellRing_17 : decode cX6_tellRing 17 = .ok (.iadd, 1) := by decide +kernel
theorem dX6_tellRing_18 : decode cX6_tellRing 18 = .ok (.ireturn, 1) := by decide +kernel