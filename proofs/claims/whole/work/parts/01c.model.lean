theorem dX7_init_0 : decode cX7_init 0 = .ok (.aload_n 0, 1) := by decide +kernel
theorem dX7_init_1 : decode cX7_init 1 = .ok (.invokespecial 1, 3) := by decide +kernel
theorem dX7_init_4 : decode cX7_init 4 = .ok (.aload_n 0, 1) := by decide +kernel
theorem dX7_init_5 : decode cX7_init 5 = .ok (.iconst 4, 1) := by decide +kernel
theorem dX7_init_6 : decode cX7_init 6 = .ok (.newarray .int, 2) := by decide +kernel
theorem dX7_init_8 : decode cX7_init 8 = .ok (.dup, 1) := by decide +kernel
theorem dX7_init_9 : decode cX7_init 9 = .ok (.iconst 0, 1) := by decide +kernel
theorem dX7_init_10 : decode cX7_init 10 = .ok (.bipush (-9), 2) := by decide +kernel
theorem dX7_init_12 : decode cX7_init 12 = .ok (.iastore, 1) := by decide +kernel
theorem dX7_init_13 : decode cX7_init 13 = .ok (.dup, 1) := by decide +kernel
theorem dX7_init_14 : decode cX7_init 14 = .ok (.iconst 1, 1) := by decide +kernel
theorem dX7_init_15 : decode cX7_init 15 = .ok (.bipush (-9), 2) := by decide +kernel
theorem dX7_init_17 : decode cX7_init 17 = .ok (.iastore, 1) := by decide +kernel
theorem dX7_init_18 : decode cX7_init 18 = .ok (.dup, 1) := by decide +kernel
theorem dX7_init_19 : decode cX7_init 19 = .ok (.iconst 2, 1) := by decide +kernel
theorem dX7_init_20 : decode cX7_init 20 = .ok (.bipush (-9), 2) := by decide +kernel
theorem dX7_init_22 : decode cX7_init 22 = .ok (.iastore, 1) := by decide +kernel
theorem dX7_init_23 : decode cX7_init 23 = .ok (.dup, 1) := by decide +kernel
theorem dX7_init_24 : decode cX7_init 24 = .ok (.iconst 3, 1) := by decide +kernel
theorem dX7_init_25 : decode cX7_init 25 = .ok (.bipush (-9), 2) := by decide +kernel
theorem dX7_init_27 : decode cX7_init 27 = .ok (.iastore, 1) := by decide +kernel
theorem dX7_init_28 : decode cX7_init 28 = .ok (.putfield 9, 3) := by decide +kernel
theorem dX7_init_31 : decode cX7_init 31 = .ok (.aload_n 0, 1) := by decide +kernel
theorem dX7_init_32 : decode cX7_init 32 = .ok (.iconst 4, 1) := by decide +kernel
theorem dX7_init_33 : decode cX7_init 33 = .ok (.newarray .int, 2) := by decide +kernel
theorem dX7_init_35 : decode cX7_init 35 = .ok (.putfield 13, 3) := by decide +kernel
theorem dX7_init_38 : decode cX7_init 38 = .ok (.aload_n 0, 1) := by decide +kernel
theorem dX7_init_39 : decode cX7_init 39 = .ok (.sipush 240, 3) := by decide +kernel
theorem dX7_init_42 : decode cX7_init 42 = .ok (.newarray .int, 2) := by decide +kernel
theorem dX7_init_44 : decode cX7_init 44 = .ok (.putfield 16, 3) := by decide +kernel
theorem dX7_init_47 : decode cX7_init 47 = .ok (.aload_n 0, 1) := by decide +kernel
theorem dX7_init_48 : decode cX7_init 48 = .ok (.bipush 6, 2) := by decide +kernel
theorem dX7_init_50 : decode cX7_init 50 = .ok (.newarray .int, 2) := by decide +kernel
theorem dX7_init_52 : decode cX7_init 52 = .ok (.putfield 19, 3) := by decide +kernel
theorem dX7_init_55 : decode cX7_init 55 = .ok (.aload_n 0, 1) := by decide +kernel
theorem dX7_init_56 : decode cX7_init 56 = .ok (.iconst 5, 1) := by decide +kernel
theorem dX7_init_57 : decode cX7_init 57 = .ok (.newarray .int, 2) := by decide +kernel
theorem dX7_init_59 : decode cX7_init 59 = .ok (.putfield 22, 3) := by decide +kernel
theorem dX7_init_62 : decode cX7_init 62 = .ok (.aload_n 0, 1) := by decide +kernel
theorem dX7_init_63 : decode cX7_init 63 = .ok (.iconst 5, 1) := by decide +kernel
theorem dX7_init_64 : decode cX7_init 64 = .ok (.newarray .int, 2) := by decide +kernel
theorem dX7_init_66 : decode cX7_init 66 = .ok (.putfield 25, 3) := by decide +kernel
theorem dX7_init_69 : decode cX7_init 69 = .ok (.aload_n 0, 1) := by decide +kernel
theorem dX7_init_70 : decode cX7_init 70 = .ok (.iconst 5, 1) := by decide +kernel
theorem dX7_init_71 : decode cX7_init 71 = .ok (.newarray .int, 2) := by decide +kernel
theorem dX7_init_73 : decode cX7_init 73 = .ok (.putfield 28, 3) := by decide +kernel
theorem dX7_init_76 : decode cX7_init 76 = .ok (.aload_n 0, 1) := by decide +kernel
theorem dX7_init_77 : decode cX7_init 77 = .ok (.iconst 5, 1) := by decide +kernel
theorem dX7_init_78 : decode cX7_init 78 = .ok (.newarray .int, 2) := by decide +kernel
theorem dX7_init_80 : decode cX7_init 80 = .ok (.putfield 31, 3) := by decide +kernel
theorem dX7_init_83 : decode cX7_init 83 = .ok (.aload_n 0, 1) := by decide +kernel
theorem dX7_init_84 : decode cX7_init 84 = .ok (.iconst 5, 1) := by decide +kernel
theorem dX7_init_85 : decode cX7_init 85 = .ok (.newarray .int, 2) := by decide +kernel
theorem dX7_init_87 : decode cX7_init 87 = .ok (.putfield 34, 3) := by decide +kernel
theorem dX7_init_90 : decode cX7_init 90 = .ok (.aload_n 0, 1) := by decide +kernel
theorem dX7_init_91 : decode cX7_init 91 = .ok (.bipush 6, 2) := by decide +kernel
theorem dX7_init_93 : decode cX7_init 93 = .ok (.newarray .int, 2) := by decide +kernel
theorem dX7_init_95 : decode cX7_init 95 = .ok (.putfield 37, 3) := by decide +kernel
theorem dX7_init_98 : decode cX7_init 98 = .ok (.aload_n 0, 1) := by decide +kernel
theorem dX7_init_99 : decode cX7_init 99 = .ok (.bipush 25, 2) := by decide +kernel
theorem dX7_init_101 : decode cX7_init 101 = .ok (.newarray .int, 2) := by decide +kernel
theorem dX7_init_103 : decode cX7_init 103 = .ok (.putfield 40, 3) := by decide +kernel
theorem dX7_init_106 : decode cX7_init 106 = .ok (.aload_n 0, 1) := by decide +kernel
theorem dX7_init_107 : decode cX7_init 107 = .ok (.iconst 5, 1) := by decide +kernel
theorem dX7_init_108 : decode cX7_init 108 = .ok (.newarray .int, 2) := by decide +kernel
theorem dX7_init_110 : decode cX7_init 110 = .ok (.putfield 43, 3) := by decide +kernel
theorem dX7_init_113 : decode cX7_init 113 = .ok (.aload_n 0, 1) := by decide +kernel
theorem dX7_init_114 : decode cX7_init 114 = .ok (.bipush 6, 2) := by decide +kernel
theorem dX7_init_116 : decode cX7_init 116 = .ok (.newarray .int, 2) := by decide +kernel
theorem dX7_init_118 : decode cX7_init 118 = .ok (.putfield 46, 3) := by decide +kernel
theorem dX7_init_121 : decode cX7_init 121 = .ok (.aload_n 0, 1) := by decide +kernel
theorem dX7_init_122 : decode cX7_init 122 = .ok (.bipush 6, 2) := by decide +kernel
theorem dX7_init_124 : decode cX7_init 124 = .ok (.newarray .int, 2) := by decide +kernel
theorem dX7_init_126 : decode cX7_init 126 = .ok (.putfield 49, 3) := by decide +kernel
theorem dX7_init_129 : decode cX7_init 129 = .ok (.aload_n 0, 1) := by decide +kernel
theorem dX7_init_130 : decode cX7_init 130 = .ok (.bipush 8, 2) := by decide +kernel
theorem dX7_init_132 : decode cX7_init 132 = .ok (.newarray .int, 2) := by decide +kernel
theorem dX7_init_134 : decode cX7_init 134 = .ok (.putfield 52, 3) := by decide +kernel
theorem dX7_init_137 : decode cX7_init 137 = .ok (.aload_n 0, 1) := by decide +kernel
theorem dX7_init_138 : decode cX7_init 138 = .ok (.bipush 8, 2) := by decide +kernel
theorem dX7_init_140 : decode cX7_init 140 = .ok (.newarray .int, 2) := by decide +kernel
theorem dX7_init_142 : decode cX7_init 142 = .ok (.putfield 55, 3) := by decide +kernel
theorem dX7_init_145 : decode cX7_init 145 = .ok (.aload_n 0, 1) := by decide +kernel
theorem dX7_init_146 : decode cX7_init 146 = .ok (.bipush 8, 2) := by decide +kernel
theorem dX7_init_148 : decode cX7_init 148 = .ok (.newarray .int, 2) := by decide +kernel
theorem dX7_init_150 : decode cX7_init 150 = .ok (.putfield 58, 3) := by decide +kernel
theorem dX7_init_153 : decode cX7_init 153 = .ok (.return_, 1) := by decide +kernel
theorem dX7_fails_0 : decode cX7_fails 0 = .ok (.aload_n 0, 1) := by decide +kernel
theorem dX7_fails_1 : decode cX7_fails 1 = .ok (.iload_n 1, 1) := by decide +kernel
theorem dX7_fails_2 : decode cX7_fails 2 = .ok (.putfield 61, 3) := by decide +kernel
theorem dX7_fails_5 : decode cX7_fails 5 = .ok (.bipush (-10), 2) := by decide +kernel
theorem dX7_fails_7 : decode cX7_fails 7 = .ok (.iload_n 1, 1) := by decide +kernel
theorem dX7_fails_8 : decode cX7_fails 8 = .ok (.isub, 1) := by decide +kernel
theorem dX7_fails_9 : decode cX7_fails 9 = .ok (.ireturn, 1) := by decide +kernel
theorem dX7_lost_0 : decode cX7_lost 0 = .ok (.aload_n 0, 1) := by decide +kernel
theorem dX7_lost_1 : decode cX7_lost 1 = .ok (.iload_n 1, 1) := by decide +kernel
theorem dX7_lost_2 : decode cX7_lost 2 = .ok (.putfield 61, 3) := by decide +kernel
theorem dX7_lost_5 : decode cX7_lost 5 = .ok (.ldc2_w 65, 3) := by decide +kernel
theorem dX7_lost_8 : decode cX7_lost 8 = .ok (.lreturn, 1) := by decide +kernel
theorem dX7_within_0 : decode cX7_within 0 = .ok (.iload_n 0, 1) := by decide +kernel
theorem dX7_within_1 : decode cX7_within 1 = .ok (.iload_n 1, 1) := by decide +kernel
theorem dX7_within_2 : decode cX7_within 2 = .ok (.if_icmp .lt 12, 3) := by decide +kernel
theorem dX7_within_5 : decode cX7_within 5 = .ok (.iload_n 0, 1) := by decide +kernel
theorem dX7_within_6 : decode cX7_within 6 = .ok (.iload_n 2, 1) := by decide +kernel
theorem dX7_within_7 : decode cX7_within 7 = .ok (.if_icmp .gt 7, 3) := by decide +kernel
theorem dX7_within_10 : decode cX7_within 10 = .ok (.iconst 1, 1) := by decide +kernel
theorem dX7_within_11 : decode cX7_within 11 = .ok (.goto 4, 3) := by decide +kernel
theorem dX7_within_14 : decode cX7_within 14 = .ok (.iconst 0, 1) := by decide +kernel
theorem dX7_within_15 : decode cX7_within 15 = .ok (.ireturn, 1) := by decide +kernel
set_option maxRecDepth 20000 in
theorem ggX7_isSheet_X7_within : GoodIn wsX7_isSheet wsX7_within := goodIn_r _ [4] (by decide +kernel) (by decide +kernel)
set_option maxRecDepth 20000 in
theorem gX7_isSheet_X7_within : GoodIn wsX7_isSheet (va_wsS RX7 67 yX7_within wsX7_within) := goodIn_app (goodIn_of _ (by decide +kernel)) ggX7_isSheet_X7_within
theorem dX7_isSheet_0 : decode cX7_isSheet 0 = .ok (.iload_n 0, 1) := by decide +kernel
theorem dX7_isSheet_1 : decode cX7_isSheet 1 = .ok (.iconst 0, 1) := by decide +kernel
theorem dX7_isSheet_2 : decode cX7_isSheet 2 = .ok (.iconst 3, 1) := by decide +kernel
theorem dX7_isSheet_3 : decode cX7_isSheet 3 = .ok (.invokestatic 67, 3) := by decide +kernel
theorem dX7_isSheet_6 : decode cX7_isSheet 6 = .ok (.ireturn, 1) := by decide +kernel
set_option maxRecDepth 20000 in
theorem ggX7_isSort_X7_within : GoodIn wsX7_isSort wsX7_within := goodIn_r _ [4] (by decide +kernel) (by decide +kernel)
set_option maxRecDepth 20000 in
theorem gX7_isSort_X7_within : GoodIn wsX7_isSort (va_wsS RX7 67 yX7_within wsX7_within) := goodIn_app (goodIn_of _ (by decide +kernel)) ggX7_isSort_X7_within
theorem dX7_isSort_0 : decode cX7_isSort 0 = .ok (.iload_n 0, 1) := by decide +kernel
theorem dX7_isSort_1 : decode cX7_isSort 1 = .ok (.iconst 0, 1) := by decide +kernel
theorem dX7_isSort_2 : decode cX7_isSort 2 = .ok (.iconst 2, 1) := by decide +kernel
theorem dX7_isSort_3 : decode cX7_isSort 3 = .ok (.invokestatic 67, 3) := by decide +kernel
theorem dX7_isSort_6 : decode cX7_isSort 6 = .ok (.ireturn, 1) := by decide +kernel
theorem dX7_against_0 : decode cX7_against 0 = .ok (.aload_n 0, 1) := by decide +kernel
theorem dX7_against_1 : decode cX7_against 1 = .ok (.getfield 9, 3) := by decide +kernel
theorem dX7_against_4 : decode cX7_against 4 = .ok (.iload_n 1, 1) := by decide +kernel
theorem dX7_against_5 : decode cX7_against 5 = .ok (.iaload, 1) := by decide +kernel
theorem dX7_against_6 : decode cX7_against 6 = .ok (.bipush (-9), 2) := by decide +kernel
theorem dX7_against_8 : decode cX7_against 8 = .ok (.if_icmp .eq 15, 3) := by decide +kernel
theorem dX7_against_11 : decode cX7_against 11 = .ok (.aload_n 0, 1) := by decide +kernel
theorem dX7_against_12 : decode cX7_against 12 = .ok (.getfield 9, 3) := by decide +kernel
theorem dX7_against_15 : decode cX7_against 15 = .ok (.iload_n 1, 1) := by decide +kernel
theorem dX7_against_16 : decode cX7_against 16 = .ok (.iaload, 1) := by decide +kernel
theorem dX7_against_17 : decode cX7_against 17 = .ok (.iload_n 2, 1) := by decide +kernel
theorem dX7_against_18 : decode cX7_against 18 = .ok (.if_icmp .eq 5, 3) := by decide +kernel
theorem dX7_against_21 : decode cX7_against 21 = .ok (.iconst 2, 1) := by decide +kernel
theorem dX7_against_22 : decode cX7_against 22 = .ok (.ireturn, 1) := by decide +kernel
theorem dX7_against_23 : decode cX7_against 23 = .ok (.aload_n 0, 1) := by decide +kernel
theorem dX7_against_24 : decode cX7_against 24 = .ok (.getfield 9, 3) := by decide +kernel
theorem dX7_against_27 : decode cX7_against 27 = .ok (.iload_n 1, 1) := by decide +kernel
theorem dX7_against_28 : decode cX7_against 28 = .ok (.iaload, 1) := by decide +kernel
theorem dX7_against_29 : decode cX7_against 29 = .ok (.bipush (-9), 2) := by decide +kernel
theorem dX7_against_31 : decode cX7_against 31 = .ok (.if_icmp .ne 5, 3) := by decide +kernel
theorem dX7_against_34 : decode cX7_against 34 = .ok (.iconst 1, 1) := by decide +kernel
theorem dX7_against_35 : decode cX7_against 35 = .ok (.ireturn, 1) := by decide +kernel
theorem dX7_against_36 : decode cX7_against 36 = .ok (.iload 4, 2) := by decide +kernel
theorem dX7_against_38 : decode cX7_against 38 = .ok (.ifCond .ge 5, 3) := by decide +kernel
theorem dX7_against_41 : decode cX7_against 41 = .ok (.iconst 4, 1) := by decide +kernel
theorem dX7_against_42 : decode cX7_against 42 = .ok (.ireturn, 1) := by decide +kernel
theorem dX7_against_43 : decode cX7_against 43 = .ok (.iload_n 3, 1) := by decide +kernel
theorem dX7_against_44 : decode cX7_against 44 = .ok (.ifCond .lt 26, 3) := by decide +kernel
theorem dX7_against_47 : decode cX7_against 47 = .ok (.iload_n 3, 1) := by decide +kernel
theorem dX7_against_48 : decode cX7_against 48 = .ok (.aload_n 0, 1) := by decide +kernel
theorem dX7_against_49 : decode cX7_against 49 = .ok (.getfield 13, 3) := by decide +kernel
theorem dX7_against_52 : decode cX7_against 52 = .ok (.iload_n 1, 1) := by decide +kernel
theorem dX7_against_53 : decode cX7_against 53 = .ok (.iaload, 1) := by decide +kernel
theorem dX7_against_54 : decode cX7_against 54 = .ok (.if_icmp .gt 16, 3) := by decide +kernel
theorem dX7_against_57 : decode cX7_against 57 = .ok (.iload 4, 2) := by decide +kernel
theorem dX7_against_59 : decode cX7_against 59 = .ok (.aload_n 0, 1) := by decide +kernel
theorem dX7_against_60 : decode cX7_against 60 = .ok (.getfield 13, 3) := by decide +kernel
theorem dX7_against_63 : decode cX7_against 63 = .ok (.iload_n 1, 1) := by decide +kernel
theorem dX7_against_64 : decode cX7_against 64 = .ok (.iaload, 1) := by decide +kernel
theorem dX7_against_65 : decode cX7_against 65 = .ok (.iload_n 3, 1) := by decide +kernel
theorem dX7_against_66 : decode cX7_against 66 = .ok (.isub, 1) := by decide +kernel
theorem dX7_against_67 : decode cX7_against 67 = .ok (.if_icmp .le 7, 3) := by decide +kernel
theorem dX7_against_70 : decode cX7_against 70 = .ok (.iconst 3, 1) := by decide +kernel
theorem dX7_against_71 : decode cX7_against 71 = .ok (.goto 4, 3) := by decide +kernel
theorem dX7_against_74 : decode cX7_against 74 = .ok (.iconst 0, 1) := by decide +kernel
theorem dX7_against_75 : decode cX7_against 75 = .ok (.ireturn, 1) := by decide +kernel
theorem dX7_isThing_0 : decode cX7_isThing 0 = .ok (.iload_n 1, 1) := by decide +kernel
theorem dX7_isThing_1 : decode cX7_isThing 1 = .ok (.ifCond .lt 15, 3) := by decide +kernel
theorem dX7_isThing_4 : decode cX7_isThing 4 = .ok (.iload_n 1, 1) := by decide +kernel
theorem dX7_isThing_5 : decode cX7_isThing 5 = .ok (.aload_n 0, 1) := by decide +kernel
theorem dX7_isThing_6 : decode cX7_isThing 6 = .ok (.getfield 71, 3) := by decide +kernel
theorem dX7_isThing_9 : decode cX7_isThing 9 = .ok (.if_icmp .ge 7, 3) := by decide +kernel
theorem dX7_isThing_12 : decode cX7_isThing 12 = .ok (.iconst 1, 1) := by decide +kernel
theorem dX7_isThing_13 : decode cX7_isThing 13 = .ok (.goto 4, 3) := by decide +kernel
theorem dX7_isThing_16 : decode cX7_isThing 16 = .ok (.iconst 0, 1) := by decide +kernel
theorem dX7_isThing_17 : decode cX7_isThing 17 = .ok (.ireturn, 1) := by decide +kernel
set_option maxRecDepth 20000 in
theorem ggX7_isDrawer_X7_within : GoodIn wsX7_isDrawer wsX7_within := goodIn_r _ [4] (by decide +kernel) (by decide +kernel)
set_option maxRecDepth 20000 in
theorem gX7_isDrawer_X7_within : GoodIn wsX7_isDrawer (va_wsS RX7 67 yX7_within wsX7_within) := goodIn_app (goodIn_of _ (by decide +kernel)) ggX7_isDrawer_X7_within
theorem dX7_isDrawer_0 : decode cX7_isDrawer 0 = .ok (.iload_n 0, 1) := by decide +kernel
theorem dX7_isDrawer_1 : decode cX7_isDrawer 1 = .ok (.iconst 0, 1) := by decide +kernel
theorem dX7_isDrawer_2 : decode cX7_isDrawer 2 = .ok (.iconst 4, 1) := by decide +kernel
theorem dX7_isDrawer_3 : decode cX7_isDrawer 3 = .ok (.invokestatic 67, 3) := by decide +kernel
theorem dX7_isDrawer_6 : decode cX7_isDrawer 6 = .ok (.ireturn, 1) := by decide +kernel
set_option maxRecDepth 20000 in
theorem ggX7_digit_X7_within : GoodIn wsX7_digit wsX7_within := goodIn_r _ [6] (by decide +kernel) (by decide +kernel)
set_option maxRecDepth 20000 in
theorem gX7_digit_X7_within : GoodIn wsX7_digit (va_wsS RX7 67 yX7_within wsX7_within) := goodIn_app (goodIn_of _ (by decide +kernel)) ggX7_digit_X7_within
theorem dX7_digit_0 : decode cX7_digit 0 = .ok (.aload_n 0, 1) := by decide +kernel
theorem dX7_digit_1 : decode cX7_digit 1 = .ok (.getfield 74, 3) := by decide +kernel
theorem dX7_digit_4 : decode cX7_digit 4 = .ok (.iload_n 1, 1) := by decide +kernel
theorem dX7_digit_5 : decode cX7_digit 5 = .ok (.if_icmp .ge 24, 3) := by decide +kernel
theorem dX7_digit_8 : decode cX7_digit 8 = .ok (.aload_n 0, 1) := by decide +kernel
theorem dX7_digit_9 : decode cX7_digit 9 = .ok (.getfield 16, 3) := by decide +kernel
theorem dX7_digit_12 : decode cX7_digit 12 = .ok (.aload_n 0, 1) := by decide +kernel
theorem dX7_digit_13 : decode cX7_digit 13 = .ok (.getfield 74, 3) := by decide +kernel
theorem dX7_digit_16 : decode cX7_digit 16 = .ok (.iaload, 1) := by decide +kernel
theorem dX7_digit_17 : decode cX7_digit 17 = .ok (.bipush 48, 2) := by decide +kernel
theorem dX7_digit_19 : decode cX7_digit 19 = .ok (.bipush 48, 2) := by decide +kernel
theorem dX7_digit_21 : decode cX7_digit 21 = .ok (.iload_n 2, 1) := by decide +kernel
theorem dX7_digit_22 : decode cX7_digit 22 = .ok (.iadd, 1) := by decide +kernel
theorem dX7_digit_23 : decode cX7_digit 23 = .ok (.invokestatic 67, 3) := by decide +kernel
theorem dX7_digit_26 : decode cX7_digit 26 = .ok (.ifCond .ne 6, 3) := by decide +kernel
theorem dX7_digit_29 : decode cX7_digit 29 = .ok (.bipush (-9), 2) := by decide +kernel
theorem dX7_digit_31 : decode cX7_digit 31 = .ok (.ireturn, 1) := by decide +kernel
theorem dX7_digit_32 : decode cX7_digit 32 = .ok (.aload_n 0, 1) := by decide +kernel
theorem dX7_digit_33 : decode cX7_digit 33 = .ok (.dup, 1) := by decide +kernel
theorem dX7_digit_34 : decode cX7_digit 34 = .ok (.getfield 74, 3) := by decide +kernel
theorem dX7_digit_37 : decode cX7_digit 37 = .ok (.iconst 1, 1) := by decide +kernel
theorem dX7_digit_38 : decode cX7_digit 38 = .ok (.iadd, 1) := by decide +kernel
theorem dX7_digit_39 : decode cX7_digit 39 = .ok (.putfield 74, 3) := by decide +kernel
theorem dX7_digit_42 : decode cX7_digit 42 = .ok (.aload_n 0, 1) := by decide +kernel
theorem dX7_digit_43 : decode cX7_digit 43 = .ok (.getfield 16, 3) := by decide +kernel
theorem dX7_digit_46 : decode cX7_digit 46 = .ok (.aload_n 0, 1) := by decide +kernel
theorem dX7_digit_47 : decode cX7_digit 47 = .ok (.getfield 74, 3) := by decide +kernel
theorem dX7_digit_50 : decode cX7_digit 50 = .ok (.iconst 1, 1) := by decide +kernel
theorem dX7_digit_51 : decode cX7_digit 51 = .ok (.isub, 1) := by decide +kernel
theorem dX7_digit_52 : decode cX7_digit 52 = .ok (.iaload, 1) := by decide +kernel
theorem dX7_digit_53 : decode cX7_digit 53 = .ok (.bipush 48, 2) := by decide +kernel
theorem dX7_digit_55 : decode cX7_digit 55 = .ok (.isub, 1) := by decide +kernel
theorem dX7_digit_56 : decode cX7_digit 56 = .ok (.ireturn, 1) := by decide +kernel
theorem dX7_isSign_0 : decode cX7_isSign 0 = .ok (.aload_n 0, 1) := by decide +kernel
theorem dX7_isSign_1 : decode cX7_isSign 1 = .ok (.getfield 74, 3) := by decide +kernel
theorem dX7_isSign_4 : decode cX7_isSign 4 = .ok (.iload_n 1, 1) := by decide +kernel
theorem dX7_isSign_5 : decode cX7_isSign 5 = .ok (.if_icmp .ge 16, 3) := by decide +kernel
theorem dX7_isSign_8 : decode cX7_isSign 8 = .ok (.aload_n 0, 1) := by decide +kernel
theorem dX7_isSign_9 : decode cX7_isSign 9 = .ok (.getfield 16, 3) := by decide +kernel
theorem dX7_isSign_12 : decode cX7_isSign 12 = .ok (.aload_n 0, 1) := by decide +kernel
theorem dX7_isSign_13 : decode cX7_isSign 13 = .ok (.getfield 74, 3) := by decide +kernel
theorem dX7_isSign_16 : decode cX7_isSign 16 = .ok (.iaload, 1) := by decide +kernel
theorem dX7_isSign_17 : decode cX7_isSign 17 = .ok (.iload_n 2, 1) := by decide +kernel
theorem dX7_isSign_18 : decode cX7_isSign 18 = .ok (.if_icmp .eq 5, 3) := by decide +kernel
theorem dX7_isSign_21 : decode cX7_isSign 21 = .ok (.iconst 0, 1) := by decide +kernel
theorem dX7_isSign_22 : decode cX7_isSign 22 = .ok (.ireturn, 1) := by decide +kernel
theorem dX7_isSign_23 : decode cX7_isSign 23 = .ok (.aload_n 0, 1) := by decide +kernel
theorem dX7_isSign_24 : decode cX7_isSign 24 = .ok (.dup, 1) := by decide +kernel
theorem dX7_isSign_25 : decode cX7_isSign 25 = .ok (.getfield 74, 3) := by decide +kernel
theorem dX7_isSign_28 : decode cX7_isSign 28 = .ok (.iconst 1, 1) := by decide +kernel
theorem dX7_isSign_29 : decode cX7_isSign 29 = .ok (.iadd, 1) := by decide +kernel
theorem dX7_isSign_30 : decode cX7_isSign 30 = .ok (.putfield 74, 3) := by decide +kernel
theorem dX7_isSign_33 : decode cX7_isSign 33 = .ok (.iconst 1, 1) := by decide +kernel
theorem dX7_isSign_34 : decode cX7_isSign 34 = .ok (.ireturn, 1) := by decide +kernel
set_option maxRecDepth 20000 in
theorem ggX7_well_X7_isSheet : GoodIn wsX7_well wsX7_isSheet := goodIn_r _ [7, 8, 9, 6, 10] (by decide +kernel) (by decide +kernel)
set_option maxRecDepth 20000 in
theorem gX7_well_X7_isSheet : GoodIn wsX7_well (va_wsS RX7 77 yX7_isSheet wsX7_isSheet) := goodIn_app (goodIn_of _ (by decide +kernel)) ggX7_well_X7_isSheet
set_option maxRecDepth 20000 in
theorem ggX7_well_X7_isSort : GoodIn wsX7_well wsX7_isSort := goodIn_r _ [13, 8, 9, 6, 10] (by decide +kernel) (by decide +kernel)
set_option maxRecDepth 20000 in
theorem gX7_well_X7_isSort : GoodIn wsX7_well (va_wsS RX7 81 yX7_isSort wsX7_isSort) := goodIn_app (goodIn_of _ (by decide +kernel)) ggX7_well_X7_isSort
set_option maxRecDepth 20000 in
theorem ggX7_well_X7_against : GoodIn wsX7_well wsX7_against := goodIn_r _ [17, 18, 19, 63, 64, 65, 66, 67, 68, 69, 70, 71, 72, 73, 74, 75, 76, 77, 78, 79, 80, 81, 82, 83, 84, 85, 86, 87, 88, 89, 90, 91, 92] (by decide +kernel) (by decide +kernel)
set_option maxRecDepth 20000 in
theorem gX7_well_X7_against : GoodIn wsX7_well (wsV RX7 84 RX7 yX7_against wsX7_against) := goodIn_app (goodIn_of _ (by decide +kernel)) ggX7_well_X7_against
set_option maxRecDepth 20000 in
theorem ggX7_well_X7_fails : GoodIn wsX7_well wsX7_fails := goodIn_r _ [23, 1, 63, 64, 65, 66, 67, 68, 69, 70, 71, 72, 73, 74, 75, 76, 77, 78, 79, 80, 81, 82, 83, 84, 85, 86, 87, 88, 89, 90, 91, 92] (by decide +kernel) (by decide +kernel)
set_option maxRecDepth 20000 in
theorem gX7_well_X7_fails : GoodIn wsX7_well (wsV RX7 88 RX7 yX7_fails wsX7_fails) := goodIn_app (goodIn_of _ (by decide +kernel)) ggX7_well_X7_fails
set_option maxRecDepth 20000 in
theorem ggX7_well_X7_readWell : GoodIn wsX7_well wsX7_readWell := goodIn_r _ [27, 28, 29, 30, 2, 31, 32, 33, 6, 34, 35, 36, 37, 38, 39, 8, 9, 10, 40, 41, 42, 43, 44, 45, 46, 47, 48, 49, 63, 64, 65, 66, 67, 68, 69, 70, 71, 72, 73, 74, 75, 76, 77, 78, 79, 80, 81, 82, 83, 84, 85, 86, 87, 88, 89, 90, 91, 92] (by decide +kernel) (by decide +kernel)
set_option maxRecDepth 20000 in
theorem gX7_well_X7_readWell : GoodIn wsX7_well (wsV RX7 92 RX7 yX7_readWell wsX7_readWell) := goodIn_app (goodIn_of _ (by decide +kernel)) ggX7_well_X7_readWell
set_option maxRecDepth 20000 in
theorem ggX7_well_X7_takeWell : GoodIn wsX7_well wsX7_takeWell := goodIn_r _ [53, 30, 54, 28, 55, 56, 44, 29, 3, 57, 49, 58, 59, 60, 61, 62, 63, 64, 65, 66, 67, 68, 69, 70, 71, 72, 73, 74, 75, 76, 77, 78, 79, 80, 81, 82, 83, 84, 85, 86, 87, 88, 89, 90, 91, 92] (by decide +kernel) (by decide +kernel)
set_option maxRecDepth 20000 in
theorem gX7_well_X7_takeWell : GoodIn wsX7_well (wsV RX7 95 RX7 yX7_takeWell wsX7_takeWell) := goodIn_app (goodIn_of _ (by decide +kernel)) ggX7_well_X7_takeWell
theorem dX7_well_0 : decode cX7_well 0 = .ok (.aload_n 0, 1) := by decide +kernel
theorem dX7_well_1 : decode cX7_well 1 = .ok (.iconst 0, 1) := by decide +kernel
theorem dX7_well_2 : decode cX7_well 2 = .ok (.putfield 61, 3) := by decide +kernel
theorem dX7_well_5 : decode cX7_well 5 = .ok (.iload_n 1, 1) := by decide +kernel
theorem dX7_well_6 : decode cX7_well 6 = .ok (.invokestatic 77, 3) := by decide +kernel
theorem dX7_well_9 : decode cX7_well 9 = .ok (.ifCond .ne 5, 3) := by decide +kernel
theorem dX7_well_12 : decode cX7_well 12 = .ok (.iconst (-1), 1) := by decide +kernel
theorem dX7_well_13 : decode cX7_well 13 = .ok (.ireturn, 1) := by decide +kernel
theorem dX7_well_14 : decode cX7_well 14 = .ok (.iload_n 2, 1) := by decide +kernel
theorem dX7_well_15 : decode cX7_well 15 = .ok (.invokestatic 81, 3) := by decide +kernel
theorem dX7_well_18 : decode cX7_well 18 = .ok (.ifCond .ne 6, 3) := by decide +kernel
theorem dX7_well_21 : decode cX7_well 21 = .ok (.bipush (-2), 2) := by decide +kernel
theorem dX7_well_23 : decode cX7_well 23 = .ok (.ireturn, 1) := by decide +kernel
theorem dX7_well_24 : decode cX7_well 24 = .ok (.aload_n 0, 1) := by decide +kernel
theorem dX7_well_25 : decode cX7_well 25 = .ok (.iload_n 1, 1) := by decide +kernel
theorem dX7_well_26 : decode cX7_well 26 = .ok (.iload_n 2, 1) := by decide +kernel
theorem dX7_well_27 : decode cX7_well 27 = .ok (.iload_n 3, 1) := by decide +kernel
theorem dX7_well_28 : decode cX7_well 28 = .ok (.iload 4, 2) := by decide +kernel
theorem dX7_well_30 : decode cX7_well 30 = .ok (.invokevirtual 84, 3) := by decide +kernel
theorem dX7_well_33 : decode cX7_well 33 = .ok (.istore 5, 2) := by decide +kernel
theorem dX7_well_35 : decode cX7_well 35 = .ok (.iload 5, 2) := by decide +kernel
theorem dX7_well_37 : decode cX7_well 37 = .ok (.ifCond .eq 10, 3) := by decide +kernel
theorem dX7_well_40 : decode cX7_well 40 = .ok (.aload_n 0, 1) := by decide +kernel
theorem dX7_well_41 : decode cX7_well 41 = .ok (.iload 5, 2) := by decide +kernel
theorem dX7_well_43 : decode cX7_well 43 = .ok (.invokevirtual 88, 3) := by decide +kernel
theorem dX7_well_46 : decode cX7_well 46 = .ok (.ireturn, 1) := by decide +kernel
theorem dX7_well_47 : decode cX7_well 47 = .ok (.bipush 60, 2) := by decide +kernel
theorem dX7_well_49 : decode cX7_well 49 = .ok (.iload_n 1, 1) := by decide +kernel
theorem dX7_well_50 : decode cX7_well 50 = .ok (.imul, 1) := by decide +kernel
theorem dX7_well_51 : decode cX7_well 51 = .ok (.iload_n 3, 1) := by decide +kernel
theorem dX7_well_52 : decode cX7_well 52 = .ok (.iadd, 1) := by decide +kernel
theorem dX7_well_53 : decode cX7_well 53 = .ok (.istore 6, 2) := by decide +kernel
theorem dX7_well_55 : decode cX7_well 55 = .ok (.aload_n 0, 1) := by decide +kernel
theorem dX7_well_56 : decode cX7_well 56 = .ok (.iload 6, 2) := by decide +kernel
theorem dX7_well_58 : decode cX7_well 58 = .ok (.putfield 74, 3) := by decide +kernel
theorem dX7_well_61 : decode cX7_well 61 = .ok (.aload_n 0, 1) := by decide +kernel
theorem dX7_well_62 : decode cX7_well 62 = .ok (.iload 6, 2) := by decide +kernel
theorem dX7_well_64 : decode cX7_well 64 = .ok (.iload 4, 2) := by decide +kernel
theorem dX7_well_66 : decode cX7_well 66 = .ok (.iadd, 1) := by decide +kernel
theorem dX7_well_67 : decode cX7_well 67 = .ok (.invokevirtual 92, 3) := by decide +kernel
theorem dX7_well_70 : decode cX7_well 70 = .ok (.ifCond .ne 14, 3) := by decide +kernel
theorem dX7_well_73 : decode cX7_well 73 = .ok (.bipush (-100), 2) := by decide +kernel
theorem dX7_well_75 : decode cX7_well 75 = .ok (.aload_n 0, 1) := by decide +kernel
theorem dX7_well_76 : decode cX7_well 76 = .ok (.getfield 74, 3) := by decide +kernel
theorem dX7_well_79 : decode cX7_well 79 = .ok (.iload 6, 2) := by decide +kernel
theorem dX7_well_81 : decode cX7_well 81 = .ok (.isub, 1) := by decide +kernel
theorem dX7_well_82 : decode cX7_well 82 = .ok (.isub, 1) := by decide +kernel
theorem dX7_well_83 : decode cX7_well 83 = .ok (.ireturn, 1) := by decide +kernel
theorem dX7_well_84 : decode cX7_well 84 = .ok (.aload_n 0, 1) := by decide +kernel
theorem dX7_well_85 : decode cX7_well 85 = .ok (.invokevirtual 95, 3) := by decide +kernel
theorem dX7_well_88 : decode cX7_well 88 = .ok (.aload_n 0, 1) := by decide +kernel
theorem dX7_well_89 : decode cX7_well 89 = .ok (.getfield 71, 3) := by decide +kernel
theorem dX7_well_92 : decode cX7_well 92 = .ok (.ireturn, 1) := by decide +kernel
theorem dX7_takeWell_0 : decode cX7_takeWell 0 = .ok (.aload_n 0, 1) := by decide +kernel
theorem dX7_takeWell_1 : decode cX7_takeWell 1 = .ok (.aload_n 0, 1) := by decide +kernel
theorem dX7_takeWell_2 : decode cX7_takeWell 2 = .ok (.getfield 98, 3) := by decide +kernel
theorem dX7_takeWell_5 : decode cX7_takeWell 5 = .ok (.putfield 101, 3) := by decide +kernel
theorem dX7_takeWell_8 : decode cX7_takeWell 8 = .ok (.aload_n 0, 1) := by decide +kernel
theorem dX7_takeWell_9 : decode cX7_takeWell 9 = .ok (.aload_n 0, 1) := by decide +kernel
theorem dX7_takeWell_10 : decode cX7_takeWell 10 = .ok (.getfield 104, 3) := by decide +kernel
theorem dX7_takeWell_13 : decode cX7_takeWell 13 = .ok (.putfield 107, 3) := by decide +kernel
theorem dX7_takeWell_16 : decode cX7_takeWell 16 = .ok (.iconst 0, 1) := by decide +kernel
theorem dX7_takeWell_17 : decode cX7_takeWell 17 = .ok (.istore_n 1, 1) := by decide +kernel
theorem dX7_takeWell_18 : decode cX7_takeWell 18 = .ok (.iload_n 1, 1) := by decide +kernel
theorem dX7_takeWell_19 : decode cX7_takeWell 19 = .ok (.aload_n 0, 1) := by decide +kernel
theorem dX7_takeWell_20 : decode cX7_takeWell 20 = .ok (.getfield 107, 3) := by decide +kernel
theorem dX7_takeWell_23 : decode cX7_takeWell 23 = .ok (.if_icmp .ge 21, 3) := by decide +kernel
theorem dX7_takeWell_26 : decode cX7_takeWell 26 = .ok (.aload_n 0, 1) := by decide +kernel
theorem dX7_takeWell_27 : decode cX7_takeWell 27 = .ok (.getfield 19, 3) := by decide +kernel
theorem dX7_takeWell_30 : decode cX7_takeWell 30 = .ok (.iload_n 1, 1) := by decide +kernel
theorem dX7_takeWell_31 : decode cX7_takeWell 31 = .ok (.aload_n 0, 1) := by decide +kernel
theorem dX7_takeWell_32 : decode cX7_takeWell 32 = .ok (.getfield 37, 3) := by decide +kernel
theorem dX7_takeWell_35 : decode cX7_takeWell 35 = .ok (.iload_n 1, 1) := by decide +kernel
theorem dX7_takeWell_36 : decode cX7_takeWell 36 = .ok (.iaload, 1) := by decide +kernel
theorem dX7_takeWell_37 : decode cX7_takeWell 37 = .ok (.iastore, 1) := by decide +kernel
theorem dX7_takeWell_38 : decode cX7_takeWell 38 = .ok (.iinc 1 1, 3) := by decide +kernel
theorem dX7_takeWell_41 : decode cX7_takeWell 41 = .ok (.goto (-23), 3) := by decide +kernel
theorem dX7_takeWell_44 : decode cX7_takeWell 44 = .ok (.aload_n 0, 1) := by decide +kernel
theorem dX7_takeWell_45 : decode cX7_takeWell 45 = .ok (.aload_n 0, 1) := by decide +kernel
theorem dX7_takeWell_46 : decode cX7_takeWell 46 = .ok (.getfield 110, 3) := by decide +kernel
theorem dX7_takeWell_49 : decode cX7_takeWell 49 = .ok (.putfield 71, 3) := by decide +kernel
theorem dX7_takeWell_52 : decode cX7_takeWell 52 = .ok (.iconst 0, 1) := by decide +kernel
theorem dX7_takeWell_53 : decode cX7_takeWell 53 = .ok (.istore_n 1, 1) := by decide +kernel
theorem dX7_takeWell_54 : decode cX7_takeWell 54 = .ok (.iload_n 1, 1) := by decide +kernel
theorem dX7_takeWell_55 : decode cX7_takeWell 55 = .ok (.aload_n 0, 1) := by decide +kernel
theorem dX7_takeWell_56 : decode cX7_takeWell 56 = .ok (.getfield 71, 3) := by decide +kernel
theorem dX7_takeWell_59 : decode cX7_takeWell 59 = .ok (.if_icmp .ge 87, 3) := by decide +kernel
theorem dX7_takeWell_62 : decode cX7_takeWell 62 = .ok (.aload_n 0, 1) := by decide +kernel
theorem dX7_takeWell_63 : decode cX7_takeWell 63 = .ok (.getfield 22, 3) := by decide +kernel
theorem dX7_takeWell_66 : decode cX7_takeWell 66 = .ok (.iload_n 1, 1) := by decide +kernel
theorem dX7_takeWell_67 : decode cX7_takeWell 67 = .ok (.aload_n 0, 1) := by decide +kernel
theorem dX7_takeWell_68 : decode cX7_takeWell 68 = .ok (.getfield 40, 3) := by decide +kernel
theorem dX7_takeWell_71 : decode cX7_takeWell 71 = .ok (.iconst 5, 1) := by decide +kernel
theorem dX7_takeWell_72 : decode cX7_takeWell 72 = .ok (.iload_n 1, 1) := by decide +kernel
theorem dX7_takeWell_73 : decode cX7_takeWell 73 = .ok (.imul, 1) := by decide +kernel
theorem dX7_takeWell_74 : decode cX7_takeWell 74 = .ok (.iaload, 1) := by decide +kernel
theorem dX7_takeWell_75 : decode cX7_takeWell 75 = .ok (.iastore, 1) := by decide +kernel
theorem dX7_takeWell_76 : decode cX7_takeWell 76 = .ok (.aload_n 0, 1) := by decide +kernel
theorem dX7_takeWell_77 : decode cX7_takeWell 77 = .ok (.getfield 25, 3) := by decide +kernel
theorem dX7_takeWell_80 : decode cX7_takeWell 80 = .ok (.iload_n 1, 1) := by decide +kernel
theorem dX7_takeWell_81 : decode cX7_takeWell 81 = .ok (.aload_n 0, 1) := by decide +kernel
theorem dX7_takeWell_82 : decode cX7_takeWell 82 = .ok (.getfield 40, 3) := by decide +kernel
theorem dX7_takeWell_85 : decode cX7_takeWell 85 = .ok (.iconst 5, 1) := by decide +kernel
theorem dX7_takeWell_86 : decode cX7_takeWell 86 = .ok (.iload_n 1, 1) := by decide +kernel
theorem dX7_takeWell_87 : decode cX7_takeWell 87 = .ok (.imul, 1) := by decide +kernel
theorem dX7_takeWell_88 : decode cX7_takeWell 88 = .ok (.iconst 1, 1) := by decide +kernel
theorem dX7_takeWell_89 : decode cX7_takeWell 89 = .ok (.iadd, 1) := by decide +kernel
theorem dX7_takeWell_90 : decode cX7_takeWell 90 = .ok (.iaload, 1) := by decide +kernel
theorem dX7_takeWell_91 : decode cX7_takeWell 91 = .ok (.iastore, 1) := by decide +kernel
theorem dX7_takeWell_92 : decode cX7_takeWell 92 = .ok (.aload_n 0, 1) := by decide +kernel
theorem dX7_takeWell_93 : decode cX7_takeWell 93 = .ok (.getfield 28, 3) := by decide +kernel
theorem dX7_takeWell_96 : decode cX7_takeWell 96 = .ok (.iload_n 1, 1) := by decide +kernel
theorem dX7_takeWell_97 : decode cX7_takeWell 97 = .ok (.aload_n 0, 1) := by decide +kernel
theorem dX7_takeWell_98 : decode cX7_takeWell 98 = .ok (.getfield 40, 3) := by decide +kernel
theorem dX7_takeWell_101 : decode cX7_takeWell 101 = .ok (.iconst 5, 1) := by decide +kernel
theorem dX7_takeWell_102 : decode cX7_takeWell 102 = .ok (.iload_n 1, 1) := by decide +kernel
theorem dX7_takeWell_103 : decode cX7_takeWell 103 = .ok (.imul, 1) := by decide +kernel
theorem dX7_takeWell_104 : decode cX7_takeWell 104 = .ok (.iconst 2, 1) := by decide +kernel
theorem dX7_takeWell_105 : decode cX7_takeWell 105 = .ok (.iadd, 1) := by decide +kernel
theorem dX7_takeWell_106 : decode cX7_takeWell 106 = .ok (.iaload, 1) := by decide +kernel
theorem dX7_takeWell_107 : decode cX7_takeWell 107 = .ok (.iastore, 1) := by decide +kernel
theorem dX7_takeWell_108 : decode cX7_takeWell 108 = .ok (.aload_n 0, 1) := by decide +kernel
theorem dX7_takeWell_109 : decode cX7_takeWell 109 = .ok (.getfield 31, 3) := by decide +kernel
theorem dX7_takeWell_112 : decode cX7_takeWell 112 = .ok (.iload_n 1, 1) := by decide +kernel
theorem dX7_takeWell_113 : decode cX7_takeWell 113 = .ok (.aload_n 0, 1) := by decide +kernel
theorem dX7_takeWell_114 : decode cX7_takeWell 114 = .ok (.getfield 40, 3) := by decide +kernel
theorem dX7_takeWell_117 : decode cX7_takeWell 117 = .ok (.iconst 5, 1) := by decide +kernel
theorem dX7_takeWell_118 : decode cX7_takeWell 118 = .ok (.iload_n 1, 1) := by decide +kernel
theorem dX7_takeWell_119 : decode cX7_takeWell 119 = .ok (.imul, 1) := by decide +kernel
theorem dX7_takeWell_120 : decode cX7_takeWell 120 = .ok (.iconst 3, 1) := by decide +kernel
theorem dX7_takeWell_121 : decode cX7_takeWell 121 = .ok (.iadd, 1) := by decide +kernel
theorem dX7_takeWell_122 : decode cX7_takeWell 122 = .ok (.iaload, 1) := by decide +kernel
theorem dX7_takeWell_123 : decode cX7_takeWell 123 = .ok (.iastore, 1) := by decide +kernel
theorem dX7_takeWell_124 : decode cX7_takeWell 124 = .ok (.aload_n 0, 1) := by decide +kernel
theorem dX7_takeWell_125 : decode cX7_takeWell 125 = .ok (.getfield 34, 3) := by decide +kernel
theorem dX7_takeWell_128 : decode cX7_takeWell 128 = .ok (.iload_n 1, 1) := by decide +kernel
theorem dX7_takeWell_129 : decode cX7_takeWell 129 = .ok (.aload_n 0, 1) := by decide +kernel
theorem dX7_takeWell_130 : decode cX7_takeWell 130 = .ok (.getfield 40, 3) := by decide +kernel
theorem dX7_takeWell_133 : decode cX7_takeWell 133 = .ok (.iconst 5, 1) := by decide +kernel
theorem dX7_takeWell_134 : decode cX7_takeWell 134 = .ok (.iload_n 1, 1) := by decide +kernel
theorem dX7_takeWell_135 : decode cX7_takeWell 135 = .ok (.imul, 1) := by decide +kernel
theorem dX7_takeWell_136 : decode cX7_takeWell 136 = .ok (.iconst 4, 1) := by decide +kernel
theorem dX7_takeWell_137 : decode cX7_takeWell 137 = .ok (.iadd, 1) := by decide +kernel
theorem dX7_takeWell_138 : decode cX7_takeWell 138 = .ok (.iaload, 1) := by decide +kernel
theorem dX7_takeWell_139 : decode cX7_takeWell 139 = .ok (.iastore, 1) := by decide +kernel
theorem dX7_takeWell_140 : decode cX7_takeWell 140 = .ok (.iinc 1 1, 3) := by decide +kernel
theorem dX7_takeWell_143 : decode cX7_takeWell 143 = .ok (.goto (-89), 3) := by decide +kernel
theorem dX7_takeWell_146 : decode cX7_takeWell 146 = .ok (.aload_n 0, 1) := by decide +kernel
theorem dX7_takeWell_147 : decode cX7_takeWell 147 = .ok (.iconst 0, 1) := by decide +kernel
theorem dX7_takeWell_148 : decode cX7_takeWell 148 = .ok (.putfield 113, 3) := by decide +kernel
theorem dX7_takeWell_151 : decode cX7_takeWell 151 = .ok (.return_, 1) := by decide +kernel
set_option maxRecDepth 20000 in
theorem ggX7_readWell_X7_isSign : GoodIn wsX7_readWell wsX7_isSign := goodIn_r _ [9, 4, 10, 28, 29, 30, 31, 32, 33, 34, 35, 36, 37, 38, 39, 40, 41, 42, 43, 44, 45, 46, 47, 48, 49, 50, 51, 52, 53, 54, 55, 56, 57] (by decide +kernel) (by decide +kernel)
set_option maxRecDepth 20000 in
theorem gX7_readWell_X7_isSign : GoodIn wsX7_readWell (wsV RX7 116 RX7 yX7_isSign wsX7_isSign) := goodIn_app (goodIn_of _ (by decide +kernel)) ggX7_readWell_X7_isSign
set_option maxRecDepth 20000 in
theorem ggX7_readWell_X7_digit : GoodIn wsX7_readWell wsX7_digit := goodIn_r _ [14, 4, 10, 15, 16, 8, 17, 28, 29, 30, 31, 32, 33, 34, 35, 36, 37, 38, 39, 40, 41, 42, 43, 44, 45, 46, 47, 48, 49, 50, 51, 52, 53, 54, 55, 56, 57] (by decide +kernel) (by decide +kernel)
set_option maxRecDepth 20000 in
theorem gX7_readWell_X7_digit : GoodIn wsX7_readWell (wsV RX7 120 RX7 yX7_digit wsX7_digit) := goodIn_app (goodIn_of _ (by decide +kernel)) ggX7_readWell_X7_digit
set_option maxRecDepth 20000 in
theorem ggX7_readWell_X7_readTheRota : GoodIn wsX7_readWell wsX7_readTheRota := goodIn_r _ [21, 1, 22, 11, 12, 13, 8, 14, 4, 10, 15, 16, 17, 28, 29, 30, 31, 32, 33, 34, 35, 36, 37, 38, 39, 40, 41, 42, 43, 44, 45, 46, 47, 48, 49, 50, 51, 52, 53, 54, 55, 56, 57] (by decide +kernel) (by decide +kernel)
set_option maxRecDepth 20000 in
theorem gX7_readWell_X7_readTheRota : GoodIn wsX7_readWell (wsV RX7 124 RX7 yX7_readTheRota wsX7_readTheRota) := goodIn_app (goodIn_of _ (by decide +kernel)) ggX7_readWell_X7_readTheRota
set_option maxRecDepth 20000 in
theorem ggX7_readWell_X7_readThing : GoodIn wsX7_readWell wsX7_readThing := goodIn_r _ [26, 2, 4, 10, 27, 11, 12, 13, 8, 14, 15, 16, 17, 28, 29, 30, 31, 32, 33, 34, 35, 36, 37, 38, 39, 40, 41, 42, 43, 44, 45, 46, 47, 48, 49, 50, 51, 52, 53, 54, 55, 56, 57] (by decide +kernel) (by decide +kernel)
set_option maxRecDepth 20000 in
theorem gX7_readWell_X7_readThing : GoodIn wsX7_readWell (wsV RX7 127 RX7 yX7_readThing wsX7_readThing) := goodIn_app (goodIn_of _ (by decide +kernel)) ggX7_readWell_X7_readThing
theorem dX7_readWell_0 : decode cX7_readWell 0 = .ok (.aload_n 0, 1) := by decide +kernel
theorem dX7_readWell_1 : decode cX7_readWell 1 = .ok (.iconst 0, 1) := by decide +kernel
theorem dX7_readWell_2 : decode cX7_readWell 2 = .ok (.putfield 104, 3) := by decide +kernel
theorem dX7_readWell_5 : decode cX7_readWell 5 = .ok (.aload_n 0, 1) := by decide +kernel
theorem dX7_readWell_6 : decode cX7_readWell 6 = .ok (.iconst 0, 1) := by decide +kernel
theorem dX7_readWell_7 : decode cX7_readWell 7 = .ok (.putfield 110, 3) := by decide +kernel
theorem dX7_readWell_10 : decode cX7_readWell 10 = .ok (.aload_n 0, 1) := by decide +kernel
theorem dX7_readWell_11 : decode cX7_readWell 11 = .ok (.iload_n 1, 1) := by decide +kernel
theorem dX7_readWell_12 : decode cX7_readWell 12 = .ok (.bipush 103, 2) := by decide +kernel
theorem dX7_readWell_14 : decode cX7_readWell 14 = .ok (.invokevirtual 116, 3) := by decide +kernel
theorem dX7_readWell_17 : decode cX7_readWell 17 = .ok (.ifCond .ne 5, 3) := by decide +kernel
theorem dX7_readWell_20 : decode cX7_readWell 20 = .ok (.iconst 0, 1) := by decide +kernel
theorem dX7_readWell_21 : decode cX7_readWell 21 = .ok (.ireturn, 1) := by decide +kernel
theorem dX7_readWell_22 : decode cX7_readWell 22 = .ok (.aload_n 0, 1) := by decide +kernel
theorem dX7_readWell_23 : decode cX7_readWell 23 = .ok (.aload_n 0, 1) := by decide +kernel
theorem dX7_readWell_24 : decode cX7_readWell 24 = .ok (.iload_n 1, 1) := by decide +kernel
theorem dX7_readWell_25 : decode cX7_readWell 25 = .ok (.bipush 9, 2) := by decide +kernel
theorem dX7_readWell_27 : decode cX7_readWell 27 = .ok (.invokevirtual 120, 3) := by decide +kernel
theorem dX7_readWell_30 : decode cX7_readWell 30 = .ok (.putfield 98, 3) := by decide +kernel
theorem dX7_readWell_33 : decode cX7_readWell 33 = .ok (.aload_n 0, 1) := by decide +kernel
theorem dX7_readWell_34 : decode cX7_readWell 34 = .ok (.getfield 98, 3) := by decide +kernel
theorem dX7_readWell_37 : decode cX7_readWell 37 = .ok (.bipush (-9), 2) := by decide +kernel
theorem dX7_readWell_39 : decode cX7_readWell 39 = .ok (.if_icmp .eq 11, 3) := by decide +kernel
theorem dX7_readWell_42 : decode cX7_readWell 42 = .ok (.aload_n 0, 1) := by decide +kernel
theorem dX7_readWell_43 : decode cX7_readWell 43 = .ok (.iload_n 1, 1) := by decide +kernel
theorem dX7_readWell_44 : decode cX7_readWell 44 = .ok (.invokevirtual 124, 3) := by decide +kernel
theorem dX7_readWell_47 : decode cX7_readWell 47 = .ok (.ifCond .ne 5, 3) := by decide +kernel
theorem dX7_readWell_50 : decode cX7_readWell 50 = .ok (.iconst 0, 1) := by decide +kernel
theorem dX7_readWell_51 : decode cX7_readWell 51 = .ok (.ireturn, 1) := by decide +kernel
theorem dX7_readWell_52 : decode cX7_readWell 52 = .ok (.aload_n 0, 1) := by decide +kernel
theorem dX7_readWell_53 : decode cX7_readWell 53 = .ok (.getfield 110, 3) := by decide +kernel
theorem dX7_readWell_56 : decode cX7_readWell 56 = .ok (.ifCond .eq 19, 3) := by decide +kernel
theorem dX7_readWell_59 : decode cX7_readWell 59 = .ok (.aload_n 0, 1) := by decide +kernel
theorem dX7_readWell_60 : decode cX7_readWell 60 = .ok (.getfield 110, 3) := by decide +kernel
theorem dX7_readWell_63 : decode cX7_readWell 63 = .ok (.iconst 5, 1) := by decide +kernel
theorem dX7_readWell_64 : decode cX7_readWell 64 = .ok (.if_icmp .ge 31, 3) := by decide +kernel
theorem dX7_readWell_67 : decode cX7_readWell 67 = .ok (.aload_n 0, 1) := by decide +kernel
theorem dX7_readWell_68 : decode cX7_readWell 68 = .ok (.getfield 74, 3) := by decide +kernel
theorem dX7_readWell_71 : decode cX7_readWell 71 = .ok (.iload_n 1, 1) := by decide +kernel
theorem dX7_readWell_72 : decode cX7_readWell 72 = .ok (.if_icmp .ge 23, 3) := by decide +kernel
theorem dX7_readWell_75 : decode cX7_readWell 75 = .ok (.aload_n 0, 1) := by decide +kernel
theorem dX7_readWell_76 : decode cX7_readWell 76 = .ok (.iload_n 1, 1) := by decide +kernel
theorem dX7_readWell_77 : decode cX7_readWell 77 = .ok (.bipush 59, 2) := by decide +kernel
theorem dX7_readWell_79 : decode cX7_readWell 79 = .ok (.invokevirtual 116, 3) := by decide +kernel
theorem dX7_readWell_82 : decode cX7_readWell 82 = .ok (.ifCond .eq 11, 3) := by decide +kernel
theorem dX7_readWell_85 : decode cX7_readWell 85 = .ok (.aload_n 0, 1) := by decide +kernel
theorem dX7_readWell_86 : decode cX7_readWell 86 = .ok (.iload_n 1, 1) := by decide +kernel
theorem dX7_readWell_87 : decode cX7_readWell 87 = .ok (.invokevirtual 127, 3) := by decide +kernel
theorem dX7_readWell_90 : decode cX7_readWell 90 = .ok (.ifCond .ne (-38), 3) := by decide +kernel
theorem dX7_readWell_93 : decode cX7_readWell 93 = .ok (.iconst 0, 1) := by decide +kernel
theorem dX7_readWell_94 : decode cX7_readWell 94 = .ok (.ireturn, 1) := by decide +kernel
theorem dX7_readWell_95 : decode cX7_readWell 95 = .ok (.aload_n 0, 1) := by decide +kernel
theorem dX7_readWell_96 : decode cX7_readWell 96 = .ok (.getfield 74, 3) := by decide +kernel
theorem dX7_readWell_99 : decode cX7_readWell 99 = .ok (.iload_n 1, 1) := by decide +kernel
theorem dX7_readWell_100 : decode cX7_readWell 100 = .ok (.if_icmp .ne 7, 3) := by decide +kernel
theorem dX7_readWell_103 : decode cX7_readWell 103 = .ok (.iconst 1, 1) := by decide +kernel
theorem dX7_readWell_104 : decode cX7_readWell 104 = .ok (.goto 4, 3) := by decide +kernel
theorem dX7_readWell_107 : decode cX7_readWell 107 = .ok (.iconst 0, 1) := by decide +kernel
theorem dX7_readWell_108 : decode cX7_readWell 108 = .ok (.ireturn, 1) := by decide +kernel
set_option maxRecDepth 20000 in
theorem ggX7_readTheRota_X7_digit : GoodIn wsX7_readTheRota wsX7_digit := goodIn_r _ [7, 8, 9, 10, 11, 6, 12, 13, 14, 15, 16, 17, 18, 19, 20, 21, 22, 23, 24, 25, 26, 27, 28, 29, 30, 31, 32, 33, 34, 35, 36, 37, 38, 39, 40, 41, 42] (by decide +kernel) (by decide +kernel)
set_option maxRecDepth 20000 in
theorem gX7_readTheRota_X7_digit : GoodIn wsX7_readTheRota (wsV RX7 120 RX7 yX7_digit wsX7_digit) := goodIn_app (goodIn_of _ (by decide +kernel)) ggX7_readTheRota_X7_digit
theorem dX7_readTheRota_0 : decode cX7_readTheRota 0 = .ok (.aload_n 0, 1) := by decide +kernel
theorem dX7_readTheRota_1 : decode cX7_readTheRota 1 = .ok (.getfield 104, 3) := by decide +kernel
theorem dX7_readTheRota_4 : decode cX7_readTheRota 4 = .ok (.bipush 6, 2) := by decide +kernel
theorem dX7_readTheRota_6 : decode cX7_readTheRota 6 = .ok (.if_icmp .ge 52, 3) := by decide +kernel
theorem dX7_readTheRota_9 : decode cX7_readTheRota 9 = .ok (.aload_n 0, 1) := by decide +kernel
theorem dX7_readTheRota_10 : decode cX7_readTheRota 10 = .ok (.iload_n 1, 1) := by decide +kernel
theorem dX7_readTheRota_11 : decode cX7_readTheRota 11 = .ok (.iconst 4, 1) := by decide +kernel
theorem dX7_readTheRota_12 : decode cX7_readTheRota 12 = .ok (.invokevirtual 120, 3) := by decide +kernel
theorem dX7_readTheRota_15 : decode cX7_readTheRota 15 = .ok (.istore_n 2, 1) := by decide +kernel
theorem dX7_readTheRota_16 : decode cX7_readTheRota 16 = .ok (.iload_n 2, 1) := by decide +kernel
theorem dX7_readTheRota_17 : decode cX7_readTheRota 17 = .ok (.bipush (-9), 2) := by decide +kernel
theorem dX7_readTheRota_19 : decode cX7_readTheRota 19 = .ok (.if_icmp .ne 16, 3) := by decide +kernel
theorem dX7_readTheRota_22 : decode cX7_readTheRota 22 = .ok (.aload_n 0, 1) := by decide +kernel
theorem dX7_readTheRota_23 : decode cX7_readTheRota 23 = .ok (.getfield 104, 3) := by decide +kernel
theorem dX7_readTheRota_26 : decode cX7_readTheRota 26 = .ok (.ifCond .le 7, 3) := by decide +kernel
theorem dX7_readTheRota_29 : decode cX7_readTheRota 29 = .ok (.iconst 1, 1) := by decide +kernel
theorem dX7_readTheRota_30 : decode cX7_readTheRota 30 = .ok (.goto 4, 3) := by decide +kernel
theorem dX7_readTheRota_33 : decode cX7_readTheRota 33 = .ok (.iconst 0, 1) := by decide +kernel
theorem dX7_readTheRota_34 : decode cX7_readTheRota 34 = .ok (.ireturn, 1) := by decide +kernel
theorem dX7_readTheRota_35 : decode cX7_readTheRota 35 = .ok (.aload_n 0, 1) := by decide +kernel
theorem dX7_readTheRota_36 : decode cX7_readTheRota 36 = .ok (.getfield 37, 3) := by decide +kernel
theorem dX7_readTheRota_39 : decode cX7_readTheRota 39 = .ok (.aload_n 0, 1) := by decide +kernel
theorem dX7_readTheRota_40 : decode cX7_readTheRota 40 = .ok (.getfield 104, 3) := by decide +kernel
theorem dX7_readTheRota_43 : decode cX7_readTheRota 43 = .ok (.iload_n 2, 1) := by decide +kernel
theorem dX7_readTheRota_44 : decode cX7_readTheRota 44 = .ok (.iastore, 1) := by decide +kernel
theorem dX7_readTheRota_45 : decode cX7_readTheRota 45 = .ok (.aload_n 0, 1) := by decide +kernel
theorem dX7_readTheRota_46 : decode cX7_readTheRota 46 = .ok (.dup, 1) := by decide +kernel
theorem dX7_readTheRota_47 : decode cX7_readTheRota 47 = .ok (.getfield 104, 3) := by decide +kernel
theorem dX7_readTheRota_50 : decode cX7_readTheRota 50 = .ok (.iconst 1, 1) := by decide +kernel
theorem dX7_readTheRota_51 : decode cX7_readTheRota 51 = .ok (.iadd, 1) := by decide +kernel
theorem dX7_readTheRota_52 : decode cX7_readTheRota 52 = .ok (.putfield 104, 3) := by decide +kernel
theorem dX7_readTheRota_55 : decode cX7_readTheRota 55 = .ok (.goto (-55), 3) := by decide +kernel
theorem dX7_readTheRota_58 : decode cX7_readTheRota 58 = .ok (.iconst 1, 1) := by decide +kernel
theorem dX7_readTheRota_59 : decode cX7_readTheRota 59 = .ok (.ireturn, 1) := by decide +kernel
set_option maxRecDepth 20000 in
theorem ggX7_readThing_X7_digit : GoodIn wsX7_readThing wsX7_digit := goodIn_r _ [9, 2, 3, 10, 11, 8, 12, 13, 14, 15, 16, 17, 18, 19, 20, 21, 22, 23, 24, 25, 26, 27, 28, 29, 30, 31, 32, 33, 34, 35, 36, 37, 38, 39, 40, 41, 42] (by decide +kernel) (by decide +kernel)
set_option maxRecDepth 20000 in
theorem gX7_readThing_X7_digit : GoodIn wsX7_readThing (wsV RX7 120 RX7 yX7_digit wsX7_digit) := goodIn_app (goodIn_of _ (by decide +kernel)) ggX7_readThing_X7_digit
theorem dX7_readThing_0 : decode cX7_readThing 0 = .ok (.iconst 5, 1) := by decide +kernel
theorem dX7_readThing_1 : decode cX7_readThing 1 = .ok (.aload_n 0, 1) := by decide +kernel
theorem dX7_readThing_2 : decode cX7_readThing 2 = .ok (.getfield 110, 3) := by decide +kernel
theorem dX7_readThing_5 : decode cX7_readThing 5 = .ok (.imul, 1) := by decide +kernel
theorem dX7_readThing_6 : decode cX7_readThing 6 = .ok (.istore_n 2, 1) := by decide +kernel
theorem dX7_readThing_7 : decode cX7_readThing 7 = .ok (.aload_n 0, 1) := by decide +kernel
theorem dX7_readThing_8 : decode cX7_readThing 8 = .ok (.getfield 74, 3) := by decide +kernel
theorem dX7_readThing_11 : decode cX7_readThing 11 = .ok (.iload_n 1, 1) := by decide +kernel
theorem dX7_readThing_12 : decode cX7_readThing 12 = .ok (.if_icmp .ge 15, 3) := by decide +kernel
theorem dX7_readThing_15 : decode cX7_readThing 15 = .ok (.aload_n 0, 1) := by decide +kernel
theorem dX7_readThing_16 : decode cX7_readThing 16 = .ok (.getfield 16, 3) := by decide +kernel
theorem dX7_readThing_19 : decode cX7_readThing 19 = .ok (.aload_n 0, 1) := by decide +kernel
theorem dX7_readThing_20 : decode cX7_readThing 20 = .ok (.getfield 74, 3) := by decide +kernel
theorem dX7_readThing_23 : decode cX7_readThing 23 = .ok (.iaload, 1) := by decide +kernel
theorem dX7_readThing_24 : decode cX7_readThing 24 = .ok (.goto 4, 3) := by decide +kernel
theorem dX7_readThing_27 : decode cX7_readThing 27 = .ok (.iconst 0, 1) := by decide +kernel
theorem dX7_readThing_28 : decode cX7_readThing 28 = .ok (.istore_n 3, 1) := by decide +kernel
theorem dX7_readThing_29 : decode cX7_readThing 29 = .ok (.aload_n 0, 1) := by decide +kernel
theorem dX7_readThing_30 : decode cX7_readThing 30 = .ok (.getfield 40, 3) := by decide +kernel
theorem dX7_readThing_33 : decode cX7_readThing 33 = .ok (.iload_n 2, 1) := by decide +kernel
theorem dX7_readThing_34 : decode cX7_readThing 34 = .ok (.iload_n 3, 1) := by decide +kernel
theorem dX7_readThing_35 : decode cX7_readThing 35 = .ok (.bipush 116, 2) := by decide +kernel
theorem dX7_readThing_37 : decode cX7_readThing 37 = .ok (.if_icmp .ne 7, 3) := by decide +kernel
theorem dX7_readThing_40 : decode cX7_readThing 40 = .ok (.iconst 0, 1) := by decide +kernel
theorem dX7_readThing_41 : decode cX7_readThing 41 = .ok (.goto 25, 3) := by decide +kernel
theorem dX7_readThing_44 : decode cX7_readThing 44 = .ok (.iload_n 3, 1) := by decide +kernel
theorem dX7_readThing_45 : decode cX7_readThing 45 = .ok (.bipush 108, 2) := by decide +kernel
theorem dX7_readThing_47 : decode cX7_readThing 47 = .ok (.if_icmp .ne 7, 3) := by decide +kernel
theorem dX7_readThing_50 : decode cX7_readThing 50 = .ok (.iconst 1, 1) := by decide +kernel
theorem dX7_readThing_51 : decode cX7_readThing 51 = .ok (.goto 15, 3) := by decide +kernel
theorem dX7_readThing_54 : decode cX7_readThing 54 = .ok (.iload_n 3, 1) := by decide +kernel
theorem dX7_readThing_55 : decode cX7_readThing 55 = .ok (.bipush 114, 2) := by decide +kernel
theorem dX7_readThing_57 : decode cX7_readThing 57 = .ok (.if_icmp .ne 7, 3) := by decide +kernel
theorem dX7_readThing_60 : decode cX7_readThing 60 = .ok (.iconst 2, 1) := by decide +kernel
theorem dX7_readThing_61 : decode cX7_readThing 61 = .ok (.goto 5, 3) := by decide +kernel
theorem dX7_readThing_64 : decode cX7_readThing 64 = .ok (.bipush (-9), 2) := by decide +kernel
theorem dX7_readThing_66 : decode cX7_readThing 66 = .ok (.iastore, 1) := by decide +kernel
theorem dX7_readThing_67 : decode cX7_readThing 67 = .ok (.aload_n 0, 1) := by decide +kernel
theorem dX7_readThing_68 : decode cX7_readThing 68 = .ok (.getfield 40, 3) := by decide +kernel
theorem dX7_readThing_71 : decode cX7_readThing 71 = .ok (.iload_n 2, 1) := by decide +kernel
theorem dX7_readThing_72 : decode cX7_readThing 72 = .ok (.iaload, 1) := by decide +kernel
theorem dX7_readThing_73 : decode cX7_readThing 73 = .ok (.bipush (-9), 2) := by decide +kernel
theorem dX7_readThing_75 : decode cX7_readThing 75 = .ok (.if_icmp .ne 5, 3) := by decide +kernel
theorem dX7_readThing_78 : decode cX7_readThing 78 = .ok (.iconst 0, 1) := by decide +kernel
theorem dX7_readThing_79 : decode cX7_readThing 79 = .ok (.ireturn, 1) := by decide +kernel
theorem dX7_readThing_80 : decode cX7_readThing 80 = .ok (.aload_n 0, 1) := by decide +kernel
theorem dX7_readThing_81 : decode cX7_readThing 81 = .ok (.dup, 1) := by decide +kernel
theorem dX7_readThing_82 : decode cX7_readThing 82 = .ok (.getfield 74, 3) := by decide +kernel
theorem dX7_readThing_85 : decode cX7_readThing 85 = .ok (.iconst 1, 1) := by decide +kernel
theorem dX7_readThing_86 : decode cX7_readThing 86 = .ok (.iadd, 1) := by decide +kernel
theorem dX7_readThing_87 : decode cX7_readThing 87 = .ok (.putfield 74, 3) := by decide +kernel
theorem dX7_readThing_90 : decode cX7_readThing 90 = .ok (.iconst 1, 1) := by decide +kernel
theorem dX7_readThing_91 : decode cX7_readThing 91 = .ok (.istore 4, 2) := by decide +kernel
theorem dX7_readThing_93 : decode cX7_readThing 93 = .ok (.iload 4, 2) := by decide +kernel
theorem dX7_readThing_95 : decode cX7_readThing 95 = .ok (.iconst 5, 1) := by decide +kernel
theorem dX7_readThing_96 : decode cX7_readThing 96 = .ok (.if_icmp .ge 57, 3) := by decide +kernel
theorem dX7_readThing_99 : decode cX7_readThing 99 = .ok (.aload_n 0, 1) := by decide +kernel
theorem dX7_readThing_100 : decode cX7_readThing 100 = .ok (.getfield 40, 3) := by decide +kernel
theorem dX7_readThing_103 : decode cX7_readThing 103 = .ok (.iload_n 2, 1) := by decide +kernel
theorem dX7_readThing_104 : decode cX7_readThing 104 = .ok (.iload 4, 2) := by decide +kernel
theorem dX7_readThing_106 : decode cX7_readThing 106 = .ok (.iadd, 1) := by decide +kernel
theorem dX7_readThing_107 : decode cX7_readThing 107 = .ok (.aload_n 0, 1) := by decide +kernel
theorem dX7_readThing_108 : decode cX7_readThing 108 = .ok (.iload_n 1, 1) := by decide +kernel
theorem dX7_readThing_109 : decode cX7_readThing 109 = .ok (.iload 4, 2) := by decide +kernel
theorem dX7_readThing_111 : decode cX7_readThing 111 = .ok (.iconst 1, 1) := by decide +kernel
theorem dX7_readThing_112 : decode cX7_readThing 112 = .ok (.if_icmp .eq 9, 3) := by decide +kernel
theorem dX7_readThing_115 : decode cX7_readThing 115 = .ok (.iload 4, 2) := by decide +kernel
theorem dX7_readThing_117 : decode cX7_readThing 117 = .ok (.iconst 4, 1) := by decide +kernel
theorem dX7_readThing_118 : decode cX7_readThing 118 = .ok (.if_icmp .ne 8, 3) := by decide +kernel
theorem dX7_readThing_121 : decode cX7_readThing 121 = .ok (.bipush 9, 2) := by decide +kernel
theorem dX7_readThing_123 : decode cX7_readThing 123 = .ok (.goto 4, 3) := by decide +kernel
theorem dX7_readThing_126 : decode cX7_readThing 126 = .ok (.iconst 4, 1) := by decide +kernel
theorem dX7_readThing_127 : decode cX7_readThing 127 = .ok (.invokevirtual 120, 3) := by decide +kernel
theorem dX7_readThing_130 : decode cX7_readThing 130 = .ok (.iastore, 1) := by decide +kernel
theorem dX7_readThing_131 : decode cX7_readThing 131 = .ok (.aload_n 0, 1) := by decide +kernel
theorem dX7_readThing_132 : decode cX7_readThing 132 = .ok (.getfield 40, 3) := by decide +kernel
theorem dX7_readThing_135 : decode cX7_readThing 135 = .ok (.iload_n 2, 1) := by decide +kernel
theorem dX7_readThing_136 : decode cX7_readThing 136 = .ok (.iload 4, 2) := by decide +kernel
theorem dX7_readThing_138 : decode cX7_readThing 138 = .ok (.iadd, 1) := by decide +kernel
theorem dX7_readThing_139 : decode cX7_readThing 139 = .ok (.iaload, 1) := by decide +kernel
theorem dX7_readThing_140 : decode cX7_readThing 140 = .ok (.bipush (-9), 2) := by decide +kernel
theorem dX7_readThing_142 : decode cX7_readThing 142 = .ok (.if_icmp .ne 5, 3) := by decide +kernel
theorem dX7_readThing_145 : decode cX7_readThing 145 = .ok (.iconst 0, 1) := by decide +kernel
theorem dX7_readThing_146 : decode cX7_readThing 146 = .ok (.ireturn, 1) := by decide +kernel
theorem dX7_readThing_147 : decode cX7_readThing 147 = .ok (.iinc 4 1, 3) := by decide +kernel
theorem dX7_readThing_150 : decode cX7_readThing 150 = .ok (.goto (-57), 3) := by decide +kernel
theorem dX7_readThing_153 : decode cX7_readThing 153 = .ok (.aload_n 0, 1) := by decide +kernel
theorem dX7_readThing_154 : decode cX7_readThing 154 = .ok (.dup, 1) := by decide +kernel
theorem dX7_readThing_155 : decode cX7_readThing 155 = .ok (.getfield 110, 3) := by decide +kernel
theorem dX7_readThing_158 : decode cX7_readThing 158 = .ok (.iconst 1, 1) := by decide +kernel
theorem dX7_readThing_159 : decode cX7_readThing 159 = .ok (.iadd, 1) := by decide +kernel
theorem dX7_readThing_160 : decode cX7_readThing 160 = .ok (.putfield 110, 3) := by decide +kernel
theorem dX7_readThing_163 : decode cX7_readThing 163 = .ok (.iconst 1, 1) := by decide +kernel
theorem dX7_readThing_164 : decode cX7_readThing 164 = .ok (.ireturn, 1) := by decide +kernel
theorem dX7_delay_0 : decode cX7_delay 0 = .ok (.aload_n 0, 1) := by decide +kernel
theorem dX7_delay_1 : decode cX7_delay 1 = .ok (.getfield 101, 3) := by decide +kernel
theorem dX7_delay_4 : decode cX7_delay 4 = .ok (.aload_n 0, 1) := by decide +kernel
theorem dX7_delay_5 : decode cX7_delay 5 = .ok (.getfield 25, 3) := by decide +kernel
theorem dX7_delay_8 : decode cX7_delay 8 = .ok (.iload_n 1, 1) := by decide +kernel
theorem dX7_delay_9 : decode cX7_delay 9 = .ok (.iaload, 1) := by decide +kernel
theorem dX7_delay_10 : decode cX7_delay 10 = .ok (.iadd, 1) := by decide +kernel
theorem dX7_delay_11 : decode cX7_delay 11 = .ok (.istore_n 2, 1) := by decide +kernel
theorem dX7_delay_12 : decode cX7_delay 12 = .ok (.aload_n 0, 1) := by decide +kernel
theorem dX7_delay_13 : decode cX7_delay 13 = .ok (.getfield 22, 3) := by decide +kernel
theorem dX7_delay_16 : decode cX7_delay 16 = .ok (.iload_n 1, 1) := by decide +kernel
theorem dX7_delay_17 : decode cX7_delay 17 = .ok (.iaload, 1) := by decide +kernel
theorem dX7_delay_18 : decode cX7_delay 18 = .ok (.iconst 1, 1) := by decide +kernel
theorem dX7_delay_19 : decode cX7_delay 19 = .ok (.if_icmp .ne 15, 3) := by decide +kernel
theorem dX7_delay_22 : decode cX7_delay 22 = .ok (.iload_n 2, 1) := by decide +kernel
theorem dX7_delay_23 : decode cX7_delay 23 = .ok (.ifCond .le 9, 3) := by decide +kernel
theorem dX7_delay_26 : decode cX7_delay 26 = .ok (.iload_n 2, 1) := by decide +kernel
theorem dX7_delay_27 : decode cX7_delay 27 = .ok (.iconst 1, 1) := by decide +kernel
theorem dX7_delay_28 : decode cX7_delay 28 = .ok (.isub, 1) := by decide +kernel
theorem dX7_delay_29 : decode cX7_delay 29 = .ok (.goto 4, 3) := by decide +kernel
theorem dX7_delay_32 : decode cX7_delay 32 = .ok (.iconst 0, 1) := by decide +kernel
theorem dX7_delay_33 : decode cX7_delay 33 = .ok (.ireturn, 1) := by decide +kernel
theorem dX7_delay_34 : decode cX7_delay 34 = .ok (.aload_n 0, 1) := by decide +kernel
theorem dX7_delay_35 : decode cX7_delay 35 = .ok (.getfield 22, 3) := by decide +kernel
theorem dX7_delay_38 : decode cX7_delay 38 = .ok (.iload_n 1, 1) := by decide +kernel
theorem dX7_delay_39 : decode cX7_delay 39 = .ok (.iaload, 1) := by decide +kernel
theorem dX7_delay_40 : decode cX7_delay 40 = .ok (.ifCond .ne 7, 3) := by decide +kernel
theorem dX7_delay_43 : decode cX7_delay 43 = .ok (.iload_n 2, 1) := by decide +kernel
theorem dX7_delay_44 : decode cX7_delay 44 = .ok (.goto 6, 3) := by decide +kernel
theorem dX7_delay_47 : decode cX7_delay 47 = .ok (.iconst 2, 1) := by decide +kernel
theorem dX7_delay_48 : decode cX7_delay 48 = .ok (.iload_n 2, 1) := by decide +kernel
theorem dX7_delay_49 : decode cX7_delay 49 = .ok (.imul, 1) := by decide +kernel
theorem dX7_delay_50 : decode cX7_delay 50 = .ok (.ireturn, 1) := by decide +kernel
set_option maxRecDepth 20000 in
theorem ggX7_ofThing_X7_isThing : GoodIn wsX7_ofThing wsX7_isThing := goodIn_r _ [10, 11, 17, 18, 19, 20, 21, 22, 23, 24, 25, 26, 27, 28, 29, 30, 31, 32, 33, 34, 35, 36, 37, 38, 39, 40, 41, 42, 43, 44, 45, 46] (by decide +kernel) (by decide +kernel)
set_option maxRecDepth 20000 in
theorem gX7_ofThing_X7_isThing : GoodIn wsX7_ofThing (wsV RX7 129 RX7 yX7_isThing wsX7_isThing) := goodIn_app (goodIn_of _ (by decide +kernel)) ggX7_ofThing_X7_isThing
set_option maxRecDepth 20000 in
theorem ggX7_ofThing_X7_delay : GoodIn wsX7_ofThing wsX7_delay := goodIn_r _ [15, 16, 2, 1, 17, 18, 19, 20, 21, 22, 23, 24, 25, 26, 27, 28, 29, 30, 31, 32, 33, 34, 35, 36, 37, 38, 39, 40, 41, 42, 43, 44, 45, 46] (by decide +kernel) (by decide +kernel)
set_option maxRecDepth 20000 in
theorem gX7_ofThing_X7_delay : GoodIn wsX7_ofThing (wsV RX7 132 RX7 yX7_delay wsX7_delay) := goodIn_app (goodIn_of _ (by decide +kernel)) ggX7_ofThing_X7_delay
theorem dX7_ofThing_0 : decode cX7_ofThing 0 = .ok (.aload_n 0, 1) := by decide +kernel
theorem dX7_ofThing_1 : decode cX7_ofThing 1 = .ok (.iload_n 1, 1) := by decide +kernel
theorem dX7_ofThing_2 : decode cX7_ofThing 2 = .ok (.invokevirtual 129, 3) := by decide +kernel
theorem dX7_ofThing_5 : decode cX7_ofThing 5 = .ok (.ifCond .ne 5, 3) := by decide +kernel
theorem dX7_ofThing_8 : decode cX7_ofThing 8 = .ok (.iconst (-1), 1) := by decide +kernel
theorem dX7_ofThing_9 : decode cX7_ofThing 9 = .ok (.ireturn, 1) := by decide +kernel
theorem dX7_ofThing_10 : decode cX7_ofThing 10 = .ok (.iload_n 2, 1) := by decide +kernel
theorem dX7_ofThing_11 : decode cX7_ofThing 11 = .ok (.tableswitch 78 0 5 #[37, 44, 51, 58, 65, 72], 37) := by decide +kernel
theorem dX7_ofThing_48 : decode cX7_ofThing 48 = .ok (.aload_n 0, 1) := by decide +kernel
theorem dX7_ofThing_49 : decode cX7_ofThing 49 = .ok (.getfield 22, 3) := by decide +kernel
theorem dX7_ofThing_52 : decode cX7_ofThing 52 = .ok (.iload_n 1, 1) := by decide +kernel
theorem dX7_ofThing_53 : decode cX7_ofThing 53 = .ok (.iaload, 1) := by decide +kernel
theorem dX7_ofThing_54 : decode cX7_ofThing 54 = .ok (.ireturn, 1) := by decide +kernel
theorem dX7_ofThing_55 : decode cX7_ofThing 55 = .ok (.aload_n 0, 1) := by decide +kernel
theorem dX7_ofThing_56 : decode cX7_ofThing 56 = .ok (.getfield 25, 3) := by decide +kernel
theorem dX7_ofThing_59 : decode cX7_ofThing 59 = .ok (.iload_n 1, 1) := by decide +kernel
theorem dX7_ofThing_60 : decode cX7_ofThing 60 = .ok (.iaload, 1) := by decide +kernel
theorem dX7_ofThing_61 : decode cX7_ofThing 61 = .ok (.ireturn, 1) := by decide +kernel
theorem dX7_ofThing_62 : decode cX7_ofThing 62 = .ok (.aload_n 0, 1) := by decide +kernel
theorem dX7_ofThing_63 : decode cX7_ofThing 63 = .ok (.getfield 28, 3) := by decide +kernel
theorem dX7_ofThing_66 : decode cX7_ofThing 66 = .ok (.iload_n 1, 1) := by decide +kernel
theorem dX7_ofThing_67 : decode cX7_ofThing 67 = .ok (.iaload, 1) := by decide +kernel
theorem dX7_ofThing_68 : decode cX7_ofThing 68 = .ok (.ireturn, 1) := by decide +kernel
theorem dX7_ofThing_69 : decode cX7_ofThing 69 = .ok (.aload_n 0, 1) := by decide +kernel
theorem dX7_ofThing_70 : decode cX7_ofThing 70 = .ok (.getfield 31, 3) := by decide +kernel
theorem dX7_ofThing_73 : decode cX7_ofThing 73 = .ok (.iload_n 1, 1) := by decide +kernel
theorem dX7_ofThing_74 : decode cX7_ofThing 74 = .ok (.iaload, 1) := by decide +kernel
theorem dX7_ofThing_75 : decode cX7_ofThing 75 = .ok (.ireturn, 1) := by decide +kernel
theorem dX7_ofThing_76 : decode cX7_ofThing 76 = .ok (.aload_n 0, 1) := by decide +kernel
theorem dX7_ofThing_77 : decode cX7_ofThing 77 = .ok (.getfield 34, 3) := by decide +kernel
theorem dX7_ofThing_80 : decode cX7_ofThing 80 = .ok (.iload_n 1, 1) := by decide +kernel
theorem dX7_ofThing_81 : decode cX7_ofThing 81 = .ok (.iaload, 1) := by decide +kernel
theorem dX7_ofThing_82 : decode cX7_ofThing 82 = .ok (.ireturn, 1) := by decide +kernel
theorem dX7_ofThing_83 : decode cX7_ofThing 83 = .ok (.aload_n 0, 1) := by decide +kernel
theorem dX7_ofThing_84 : decode cX7_ofThing 84 = .ok (.iload_n 1, 1) := by decide +kernel
theorem dX7_ofThing_85 : decode cX7_ofThing 85 = .ok (.invokevirtual 132, 3) := by decide +kernel
theorem dX7_ofThing_88 : decode cX7_ofThing 88 = .ok (.ireturn, 1) := by decide +kernel
theorem dX7_ofThing_89 : decode cX7_ofThing 89 = .ok (.bipush (-2), 2) := by decide +kernel
theorem dX7_ofThing_91 : decode cX7_ofThing 91 = .ok (.ireturn, 1) := by decide +kernel
set_option maxRecDepth 20000 in
theorem ggX7_draws_X7_within : GoodIn wsX7_draws wsX7_within := goodIn_r _ [6] (by decide +kernel) (by decide +kernel)
set_option maxRecDepth 20000 in
theorem gX7_draws_X7_within : GoodIn wsX7_draws (va_wsS RX7 67 yX7_within wsX7_within) := goodIn_app (goodIn_of _ (by decide +kernel)) ggX7_draws_X7_within
theorem dX7_draws_0 : decode cX7_draws 0 = .ok (.aload_n 0, 1) := by decide +kernel
theorem dX7_draws_1 : decode cX7_draws 1 = .ok (.getfield 107, 3) := by decide +kernel
theorem dX7_draws_4 : decode cX7_draws 4 = .ok (.ifCond .ne 6, 3) := by decide +kernel
theorem dX7_draws_7 : decode cX7_draws 7 = .ok (.bipush (-3), 2) := by decide +kernel
theorem dX7_draws_9 : decode cX7_draws 9 = .ok (.ireturn, 1) := by decide +kernel
theorem dX7_draws_10 : decode cX7_draws 10 = .ok (.iload_n 1, 1) := by decide +kernel
theorem dX7_draws_11 : decode cX7_draws 11 = .ok (.iconst 0, 1) := by decide +kernel
theorem dX7_draws_12 : decode cX7_draws 12 = .ok (.bipush 99, 2) := by decide +kernel
theorem dX7_draws_14 : decode cX7_draws 14 = .ok (.invokestatic 67, 3) := by decide +kernel
theorem dX7_draws_17 : decode cX7_draws 17 = .ok (.ifCond .eq 17, 3) := by decide +kernel
theorem dX7_draws_20 : decode cX7_draws 20 = .ok (.aload_n 0, 1) := by decide +kernel
theorem dX7_draws_21 : decode cX7_draws 21 = .ok (.getfield 19, 3) := by decide +kernel
theorem dX7_draws_24 : decode cX7_draws 24 = .ok (.iload_n 1, 1) := by decide +kernel
theorem dX7_draws_25 : decode cX7_draws 25 = .ok (.aload_n 0, 1) := by decide +kernel
theorem dX7_draws_26 : decode cX7_draws 26 = .ok (.getfield 107, 3) := by decide +kernel
theorem dX7_draws_29 : decode cX7_draws 29 = .ok (.irem, 1) := by decide +kernel
theorem dX7_draws_30 : decode cX7_draws 30 = .ok (.iaload, 1) := by decide +kernel
theorem dX7_draws_31 : decode cX7_draws 31 = .ok (.goto 5, 3) := by decide +kernel
theorem dX7_draws_34 : decode cX7_draws 34 = .ok (.bipush (-2), 2) := by decide +kernel
theorem dX7_draws_36 : decode cX7_draws 36 = .ok (.ireturn, 1) := by decide +kernel
set_option maxRecDepth 20000 in
theorem ggX7_weigh_X7_isThing : GoodIn wsX7_weigh wsX7_isThing := goodIn_r _ [6, 7, 11, 12, 13, 14, 15, 16, 17, 18, 19, 20, 21, 22, 23, 24, 25, 26, 27, 28, 29, 30, 31, 32, 33, 34, 35, 36, 37, 38, 39, 40] (by decide +kernel) (by decide +kernel)
set_option maxRecDepth 20000 in
theorem gX7_weigh_X7_isThing : GoodIn wsX7_weigh (wsV RX7 129 RX7 yX7_isThing wsX7_isThing) := goodIn_app (goodIn_of _ (by decide +kernel)) ggX7_weigh_X7_isThing
set_option maxRecDepth 20000 in
theorem ggX7_weigh_X7_within : GoodIn wsX7_weigh wsX7_within := goodIn_r _ [10] (by decide +kernel) (by decide +kernel)
set_option maxRecDepth 20000 in
theorem gX7_weigh_X7_within : GoodIn wsX7_weigh (va_wsS RX7 67 yX7_within wsX7_within) := goodIn_app (goodIn_of _ (by decide +kernel)) ggX7_weigh_X7_within
theorem dX7_weigh_0 : decode cX7_weigh 0 = .ok (.aload_n 0, 1) := by decide +kernel
theorem dX7_weigh_1 : decode cX7_weigh 1 = .ok (.iload_n 1, 1) := by decide +kernel
theorem dX7_weigh_2 : decode cX7_weigh 2 = .ok (.invokevirtual 129, 3) := by decide +kernel
theorem dX7_weigh_5 : decode cX7_weigh 5 = .ok (.ifCond .ne 5, 3) := by decide +kernel
theorem dX7_weigh_8 : decode cX7_weigh 8 = .ok (.iconst (-1), 1) := by decide +kernel
theorem dX7_weigh_9 : decode cX7_weigh 9 = .ok (.ireturn, 1) := by decide +kernel
theorem dX7_weigh_10 : decode cX7_weigh 10 = .ok (.iload_n 2, 1) := by decide +kernel
theorem dX7_weigh_11 : decode cX7_weigh 11 = .ok (.iconst 0, 1) := by decide +kernel
theorem dX7_weigh_12 : decode cX7_weigh 12 = .ok (.bipush 9, 2) := by decide +kernel
theorem dX7_weigh_14 : decode cX7_weigh 14 = .ok (.invokestatic 67, 3) := by decide +kernel
theorem dX7_weigh_17 : decode cX7_weigh 17 = .ok (.ifCond .ne 6, 3) := by decide +kernel
theorem dX7_weigh_20 : decode cX7_weigh 20 = .ok (.bipush (-2), 2) := by decide +kernel
theorem dX7_weigh_22 : decode cX7_weigh 22 = .ok (.ireturn, 1) := by decide +kernel
theorem dX7_weigh_23 : decode cX7_weigh 23 = .ok (.aload_n 0, 1) := by decide +kernel
theorem dX7_weigh_24 : decode cX7_weigh 24 = .ok (.getfield 25, 3) := by decide +kernel
theorem dX7_weigh_27 : decode cX7_weigh 27 = .ok (.iload_n 1, 1) := by decide +kernel
theorem dX7_weigh_28 : decode cX7_weigh 28 = .ok (.iaload, 1) := by decide +kernel
theorem dX7_weigh_29 : decode cX7_weigh 29 = .ok (.istore_n 3, 1) := by decide +kernel
theorem dX7_weigh_30 : decode cX7_weigh 30 = .ok (.aload_n 0, 1) := by decide +kernel
theorem dX7_weigh_31 : decode cX7_weigh 31 = .ok (.getfield 25, 3) := by decide +kernel
theorem dX7_weigh_34 : decode cX7_weigh 34 = .ok (.iload_n 1, 1) := by decide +kernel
theorem dX7_weigh_35 : decode cX7_weigh 35 = .ok (.iload_n 2, 1) := by decide +kernel
theorem dX7_weigh_36 : decode cX7_weigh 36 = .ok (.iastore, 1) := by decide +kernel
theorem dX7_weigh_37 : decode cX7_weigh 37 = .ok (.iload_n 3, 1) := by decide +kernel
theorem dX7_weigh_38 : decode cX7_weigh 38 = .ok (.ireturn, 1) := by decide +kernel
set_option maxRecDepth 20000 in
theorem ggX7_dig_X7_within : GoodIn wsX7_dig wsX7_within := goodIn_r _ [6] (by decide +kernel) (by decide +kernel)
set_option maxRecDepth 20000 in
theorem gX7_dig_X7_within : GoodIn wsX7_dig (va_wsS RX7 67 yX7_within wsX7_within) := goodIn_app (goodIn_of _ (by decide +kernel)) ggX7_dig_X7_within
theorem dX7_dig_0 : decode cX7_dig 0 = .ok (.iload_n 1, 1) := by decide +kernel
theorem dX7_dig_1 : decode cX7_dig 1 = .ok (.iconst 0, 1) := by decide +kernel
theorem dX7_dig_2 : decode cX7_dig 2 = .ok (.bipush 9, 2) := by decide +kernel
theorem dX7_dig_4 : decode cX7_dig 4 = .ok (.invokestatic 67, 3) := by decide +kernel
theorem dX7_dig_7 : decode cX7_dig 7 = .ok (.ifCond .ne 6, 3) := by decide +kernel
theorem dX7_dig_10 : decode cX7_dig 10 = .ok (.bipush (-2), 2) := by decide +kernel
theorem dX7_dig_12 : decode cX7_dig 12 = .ok (.ireturn, 1) := by decide +kernel
theorem dX7_dig_13 : decode cX7_dig 13 = .ok (.aload_n 0, 1) := by decide +kernel
theorem dX7_dig_14 : decode cX7_dig 14 = .ok (.getfield 107, 3) := by decide +kernel
theorem dX7_dig_17 : decode cX7_dig 17 = .ok (.ifCond .ne 6, 3) := by decide +kernel
theorem dX7_dig_20 : decode cX7_dig 20 = .ok (.bipush (-3), 2) := by decide +kernel
theorem dX7_dig_22 : decode cX7_dig 22 = .ok (.ireturn, 1) := by decide +kernel
theorem dX7_dig_23 : decode cX7_dig 23 = .ok (.aload_n 0, 1) := by decide +kernel
theorem dX7_dig_24 : decode cX7_dig 24 = .ok (.getfield 101, 3) := by decide +kernel
theorem dX7_dig_27 : decode cX7_dig 27 = .ok (.istore_n 2, 1) := by decide +kernel
theorem dX7_dig_28 : decode cX7_dig 28 = .ok (.aload_n 0, 1) := by decide +kernel
theorem dX7_dig_29 : decode cX7_dig 29 = .ok (.iload_n 1, 1) := by decide +kernel
theorem dX7_dig_30 : decode cX7_dig 30 = .ok (.putfield 101, 3) := by decide +kernel
theorem dX7_dig_33 : decode cX7_dig 33 = .ok (.iload_n 2, 1) := by decide +kernel
theorem dX7_dig_34 : decode cX7_dig 34 = .ok (.ireturn, 1) := by decide +kernel
set_option maxRecDepth 20000 in
theorem ggX7_hire_X7_isDrawer : GoodIn wsX7_hire wsX7_isDrawer := goodIn_r _ [6, 7, 8, 5, 9] (by decide +kernel) (by decide +kernel)
set_option maxRecDepth 20000 in
theorem gX7_hire_X7_isDrawer : GoodIn wsX7_hire (va_wsS RX7 135 yX7_isDrawer wsX7_isDrawer) := goodIn_app (goodIn_of _ (by decide +kernel)) ggX7_hire_X7_isDrawer
theorem dX7_hire_0 : decode cX7_hire 0 = .ok (.iload_n 1, 1) := by decide +kernel
theorem dX7_hire_1 : decode cX7_hire 1 = .ok (.ifCond .lt 18, 3) := by decide +kernel
theorem dX7_hire_4 : decode cX7_hire 4 = .ok (.iload_n 1, 1) := by decide +kernel
theorem dX7_hire_5 : decode cX7_hire 5 = .ok (.aload_n 0, 1) := by decide +kernel
theorem dX7_hire_6 : decode cX7_hire 6 = .ok (.getfield 107, 3) := by decide +kernel
theorem dX7_hire_9 : decode cX7_hire 9 = .ok (.if_icmp .ge 10, 3) := by decide +kernel
theorem dX7_hire_12 : decode cX7_hire 12 = .ok (.iload_n 2, 1) := by decide +kernel
theorem dX7_hire_13 : decode cX7_hire 13 = .ok (.invokestatic 135, 3) := by decide +kernel
theorem dX7_hire_16 : decode cX7_hire 16 = .ok (.ifCond .ne 5, 3) := by decide +kernel
theorem dX7_hire_19 : decode cX7_hire 19 = .ok (.iconst (-1), 1) := by decide +kernel
theorem dX7_hire_20 : decode cX7_hire 20 = .ok (.ireturn, 1) := by decide +kernel
theorem dX7_hire_21 : decode cX7_hire 21 = .ok (.aload_n 0, 1) := by decide +kernel
theorem dX7_hire_22 : decode cX7_hire 22 = .ok (.getfield 19, 3) := by decide +kernel
theorem dX7_hire_25 : decode cX7_hire 25 = .ok (.iload_n 1, 1) := by decide +kernel
theorem dX7_hire_26 : decode cX7_hire 26 = .ok (.iaload, 1) := by decide +kernel
theorem dX7_hire_27 : decode cX7_hire 27 = .ok (.istore_n 3, 1) := by decide +kernel
theorem dX7_hire_28 : decode cX7_hire 28 = .ok (.aload_n 0, 1) := by decide +kernel
theorem dX7_hire_29 : decode cX7_hire 29 = .ok (.getfield 19, 3) := by decide +kernel
theorem dX7_hire_32 : decode cX7_hire 32 = .ok (.iload_n 1, 1) := by decide +kernel
theorem dX7_hire_33 : decode cX7_hire 33 = .ok (.iload_n 2, 1) := by decide +kernel
theorem dX7_hire_34 : decode cX7_hire 34 = .ok (.iastore, 1) := by decide +kernel
theorem dX7_hire_35 : decode cX7_hire 35 = .ok (.iload_n 3, 1) := by decide +kernel
theorem dX7_hire_36 : decode cX7_hire 36 = .ok (.ireturn, 1) := by decide +kernel
set_option maxRecDepth 20000 in
theorem ggX7_follow_X7_delay : GoodIn wsX7_follow wsX7_delay := goodIn_r _ [10, 11, 12, 13, 14, 15, 16, 17, 18, 19, 20, 21, 22, 23, 24, 25, 26, 27, 28, 29, 30, 31, 32, 33, 34, 35, 36, 37, 38, 39, 40, 41, 42, 43] (by decide +kernel) (by decide +kernel)
set_option maxRecDepth 20000 in
theorem gX7_follow_X7_delay : GoodIn wsX7_follow (wsV RX7 132 RX7 yX7_delay wsX7_delay) := goodIn_app (goodIn_of _ (by decide +kernel)) ggX7_follow_X7_delay
theorem dX7_follow_0 : decode cX7_follow 0 = .ok (.aload_n 0, 1) := by decide +kernel
theorem dX7_follow_1 : decode cX7_follow 1 = .ok (.bipush (-9), 2) := by decide +kernel
theorem dX7_follow_3 : decode cX7_follow 3 = .ok (.putfield 138, 3) := by decide +kernel
theorem dX7_follow_6 : decode cX7_follow 6 = .ok (.aload_n 0, 1) := by decide +kernel
theorem dX7_follow_7 : decode cX7_follow 7 = .ok (.bipush (-9), 2) := by decide +kernel
theorem dX7_follow_9 : decode cX7_follow 9 = .ok (.putfield 141, 3) := by decide +kernel
theorem dX7_follow_12 : decode cX7_follow 12 = .ok (.aload_n 0, 1) := by decide +kernel
theorem dX7_follow_13 : decode cX7_follow 13 = .ok (.bipush (-9), 2) := by decide +kernel
theorem dX7_follow_15 : decode cX7_follow 15 = .ok (.putfield 144, 3) := by decide +kernel
theorem dX7_follow_18 : decode cX7_follow 18 = .ok (.aload_n 0, 1) := by decide +kernel
theorem dX7_follow_19 : decode cX7_follow 19 = .ok (.iload_n 1, 1) := by decide +kernel
theorem dX7_follow_20 : decode cX7_follow 20 = .ok (.invokevirtual 132, 3) := by decide +kernel
theorem dX7_follow_23 : decode cX7_follow 23 = .ok (.istore 4, 2) := by decide +kernel
theorem dX7_follow_25 : decode cX7_follow 25 = .ok (.iload_n 3, 1) := by decide +kernel
theorem dX7_follow_26 : decode cX7_follow 26 = .ok (.istore 5, 2) := by decide +kernel
theorem dX7_follow_28 : decode cX7_follow 28 = .ok (.iconst 1, 1) := by decide +kernel
theorem dX7_follow_29 : decode cX7_follow 29 = .ok (.istore 6, 2) := by decide +kernel
theorem dX7_follow_31 : decode cX7_follow 31 = .ok (.iload 6, 2) := by decide +kernel
theorem dX7_follow_33 : decode cX7_follow 33 = .ok (.bipush 6, 2) := by decide +kernel
theorem dX7_follow_35 : decode cX7_follow 35 = .ok (.if_icmp .gt 69, 3) := by decide +kernel
theorem dX7_follow_38 : decode cX7_follow 38 = .ok (.aload_n 0, 1) := by decide +kernel
theorem dX7_follow_39 : decode cX7_follow 39 = .ok (.getfield 138, 3) := by decide +kernel
theorem dX7_follow_42 : decode cX7_follow 42 = .ok (.bipush (-9), 2) := by decide +kernel
theorem dX7_follow_44 : decode cX7_follow 44 = .ok (.if_icmp .ne 60, 3) := by decide +kernel
theorem dX7_follow_47 : decode cX7_follow 47 = .ok (.iload 5, 2) := by decide +kernel
theorem dX7_follow_49 : decode cX7_follow 49 = .ok (.iload 4, 2) := by decide +kernel
theorem dX7_follow_51 : decode cX7_follow 51 = .ok (.iadd, 1) := by decide +kernel
theorem dX7_follow_52 : decode cX7_follow 52 = .ok (.istore 5, 2) := by decide +kernel
theorem dX7_follow_54 : decode cX7_follow 54 = .ok (.aload_n 0, 1) := by decide +kernel
theorem dX7_follow_55 : decode cX7_follow 55 = .ok (.getfield 19, 3) := by decide +kernel
theorem dX7_follow_58 : decode cX7_follow 58 = .ok (.iload 5, 2) := by decide +kernel
theorem dX7_follow_60 : decode cX7_follow 60 = .ok (.aload_n 0, 1) := by decide +kernel
theorem dX7_follow_61 : decode cX7_follow 61 = .ok (.getfield 107, 3) := by decide +kernel
theorem dX7_follow_64 : decode cX7_follow 64 = .ok (.irem, 1) := by decide +kernel
theorem dX7_follow_65 : decode cX7_follow 65 = .ok (.iaload, 1) := by decide +kernel
theorem dX7_follow_66 : decode cX7_follow 66 = .ok (.iload_n 2, 1) := by decide +kernel
theorem dX7_follow_67 : decode cX7_follow 67 = .ok (.if_icmp .eq 31, 3) := by decide +kernel
theorem dX7_follow_70 : decode cX7_follow 70 = .ok (.aload_n 0, 1) := by decide +kernel
theorem dX7_follow_71 : decode cX7_follow 71 = .ok (.aload_n 0, 1) := by decide +kernel
theorem dX7_follow_72 : decode cX7_follow 72 = .ok (.getfield 19, 3) := by decide +kernel
theorem dX7_follow_75 : decode cX7_follow 75 = .ok (.iload 5, 2) := by decide +kernel
theorem dX7_follow_77 : decode cX7_follow 77 = .ok (.aload_n 0, 1) := by decide +kernel
theorem dX7_follow_78 : decode cX7_follow 78 = .ok (.getfield 107, 3) := by decide +kernel
theorem dX7_follow_81 : decode cX7_follow 81 = .ok (.irem, 1) := by decide +kernel
theorem dX7_follow_82 : decode cX7_follow 82 = .ok (.iaload, 1) := by decide +kernel
theorem dX7_follow_83 : decode cX7_follow 83 = .ok (.putfield 138, 3) := by decide +kernel
theorem dX7_follow_86 : decode cX7_follow 86 = .ok (.aload_n 0, 1) := by decide +kernel
theorem dX7_follow_87 : decode cX7_follow 87 = .ok (.iload 5, 2) := by decide +kernel
theorem dX7_follow_89 : decode cX7_follow 89 = .ok (.putfield 141, 3) := by decide +kernel
theorem dX7_follow_92 : decode cX7_follow 92 = .ok (.aload_n 0, 1) := by decide +kernel
theorem dX7_follow_93 : decode cX7_follow 93 = .ok (.iload 6, 2) := by decide +kernel
theorem dX7_follow_95 : decode cX7_follow 95 = .ok (.putfield 144, 3) := by decide +kernel
theorem dX7_follow_98 : decode cX7_follow 98 = .ok (.iinc 6 1, 3) := by decide +kernel
theorem dX7_follow_101 : decode cX7_follow 101 = .ok (.goto (-70), 3) := by decide +kernel
theorem dX7_follow_104 : decode cX7_follow 104 = .ok (.return_, 1) := by decide +kernel
set_option maxRecDepth 20000 in
theorem ggX7_drop_X7_isThing : GoodIn wsX7_drop wsX7_isThing := goodIn_r _ [8, 9, 29, 30, 31, 32, 33, 34, 35, 36, 37, 38, 39, 40, 41, 42, 43, 44, 45, 46, 47, 48, 49, 50, 51, 52, 53, 54, 55, 56, 57, 58] (by decide +kernel) (by decide +kernel)
set_option maxRecDepth 20000 in
theorem gX7_drop_X7_isThing : GoodIn wsX7_drop (wsV RX7 129 RX7 yX7_isThing wsX7_isThing) := goodIn_app (goodIn_of _ (by decide +kernel)) ggX7_drop_X7_isThing
set_option maxRecDepth 20000 in
theorem ggX7_drop_X7_isDrawer : GoodIn wsX7_drop wsX7_isDrawer := goodIn_r _ [12, 13, 14, 7, 15] (by decide +kernel) (by decide +kernel)
set_option maxRecDepth 20000 in
theorem gX7_drop_X7_isDrawer : GoodIn wsX7_drop (va_wsS RX7 135 yX7_isDrawer wsX7_isDrawer) := goodIn_app (goodIn_of _ (by decide +kernel)) ggX7_drop_X7_isDrawer
set_option maxRecDepth 20000 in
theorem ggX7_drop_X7_within : GoodIn wsX7_drop wsX7_within := goodIn_r _ [15] (by decide +kernel) (by decide +kernel)
set_option maxRecDepth 20000 in
theorem gX7_drop_X7_within : GoodIn wsX7_drop (va_wsS RX7 67 yX7_within wsX7_within) := goodIn_app (goodIn_of _ (by decide +kernel)) ggX7_drop_X7_within
set_option maxRecDepth 20000 in
theorem ggX7_drop_X7_follow : GoodIn wsX7_drop wsX7_follow := goodIn_r _ [19, 1, 2, 3, 20, 21, 22, 23, 24, 7, 25, 26, 27, 28, 29, 30, 31, 32, 33, 34, 35, 36, 37, 38, 39, 40, 41, 42, 43, 44, 45, 46, 47, 48, 49, 50, 51, 52, 53, 54, 55, 56, 57, 58] (by decide +kernel) (by decide +kernel)
set_option maxRecDepth 20000 in
theorem gX7_drop_X7_follow : GoodIn wsX7_drop (wsV RX7 147 RX7 yX7_follow wsX7_follow) := goodIn_app (goodIn_of _ (by decide +kernel)) ggX7_drop_X7_follow
theorem dX7_drop_0 : decode cX7_drop 0 = .ok (.aload_n 0, 1) := by decide +kernel
theorem dX7_drop_1 : decode cX7_drop 1 = .ok (.iload_n 1, 1) := by decide +kernel
theorem dX7_drop_2 : decode cX7_drop 2 = .ok (.invokevirtual 129, 3) := by decide +kernel
theorem dX7_drop_5 : decode cX7_drop 5 = .ok (.ifCond .eq 10, 3) := by decide +kernel
theorem dX7_drop_8 : decode cX7_drop 8 = .ok (.iload_n 2, 1) := by decide +kernel
theorem dX7_drop_9 : decode cX7_drop 9 = .ok (.invokestatic 135, 3) := by decide +kernel
theorem dX7_drop_12 : decode cX7_drop 12 = .ok (.ifCond .ne 5, 3) := by decide +kernel
theorem dX7_drop_15 : decode cX7_drop 15 = .ok (.iconst (-1), 1) := by decide +kernel
theorem dX7_drop_16 : decode cX7_drop 16 = .ok (.ireturn, 1) := by decide +kernel
theorem dX7_drop_17 : decode cX7_drop 17 = .ok (.iload_n 3, 1) := by decide +kernel
theorem dX7_drop_18 : decode cX7_drop 18 = .ok (.iconst 0, 1) := by decide +kernel
theorem dX7_drop_19 : decode cX7_drop 19 = .ok (.bipush 99, 2) := by decide +kernel
theorem dX7_drop_21 : decode cX7_drop 21 = .ok (.invokestatic 67, 3) := by decide +kernel
theorem dX7_drop_24 : decode cX7_drop 24 = .ok (.ifCond .eq 13, 3) := by decide +kernel
theorem dX7_drop_27 : decode cX7_drop 27 = .ok (.iload 4, 2) := by decide +kernel
theorem dX7_drop_29 : decode cX7_drop 29 = .ok (.iconst 0, 1) := by decide +kernel
theorem dX7_drop_30 : decode cX7_drop 30 = .ok (.iconst 2, 1) := by decide +kernel
theorem dX7_drop_31 : decode cX7_drop 31 = .ok (.invokestatic 67, 3) := by decide +kernel
theorem dX7_drop_34 : decode cX7_drop 34 = .ok (.ifCond .ne 6, 3) := by decide +kernel
theorem dX7_drop_37 : decode cX7_drop 37 = .ok (.bipush (-2), 2) := by decide +kernel
theorem dX7_drop_39 : decode cX7_drop 39 = .ok (.ireturn, 1) := by decide +kernel
theorem dX7_drop_40 : decode cX7_drop 40 = .ok (.aload_n 0, 1) := by decide +kernel
theorem dX7_drop_41 : decode cX7_drop 41 = .ok (.iload_n 1, 1) := by decide +kernel
theorem dX7_drop_42 : decode cX7_drop 42 = .ok (.iload_n 2, 1) := by decide +kernel
theorem dX7_drop_43 : decode cX7_drop 43 = .ok (.iload_n 3, 1) := by decide +kernel
theorem dX7_drop_44 : decode cX7_drop 44 = .ok (.invokevirtual 147, 3) := by decide +kernel
theorem dX7_drop_47 : decode cX7_drop 47 = .ok (.iload 4, 2) := by decide +kernel
theorem dX7_drop_49 : decode cX7_drop 49 = .ok (.ifCond .ne 10, 3) := by decide +kernel
theorem dX7_drop_52 : decode cX7_drop 52 = .ok (.aload_n 0, 1) := by decide +kernel
theorem dX7_drop_53 : decode cX7_drop 53 = .ok (.getfield 138, 3) := by decide +kernel
theorem dX7_drop_56 : decode cX7_drop 56 = .ok (.goto 20, 3) := by decide +kernel
theorem dX7_drop_59 : decode cX7_drop 59 = .ok (.iload 4, 2) := by decide +kernel
theorem dX7_drop_61 : decode cX7_drop 61 = .ok (.iconst 1, 1) := by decide +kernel
theorem dX7_drop_62 : decode cX7_drop 62 = .ok (.if_icmp .ne 10, 3) := by decide +kernel
theorem dX7_drop_65 : decode cX7_drop 65 = .ok (.aload_n 0, 1) := by decide +kernel
theorem dX7_drop_66 : decode cX7_drop 66 = .ok (.getfield 141, 3) := by decide +kernel
theorem dX7_drop_69 : decode cX7_drop 69 = .ok (.goto 7, 3) := by decide +kernel
theorem dX7_drop_72 : decode cX7_drop 72 = .ok (.aload_n 0, 1) := by decide +kernel
theorem dX7_drop_73 : decode cX7_drop 73 = .ok (.getfield 144, 3) := by decide +kernel
theorem dX7_drop_76 : decode cX7_drop 76 = .ok (.ireturn, 1) := by decide +kernel
set_option maxRecDepth 20000 in
theorem ggX7_has_X7_follow : GoodIn wsX7_has wsX7_follow := goodIn_r _ [9, 3, 4, 10, 11, 12, 13, 14, 15, 8, 16, 17, 18, 19, 20, 21, 22, 23, 24, 25, 26, 27, 28, 29, 30, 31, 32, 33, 34, 35, 36, 37, 38, 39, 40, 41, 42, 43, 44, 45, 46, 47, 48, 49] (by decide +kernel) (by decide +kernel)
set_option maxRecDepth 20000 in
theorem gX7_has_X7_follow : GoodIn wsX7_has (wsV RX7 147 RX7 yX7_follow wsX7_follow) := goodIn_app (goodIn_of _ (by decide +kernel)) ggX7_has_X7_follow
theorem dX7_has_0 : decode cX7_has 0 = .ok (.aload_n 0, 1) := by decide +kernel
theorem dX7_has_1 : decode cX7_has 1 = .ok (.getfield 28, 3) := by decide +kernel
theorem dX7_has_4 : decode cX7_has 4 = .ok (.iload_n 1, 1) := by decide +kernel
theorem dX7_has_5 : decode cX7_has 5 = .ok (.iaload, 1) := by decide +kernel
theorem dX7_has_6 : decode cX7_has 6 = .ok (.istore_n 3, 1) := by decide +kernel
theorem dX7_has_7 : decode cX7_has 7 = .ok (.aload_n 0, 1) := by decide +kernel
theorem dX7_has_8 : decode cX7_has 8 = .ok (.getfield 34, 3) := by decide +kernel
theorem dX7_has_11 : decode cX7_has 11 = .ok (.iload_n 1, 1) := by decide +kernel
theorem dX7_has_12 : decode cX7_has 12 = .ok (.iaload, 1) := by decide +kernel
theorem dX7_has_13 : decode cX7_has 13 = .ok (.istore 4, 2) := by decide +kernel
theorem dX7_has_15 : decode cX7_has 15 = .ok (.iconst 0, 1) := by decide +kernel
theorem dX7_has_16 : decode cX7_has 16 = .ok (.istore 5, 2) := by decide +kernel
theorem dX7_has_18 : decode cX7_has 18 = .ok (.iload 5, 2) := by decide +kernel
theorem dX7_has_20 : decode cX7_has 20 = .ok (.iload_n 2, 1) := by decide +kernel
theorem dX7_has_21 : decode cX7_has 21 = .ok (.if_icmp .ge 34, 3) := by decide +kernel
theorem dX7_has_24 : decode cX7_has 24 = .ok (.iload_n 3, 1) := by decide +kernel
theorem dX7_has_25 : decode cX7_has 25 = .ok (.bipush (-9), 2) := by decide +kernel
theorem dX7_has_27 : decode cX7_has 27 = .ok (.if_icmp .eq 28, 3) := by decide +kernel
theorem dX7_has_30 : decode cX7_has 30 = .ok (.aload_n 0, 1) := by decide +kernel
theorem dX7_has_31 : decode cX7_has 31 = .ok (.iload_n 1, 1) := by decide +kernel
theorem dX7_has_32 : decode cX7_has 32 = .ok (.iload_n 3, 1) := by decide +kernel
theorem dX7_has_33 : decode cX7_has 33 = .ok (.iload 4, 2) := by decide +kernel
theorem dX7_has_35 : decode cX7_has 35 = .ok (.invokevirtual 147, 3) := by decide +kernel
theorem dX7_has_38 : decode cX7_has 38 = .ok (.aload_n 0, 1) := by decide +kernel
theorem dX7_has_39 : decode cX7_has 39 = .ok (.getfield 138, 3) := by decide +kernel
theorem dX7_has_42 : decode cX7_has 42 = .ok (.istore_n 3, 1) := by decide +kernel
theorem dX7_has_43 : decode cX7_has 43 = .ok (.aload_n 0, 1) := by decide +kernel
theorem dX7_has_44 : decode cX7_has 44 = .ok (.getfield 141, 3) := by decide +kernel
theorem dX7_has_47 : decode cX7_has 47 = .ok (.istore 4, 2) := by decide +kernel
theorem dX7_has_49 : decode cX7_has 49 = .ok (.iinc 5 1, 3) := by decide +kernel
theorem dX7_has_52 : decode cX7_has 52 = .ok (.goto (-34), 3) := by decide +kernel
theorem dX7_has_55 : decode cX7_has 55 = .ok (.iload_n 3, 1) := by decide +kernel
theorem dX7_has_56 : decode cX7_has 56 = .ok (.ireturn, 1) := by decide +kernel
set_option maxRecDepth 20000 in
theorem ggX7_hands_X7_isThing : GoodIn wsX7_hands wsX7_isThing := goodIn_r _ [5, 6, 32, 33, 34, 35, 36, 37, 38, 39, 40, 41, 42, 43, 44, 45, 46, 47, 48, 49, 50, 51, 52, 53, 54, 55, 56, 57, 58, 59, 60, 61] (by decide +kernel) (by decide +kernel)
set_option maxRecDepth 20000 in
theorem gX7_hands_X7_isThing : GoodIn wsX7_hands (wsV RX7 129 RX7 yX7_isThing wsX7_isThing) := goodIn_app (goodIn_of _ (by decide +kernel)) ggX7_hands_X7_isThing
set_option maxRecDepth 20000 in
theorem ggX7_hands_X7_within : GoodIn wsX7_hands wsX7_within := goodIn_r _ [9] (by decide +kernel) (by decide +kernel)
set_option maxRecDepth 20000 in
theorem gX7_hands_X7_within : GoodIn wsX7_hands (va_wsS RX7 67 yX7_within wsX7_within) := goodIn_app (goodIn_of _ (by decide +kernel)) ggX7_hands_X7_within
set_option maxRecDepth 20000 in
theorem ggX7_hands_X7_has : GoodIn wsX7_hands wsX7_has := goodIn_r _ [13, 14, 15, 16, 17, 18, 19, 20, 4, 21, 22, 23, 24, 25, 26, 27, 28, 29, 30, 31, 32, 33, 34, 35, 36, 37, 38, 39, 40, 41, 42, 43, 44, 45, 46, 47, 48, 49, 50, 51, 52, 53, 54, 55, 56, 57, 58, 59, 60, 61] (by decide +kernel) (by decide +kernel)
set_option maxRecDepth 20000 in
theorem gX7_hands_X7_has : GoodIn wsX7_hands (wsV RX7 151 RX7 yX7_has wsX7_has) := goodIn_app (goodIn_of _ (by decide +kernel)) ggX7_hands_X7_has
theorem dX7_hands_0 : decode cX7_hands 0 = .ok (.aload_n 0, 1) := by decide +kernel
theorem dX7_hands_1 : decode cX7_hands 1 = .ok (.iload_n 1, 1) := by decide +kernel
theorem dX7_hands_2 : decode cX7_hands 2 = .ok (.invokevirtual 129, 3) := by decide +kernel
theorem dX7_hands_5 : decode cX7_hands 5 = .ok (.ifCond .ne 5, 3) := by decide +kernel
theorem dX7_hands_8 : decode cX7_hands 8 = .ok (.iconst (-1), 1) := by decide +kernel
theorem dX7_hands_9 : decode cX7_hands 9 = .ok (.ireturn, 1) := by decide +kernel
theorem dX7_hands_10 : decode cX7_hands 10 = .ok (.iload_n 2, 1) := by decide +kernel
theorem dX7_hands_11 : decode cX7_hands 11 = .ok (.iconst 0, 1) := by decide +kernel
theorem dX7_hands_12 : decode cX7_hands 12 = .ok (.bipush 30, 2) := by decide +kernel
theorem dX7_hands_14 : decode cX7_hands 14 = .ok (.invokestatic 67, 3) := by decide +kernel
theorem dX7_hands_17 : decode cX7_hands 17 = .ok (.ifCond .eq 12, 3) := by decide +kernel
theorem dX7_hands_20 : decode cX7_hands 20 = .ok (.aload_n 0, 1) := by decide +kernel
theorem dX7_hands_21 : decode cX7_hands 21 = .ok (.iload_n 1, 1) := by decide +kernel
theorem dX7_hands_22 : decode cX7_hands 22 = .ok (.iload_n 2, 1) := by decide +kernel
theorem dX7_hands_23 : decode cX7_hands 23 = .ok (.invokevirtual 151, 3) := by decide +kernel
theorem dX7_hands_26 : decode cX7_hands 26 = .ok (.goto 5, 3) := by decide +kernel
theorem dX7_hands_29 : decode cX7_hands 29 = .ok (.bipush (-2), 2) := by decide +kernel
theorem dX7_hands_31 : decode cX7_hands 31 = .ok (.ireturn, 1) := by decide +kernel
set_option maxRecDepth 20000 in
theorem ggX7_home_X7_isThing : GoodIn wsX7_home wsX7_isThing := goodIn_r _ [6, 7, 29, 30, 31, 32, 33, 34, 35, 36, 37, 38, 39, 40, 41, 42, 43, 44, 45, 46, 47, 48, 49, 50, 51, 52, 53, 54, 55, 56, 57, 58] (by decide +kernel) (by decide +kernel)
set_option maxRecDepth 20000 in
theorem gX7_home_X7_isThing : GoodIn wsX7_home (wsV RX7 129 RX7 yX7_isThing wsX7_isThing) := goodIn_app (goodIn_of _ (by decide +kernel)) ggX7_home_X7_isThing
set_option maxRecDepth 20000 in
theorem ggX7_home_X7_has : GoodIn wsX7_home wsX7_has := goodIn_r _ [11, 1, 12, 13, 14, 15, 16, 17, 5, 18, 19, 20, 21, 22, 23, 24, 25, 26, 27, 28, 29, 30, 31, 32, 33, 34, 35, 36, 37, 38, 39, 40, 41, 42, 43, 44, 45, 46, 47, 48, 49, 50, 51, 52, 53, 54, 55, 56, 57, 58] (by decide +kernel) (by decide +kernel)
set_option maxRecDepth 20000 in
theorem gX7_home_X7_has : GoodIn wsX7_home (wsV RX7 151 RX7 yX7_has wsX7_has) := goodIn_app (goodIn_of _ (by decide +kernel)) ggX7_home_X7_has
theorem dX7_home_0 : decode cX7_home 0 = .ok (.aload_n 0, 1) := by decide +kernel
theorem dX7_home_1 : decode cX7_home 1 = .ok (.iload_n 1, 1) := by decide +kernel
theorem dX7_home_2 : decode cX7_home 2 = .ok (.invokevirtual 129, 3) := by decide +kernel
theorem dX7_home_5 : decode cX7_home 5 = .ok (.ifCond .ne 5, 3) := by decide +kernel
theorem dX7_home_8 : decode cX7_home 8 = .ok (.iconst (-1), 1) := by decide +kernel
theorem dX7_home_9 : decode cX7_home 9 = .ok (.ireturn, 1) := by decide +kernel
theorem dX7_home_10 : decode cX7_home 10 = .ok (.iconst 1, 1) := by decide +kernel
theorem dX7_home_11 : decode cX7_home 11 = .ok (.istore_n 2, 1) := by decide +kernel
theorem dX7_home_12 : decode cX7_home 12 = .ok (.iload_n 2, 1) := by decide +kernel
theorem dX7_home_13 : decode cX7_home 13 = .ok (.bipush 30, 2) := by decide +kernel
theorem dX7_home_15 : decode cX7_home 15 = .ok (.if_icmp .gt 26, 3) := by decide +kernel
theorem dX7_home_18 : decode cX7_home 18 = .ok (.aload_n 0, 1) := by decide +kernel
theorem dX7_home_19 : decode cX7_home 19 = .ok (.iload_n 1, 1) := by decide +kernel
theorem dX7_home_20 : decode cX7_home 20 = .ok (.iload_n 2, 1) := by decide +kernel
theorem dX7_home_21 : decode cX7_home 21 = .ok (.invokevirtual 151, 3) := by decide +kernel
theorem dX7_home_24 : decode cX7_home 24 = .ok (.aload_n 0, 1) := by decide +kernel
theorem dX7_home_25 : decode cX7_home 25 = .ok (.getfield 28, 3) := by decide +kernel
theorem dX7_home_28 : decode cX7_home 28 = .ok (.iload_n 1, 1) := by decide +kernel
theorem dX7_home_29 : decode cX7_home 29 = .ok (.iaload, 1) := by decide +kernel
theorem dX7_home_30 : decode cX7_home 30 = .ok (.if_icmp .ne 5, 3) := by decide +kernel
theorem dX7_home_33 : decode cX7_home 33 = .ok (.iload_n 2, 1) := by decide +kernel
theorem dX7_home_34 : decode cX7_home 34 = .ok (.ireturn, 1) := by decide +kernel
theorem dX7_home_35 : decode cX7_home 35 = .ok (.iinc 2 1, 3) := by decide +kernel
theorem dX7_home_38 : decode cX7_home 38 = .ok (.goto (-26), 3) := by decide +kernel
theorem dX7_home_41 : decode cX7_home 41 = .ok (.bipush (-9), 2) := by decide +kernel
theorem dX7_home_43 : decode cX7_home 43 = .ok (.ireturn, 1) := by decide +kernel
set_option maxRecDepth 20000 in
theorem ggX7_meets_X7_isThing : GoodIn wsX7_meets wsX7_isThing := goodIn_r _ [5, 6, 29, 30, 31, 32, 33, 34, 35, 36, 37, 38, 39, 40, 41, 42, 43, 44, 45, 46, 47, 48, 49, 50, 51, 52, 53, 54, 55, 56, 57, 58] (by decide +kernel) (by decide +kernel)
set_option maxRecDepth 20000 in
theorem gX7_meets_X7_isThing : GoodIn wsX7_meets (wsV RX7 129 RX7 yX7_isThing wsX7_isThing) := goodIn_app (goodIn_of _ (by decide +kernel)) ggX7_meets_X7_isThing
set_option maxRecDepth 20000 in
theorem ggX7_meets_X7_has : GoodIn wsX7_meets wsX7_has := goodIn_r _ [10, 11, 12, 13, 14, 15, 16, 17, 4, 18, 19, 20, 21, 22, 23, 24, 25, 26, 27, 28, 29, 30, 31, 32, 33, 34, 35, 36, 37, 38, 39, 40, 41, 42, 43, 44, 45, 46, 47, 48, 49, 50, 51, 52, 53, 54, 55, 56, 57, 58] (by decide +kernel) (by decide +kernel)
set_option maxRecDepth 20000 in
theorem gX7_meets_X7_has : GoodIn wsX7_meets (wsV RX7 151 RX7 yX7_has wsX7_has) := goodIn_app (goodIn_of _ (by decide +kernel)) ggX7_meets_X7_has
theorem dX7_meets_0 : decode cX7_meets 0 = .ok (.aload_n 0, 1) := by decide +kernel
theorem dX7_meets_1 : decode cX7_meets 1 = .ok (.iload_n 1, 1) := by decide +kernel
theorem dX7_meets_2 : decode cX7_meets 2 = .ok (.invokevirtual 129, 3) := by decide +kernel
theorem dX7_meets_5 : decode cX7_meets 5 = .ok (.ifCond .ne 5, 3) := by decide +kernel
theorem dX7_meets_8 : decode cX7_meets 8 = .ok (.iconst (-1), 1) := by decide +kernel
theorem dX7_meets_9 : decode cX7_meets 9 = .ok (.ireturn, 1) := by decide +kernel
theorem dX7_meets_10 : decode cX7_meets 10 = .ok (.iconst 0, 1) := by decide +kernel
theorem dX7_meets_11 : decode cX7_meets 11 = .ok (.istore_n 2, 1) := by decide +kernel
theorem dX7_meets_12 : decode cX7_meets 12 = .ok (.iconst 0, 1) := by decide +kernel
theorem dX7_meets_13 : decode cX7_meets 13 = .ok (.istore_n 3, 1) := by decide +kernel
theorem dX7_meets_14 : decode cX7_meets 14 = .ok (.iload_n 3, 1) := by decide +kernel
theorem dX7_meets_15 : decode cX7_meets 15 = .ok (.bipush 30, 2) := by decide +kernel
theorem dX7_meets_17 : decode cX7_meets 17 = .ok (.if_icmp .gt 35, 3) := by decide +kernel
theorem dX7_meets_20 : decode cX7_meets 20 = .ok (.aload_n 0, 1) := by decide +kernel
theorem dX7_meets_21 : decode cX7_meets 21 = .ok (.iload_n 1, 1) := by decide +kernel
theorem dX7_meets_22 : decode cX7_meets 22 = .ok (.iload_n 3, 1) := by decide +kernel
theorem dX7_meets_23 : decode cX7_meets 23 = .ok (.invokevirtual 151, 3) := by decide +kernel
theorem dX7_meets_26 : decode cX7_meets 26 = .ok (.istore 4, 2) := by decide +kernel
theorem dX7_meets_28 : decode cX7_meets 28 = .ok (.iload_n 2, 1) := by decide +kernel
theorem dX7_meets_29 : decode cX7_meets 29 = .ok (.iload 4, 2) := by decide +kernel
theorem dX7_meets_31 : decode cX7_meets 31 = .ok (.bipush (-9), 2) := by decide +kernel
theorem dX7_meets_33 : decode cX7_meets 33 = .ok (.if_icmp .ne 7, 3) := by decide +kernel
theorem dX7_meets_36 : decode cX7_meets 36 = .ok (.iconst 0, 1) := by decide +kernel
theorem dX7_meets_37 : decode cX7_meets 37 = .ok (.goto 7, 3) := by decide +kernel
theorem dX7_meets_40 : decode cX7_meets 40 = .ok (.iconst 1, 1) := by decide +kernel
theorem dX7_meets_41 : decode cX7_meets 41 = .ok (.iload 4, 2) := by decide +kernel
theorem dX7_meets_43 : decode cX7_meets 43 = .ok (.ishl, 1) := by decide +kernel
theorem dX7_meets_44 : decode cX7_meets 44 = .ok (.ior, 1) := by decide +kernel
theorem dX7_meets_45 : decode cX7_meets 45 = .ok (.istore_n 2, 1) := by decide +kernel
theorem dX7_meets_46 : decode cX7_meets 46 = .ok (.iinc 3 1, 3) := by decide +kernel
theorem dX7_meets_49 : decode cX7_meets 49 = .ok (.goto (-35), 3) := by decide +kernel
theorem dX7_meets_52 : decode cX7_meets 52 = .ok (.iload_n 2, 1) := by decide +kernel
theorem dX7_meets_53 : decode cX7_meets 53 = .ok (.ireturn, 1) := by decide +kernel
set_option maxRecDepth 20000 in
theorem ggX7_drawerBy_X7_follow : GoodIn wsX7_drawerBy wsX7_follow := goodIn_r _ [7, 2, 8, 9, 10, 11, 12, 13, 14, 6, 15, 16, 17, 18, 19, 20, 21, 22, 23, 24, 25, 26, 27, 28, 29, 30, 31, 32, 33, 34, 35, 36, 37, 38, 39, 40, 41, 42, 43, 44, 45, 46, 47, 48] (by decide +kernel) (by decide +kernel)
set_option maxRecDepth 20000 in
theorem gX7_drawerBy_X7_follow : GoodIn wsX7_drawerBy (wsV RX7 147 RX7 yX7_follow wsX7_follow) := goodIn_app (goodIn_of _ (by decide +kernel)) ggX7_drawerBy_X7_follow
theorem dX7_drawerBy_0 : decode cX7_drawerBy 0 = .ok (.aload_n 0, 1) := by decide +kernel
theorem dX7_drawerBy_1 : decode cX7_drawerBy 1 = .ok (.iload_n 1, 1) := by decide +kernel
theorem dX7_drawerBy_2 : decode cX7_drawerBy 2 = .ok (.aload_n 0, 1) := by decide +kernel
theorem dX7_drawerBy_3 : decode cX7_drawerBy 3 = .ok (.getfield 28, 3) := by decide +kernel
theorem dX7_drawerBy_6 : decode cX7_drawerBy 6 = .ok (.iload_n 1, 1) := by decide +kernel
theorem dX7_drawerBy_7 : decode cX7_drawerBy 7 = .ok (.iaload, 1) := by decide +kernel
theorem dX7_drawerBy_8 : decode cX7_drawerBy 8 = .ok (.iload_n 2, 1) := by decide +kernel
theorem dX7_drawerBy_9 : decode cX7_drawerBy 9 = .ok (.invokevirtual 147, 3) := by decide +kernel
theorem dX7_drawerBy_12 : decode cX7_drawerBy 12 = .ok (.aload_n 0, 1) := by decide +kernel
theorem dX7_drawerBy_13 : decode cX7_drawerBy 13 = .ok (.getfield 138, 3) := by decide +kernel
theorem dX7_drawerBy_16 : decode cX7_drawerBy 16 = .ok (.ireturn, 1) := by decide +kernel
set_option maxRecDepth 20000 in
theorem ggX7_hours_X7_isSheet : GoodIn wsX7_hours wsX7_isSheet := goodIn_r _ [8, 9, 10, 7, 11] (by decide +kernel) (by decide +kernel)
set_option maxRecDepth 20000 in
theorem gX7_hours_X7_isSheet : GoodIn wsX7_hours (va_wsS RX7 77 yX7_isSheet wsX7_isSheet) := goodIn_app (goodIn_of _ (by decide +kernel)) ggX7_hours_X7_isSheet
set_option maxRecDepth 20000 in
theorem ggX7_hours_X7_isSort : GoodIn wsX7_hours wsX7_isSort := goodIn_r _ [14, 9, 10, 7, 11] (by decide +kernel) (by decide +kernel)
set_option maxRecDepth 20000 in
theorem gX7_hours_X7_isSort : GoodIn wsX7_hours (va_wsS RX7 81 yX7_isSort wsX7_isSort) := goodIn_app (goodIn_of _ (by decide +kernel)) ggX7_hours_X7_isSort
set_option maxRecDepth 20000 in
theorem ggX7_hours_X7_within : GoodIn wsX7_hours wsX7_within := goodIn_r _ [11] (by decide +kernel) (by decide +kernel)
set_option maxRecDepth 20000 in
theorem gX7_hours_X7_within : GoodIn wsX7_hours (va_wsS RX7 67 yX7_within wsX7_within) := goodIn_app (goodIn_of _ (by decide +kernel)) ggX7_hours_X7_within
set_option maxRecDepth 20000 in
theorem ggX7_hours_X7_against : GoodIn wsX7_hours wsX7_against := goodIn_r _ [18, 19, 20, 59, 60, 61, 62, 63, 64, 65, 66, 67, 68, 69, 70, 71, 72, 73, 74, 75, 76, 77, 78, 79, 80, 81, 82, 83, 84, 85, 86, 87, 88] (by decide +kernel) (by decide +kernel)
set_option maxRecDepth 20000 in
theorem gX7_hours_X7_against : GoodIn wsX7_hours (wsV RX7 84 RX7 yX7_against wsX7_against) := goodIn_app (goodIn_of _ (by decide +kernel)) ggX7_hours_X7_against
set_option maxRecDepth 20000 in
theorem ggX7_hours_X7_fails : GoodIn wsX7_hours wsX7_fails := goodIn_r _ [24, 1, 59, 60, 61, 62, 63, 64, 65, 66, 67, 68, 69, 70, 71, 72, 73, 74, 75, 76, 77, 78, 79, 80, 81, 82, 83, 84, 85, 86, 87, 88] (by decide +kernel) (by decide +kernel)
set_option maxRecDepth 20000 in
theorem gX7_hours_X7_fails : GoodIn wsX7_hours (wsV RX7 88 RX7 yX7_fails wsX7_fails) := goodIn_app (goodIn_of _ (by decide +kernel)) ggX7_hours_X7_fails
set_option maxRecDepth 20000 in
theorem ggX7_hours_X7_tellHours : GoodIn wsX7_hours wsX7_tellHours := goodIn_r _ [28, 4, 29, 3, 30, 31, 32, 33, 34, 7, 35, 36, 37, 38, 39, 40, 41, 42, 43, 44, 45, 46, 47, 2, 48, 49, 50, 51, 52, 53, 54, 55, 56, 57, 58, 59, 60, 61, 62, 63, 64, 65, 66, 67, 68, 69, 70, 71, 72, 73, 74, 75, 76, 77, 78, 79, 80, 81, 82, 83, 84, 85, 86, 87, 88] (by decide +kernel) (by decide +kernel)
set_option maxRecDepth 20000 in
theorem gX7_hours_X7_tellHours : GoodIn wsX7_hours (wsV RX7 154 RX7 yX7_tellHours wsX7_tellHours) := goodIn_app (goodIn_of _ (by decide +kernel)) ggX7_hours_X7_tellHours
theorem dX7_hours_0 : decode cX7_hours 0 = .ok (.aload_n 0, 1) := by decide +kernel
theorem dX7_hours_1 : decode cX7_hours 1 = .ok (.iconst 0, 1) := by decide +kernel
theorem dX7_hours_2 : decode cX7_hours 2 = .ok (.putfield 61, 3) := by decide +kernel
theorem dX7_hours_5 : decode cX7_hours 5 = .ok (.iload_n 1, 1) := by decide +kernel
theorem dX7_hours_6 : decode cX7_hours 6 = .ok (.invokestatic 77, 3) := by decide +kernel
theorem dX7_hours_9 : decode cX7_hours 9 = .ok (.ifCond .ne 5, 3) := by decide +kernel
theorem dX7_hours_12 : decode cX7_hours 12 = .ok (.iconst (-1), 1) := by decide +kernel
theorem dX7_hours_13 : decode cX7_hours 13 = .ok (.ireturn, 1) := by decide +kernel
theorem dX7_hours_14 : decode cX7_hours 14 = .ok (.iload_n 2, 1) := by decide +kernel
theorem dX7_hours_15 : decode cX7_hours 15 = .ok (.invokestatic 81, 3) := by decide +kernel
theorem dX7_hours_18 : decode cX7_hours 18 = .ok (.ifCond .eq 25, 3) := by decide +kernel
theorem dX7_hours_21 : decode cX7_hours 21 = .ok (.iload 5, 2) := by decide +kernel
theorem dX7_hours_23 : decode cX7_hours 23 = .ok (.iconst 0, 1) := by decide +kernel
theorem dX7_hours_24 : decode cX7_hours 24 = .ok (.iconst 2, 1) := by decide +kernel
theorem dX7_hours_25 : decode cX7_hours 25 = .ok (.invokestatic 67, 3) := by decide +kernel
theorem dX7_hours_28 : decode cX7_hours 28 = .ok (.ifCond .ne 18, 3) := by decide +kernel
theorem dX7_hours_31 : decode cX7_hours 31 = .ok (.iload 5, 2) := by decide +kernel
theorem dX7_hours_33 : decode cX7_hours 33 = .ok (.bipush 10, 2) := by decide +kernel
theorem dX7_hours_35 : decode cX7_hours 35 = .ok (.bipush 14, 2) := by decide +kernel
theorem dX7_hours_37 : decode cX7_hours 37 = .ok (.invokestatic 67, 3) := by decide +kernel
theorem dX7_hours_40 : decode cX7_hours 40 = .ok (.ifCond .ne 6, 3) := by decide +kernel
theorem dX7_hours_43 : decode cX7_hours 43 = .ok (.bipush (-2), 2) := by decide +kernel
theorem dX7_hours_45 : decode cX7_hours 45 = .ok (.ireturn, 1) := by decide +kernel
theorem dX7_hours_46 : decode cX7_hours 46 = .ok (.aload_n 0, 1) := by decide +kernel
theorem dX7_hours_47 : decode cX7_hours 47 = .ok (.iload_n 1, 1) := by decide +kernel
theorem dX7_hours_48 : decode cX7_hours 48 = .ok (.iload_n 2, 1) := by decide +kernel
theorem dX7_hours_49 : decode cX7_hours 49 = .ok (.iload_n 3, 1) := by decide +kernel
theorem dX7_hours_50 : decode cX7_hours 50 = .ok (.iload 4, 2) := by decide +kernel
theorem dX7_hours_52 : decode cX7_hours 52 = .ok (.invokevirtual 84, 3) := by decide +kernel
theorem dX7_hours_55 : decode cX7_hours 55 = .ok (.istore 6, 2) := by decide +kernel
theorem dX7_hours_57 : decode cX7_hours 57 = .ok (.iload 6, 2) := by decide +kernel
theorem dX7_hours_59 : decode cX7_hours 59 = .ok (.ifCond .eq 10, 3) := by decide +kernel
theorem dX7_hours_62 : decode cX7_hours 62 = .ok (.aload_n 0, 1) := by decide +kernel
theorem dX7_hours_63 : decode cX7_hours 63 = .ok (.iload 6, 2) := by decide +kernel
theorem dX7_hours_65 : decode cX7_hours 65 = .ok (.invokevirtual 88, 3) := by decide +kernel
theorem dX7_hours_68 : decode cX7_hours 68 = .ok (.ireturn, 1) := by decide +kernel
theorem dX7_hours_69 : decode cX7_hours 69 = .ok (.aload_n 0, 1) := by decide +kernel
theorem dX7_hours_70 : decode cX7_hours 70 = .ok (.getfield 107, 3) := by decide +kernel
theorem dX7_hours_73 : decode cX7_hours 73 = .ok (.ifCond .ne 6, 3) := by decide +kernel
theorem dX7_hours_76 : decode cX7_hours 76 = .ok (.bipush (-3), 2) := by decide +kernel
theorem dX7_hours_78 : decode cX7_hours 78 = .ok (.ireturn, 1) := by decide +kernel
theorem dX7_hours_79 : decode cX7_hours 79 = .ok (.iload 4, 2) := by decide +kernel
theorem dX7_hours_81 : decode cX7_hours 81 = .ok (.aload_n 0, 1) := by decide +kernel
theorem dX7_hours_82 : decode cX7_hours 82 = .ok (.getfield 71, 3) := by decide +kernel
theorem dX7_hours_85 : decode cX7_hours 85 = .ok (.if_icmp .eq 6, 3) := by decide +kernel
theorem dX7_hours_88 : decode cX7_hours 88 = .ok (.bipush (-2), 2) := by decide +kernel
theorem dX7_hours_90 : decode cX7_hours 90 = .ok (.ireturn, 1) := by decide +kernel
theorem dX7_hours_91 : decode cX7_hours 91 = .ok (.bipush 60, 2) := by decide +kernel
theorem dX7_hours_93 : decode cX7_hours 93 = .ok (.iload_n 1, 1) := by decide +kernel
theorem dX7_hours_94 : decode cX7_hours 94 = .ok (.imul, 1) := by decide +kernel
theorem dX7_hours_95 : decode cX7_hours 95 = .ok (.iload_n 3, 1) := by decide +kernel
theorem dX7_hours_96 : decode cX7_hours 96 = .ok (.iadd, 1) := by decide +kernel
theorem dX7_hours_97 : decode cX7_hours 97 = .ok (.istore 7, 2) := by decide +kernel
theorem dX7_hours_99 : decode cX7_hours 99 = .ok (.iconst 0, 1) := by decide +kernel
theorem dX7_hours_100 : decode cX7_hours 100 = .ok (.istore 8, 2) := by decide +kernel
theorem dX7_hours_102 : decode cX7_hours 102 = .ok (.iload 8, 2) := by decide +kernel
theorem dX7_hours_104 : decode cX7_hours 104 = .ok (.iload 4, 2) := by decide +kernel
theorem dX7_hours_106 : decode cX7_hours 106 = .ok (.if_icmp .ge 31, 3) := by decide +kernel
theorem dX7_hours_109 : decode cX7_hours 109 = .ok (.aload_n 0, 1) := by decide +kernel
theorem dX7_hours_110 : decode cX7_hours 110 = .ok (.getfield 16, 3) := by decide +kernel
theorem dX7_hours_113 : decode cX7_hours 113 = .ok (.iload 7, 2) := by decide +kernel
theorem dX7_hours_115 : decode cX7_hours 115 = .ok (.iload 8, 2) := by decide +kernel
theorem dX7_hours_117 : decode cX7_hours 117 = .ok (.iadd, 1) := by decide +kernel
theorem dX7_hours_118 : decode cX7_hours 118 = .ok (.iaload, 1) := by decide +kernel
theorem dX7_hours_119 : decode cX7_hours 119 = .ok (.iconst 0, 1) := by decide +kernel
theorem dX7_hours_120 : decode cX7_hours 120 = .ok (.bipush 23, 2) := by decide +kernel
theorem dX7_hours_122 : decode cX7_hours 122 = .ok (.invokestatic 67, 3) := by decide +kernel
theorem dX7_hours_125 : decode cX7_hours 125 = .ok (.ifCond .ne 6, 3) := by decide +kernel
theorem dX7_hours_128 : decode cX7_hours 128 = .ok (.bipush (-2), 2) := by decide +kernel
theorem dX7_hours_130 : decode cX7_hours 130 = .ok (.ireturn, 1) := by decide +kernel
theorem dX7_hours_131 : decode cX7_hours 131 = .ok (.iinc 8 1, 3) := by decide +kernel
theorem dX7_hours_134 : decode cX7_hours 134 = .ok (.goto (-32), 3) := by decide +kernel
theorem dX7_hours_137 : decode cX7_hours 137 = .ok (.aload_n 0, 1) := by decide +kernel
theorem dX7_hours_138 : decode cX7_hours 138 = .ok (.iload 7, 2) := by decide +kernel
theorem dX7_hours_140 : decode cX7_hours 140 = .ok (.iload 5, 2) := by decide +kernel
theorem dX7_hours_142 : decode cX7_hours 142 = .ok (.invokevirtual 154, 3) := by decide +kernel
theorem dX7_hours_145 : decode cX7_hours 145 = .ok (.ireturn, 1) := by decide +kernel
set_option maxRecDepth 20000 in
theorem ggX7_tellHours_X7_isThing : GoodIn wsX7_tellHours wsX7_isThing := goodIn_r _ [10, 3, 35, 36, 37, 38, 39, 40, 41, 42, 43, 44, 45, 46, 47, 48, 49, 50, 51, 52, 53, 54, 55, 56, 57, 58, 59, 60, 61, 62, 63, 64] (by decide +kernel) (by decide +kernel)
set_option maxRecDepth 20000 in
theorem gX7_tellHours_X7_isThing : GoodIn wsX7_tellHours (wsV RX7 129 RX7 yX7_isThing wsX7_isThing) := goodIn_app (goodIn_of _ (by decide +kernel)) ggX7_tellHours_X7_isThing
set_option maxRecDepth 20000 in
theorem ggX7_tellHours_X7_drawerBy : GoodIn wsX7_tellHours wsX7_drawerBy := goodIn_r _ [14, 15, 16, 17, 18, 19, 9, 20, 5, 21, 22, 23, 24, 25, 26, 27, 28, 29, 30, 35, 36, 37, 38, 39, 40, 41, 42, 43, 44, 45, 46, 47, 48, 49, 50, 51, 52, 53, 54, 55, 56, 57, 58, 59, 60, 61, 62, 63, 64] (by decide +kernel) (by decide +kernel)
set_option maxRecDepth 20000 in
theorem gX7_tellHours_X7_drawerBy : GoodIn wsX7_tellHours (wsV RX7 157 RX7 yX7_drawerBy wsX7_drawerBy) := goodIn_app (goodIn_of _ (by decide +kernel)) ggX7_tellHours_X7_drawerBy
set_option maxRecDepth 20000 in
theorem ggX7_tellHours_X7_mostDrawn : GoodIn wsX7_tellHours wsX7_mostDrawn := goodIn_r _ [34, 2, 35, 36, 37, 38, 39, 40, 41, 42, 43, 44, 45, 46, 47, 48, 49, 50, 51, 52, 53, 54, 55, 56, 57, 58, 59, 60, 61, 62, 63, 64] (by decide +kernel) (by decide +kernel)
set_option maxRecDepth 20000 in
theorem gX7_tellHours_X7_mostDrawn : GoodIn wsX7_tellHours (wsV RX7 160 RX7 yX7_mostDrawn wsX7_mostDrawn) := goodIn_app (goodIn_of _ (by decide +kernel)) ggX7_tellHours_X7_mostDrawn
theorem dX7_tellHours_0 : decode cX7_tellHours 0 = .ok (.iload_n 2, 1) := by decide +kernel
theorem dX7_tellHours_1 : decode cX7_tellHours 1 = .ok (.bipush 10, 2) := by decide +kernel
theorem dX7_tellHours_3 : decode cX7_tellHours 3 = .ok (.if_icmp .lt 39, 3) := by decide +kernel
theorem dX7_tellHours_6 : decode cX7_tellHours 6 = .ok (.aload_n 0, 1) := by decide +kernel
theorem dX7_tellHours_7 : decode cX7_tellHours 7 = .ok (.iload_n 2, 1) := by decide +kernel
theorem dX7_tellHours_8 : decode cX7_tellHours 8 = .ok (.bipush 10, 2) := by decide +kernel
theorem dX7_tellHours_10 : decode cX7_tellHours 10 = .ok (.isub, 1) := by decide +kernel
theorem dX7_tellHours_11 : decode cX7_tellHours 11 = .ok (.invokevirtual 129, 3) := by decide +kernel
theorem dX7_tellHours_14 : decode cX7_tellHours 14 = .ok (.ifCond .eq 25, 3) := by decide +kernel
theorem dX7_tellHours_17 : decode cX7_tellHours 17 = .ok (.aload_n 0, 1) := by decide +kernel
theorem dX7_tellHours_18 : decode cX7_tellHours 18 = .ok (.iload_n 2, 1) := by decide +kernel
theorem dX7_tellHours_19 : decode cX7_tellHours 19 = .ok (.bipush 10, 2) := by decide +kernel
theorem dX7_tellHours_21 : decode cX7_tellHours 21 = .ok (.isub, 1) := by decide +kernel
theorem dX7_tellHours_22 : decode cX7_tellHours 22 = .ok (.aload_n 0, 1) := by decide +kernel
theorem dX7_tellHours_23 : decode cX7_tellHours 23 = .ok (.getfield 16, 3) := by decide +kernel
theorem dX7_tellHours_26 : decode cX7_tellHours 26 = .ok (.iload_n 1, 1) := by decide +kernel
theorem dX7_tellHours_27 : decode cX7_tellHours 27 = .ok (.iload_n 2, 1) := by decide +kernel
theorem dX7_tellHours_28 : decode cX7_tellHours 28 = .ok (.iadd, 1) := by decide +kernel
theorem dX7_tellHours_29 : decode cX7_tellHours 29 = .ok (.bipush 10, 2) := by decide +kernel
theorem dX7_tellHours_31 : decode cX7_tellHours 31 = .ok (.isub, 1) := by decide +kernel
theorem dX7_tellHours_32 : decode cX7_tellHours 32 = .ok (.iaload, 1) := by decide +kernel
theorem dX7_tellHours_33 : decode cX7_tellHours 33 = .ok (.invokevirtual 157, 3) := by decide +kernel
theorem dX7_tellHours_36 : decode cX7_tellHours 36 = .ok (.goto 5, 3) := by decide +kernel
theorem dX7_tellHours_39 : decode cX7_tellHours 39 = .ok (.bipush (-9), 2) := by decide +kernel
theorem dX7_tellHours_41 : decode cX7_tellHours 41 = .ok (.ireturn, 1) := by decide +kernel
theorem dX7_tellHours_42 : decode cX7_tellHours 42 = .ok (.iconst 0, 1) := by decide +kernel
theorem dX7_tellHours_43 : decode cX7_tellHours 43 = .ok (.istore_n 3, 1) := by decide +kernel
theorem dX7_tellHours_44 : decode cX7_tellHours 44 = .ok (.bipush (-9), 2) := by decide +kernel
theorem dX7_tellHours_46 : decode cX7_tellHours 46 = .ok (.istore 4, 2) := by decide +kernel
theorem dX7_tellHours_48 : decode cX7_tellHours 48 = .ok (.iconst 0, 1) := by decide +kernel
theorem dX7_tellHours_49 : decode cX7_tellHours 49 = .ok (.istore 5, 2) := by decide +kernel
theorem dX7_tellHours_51 : decode cX7_tellHours 51 = .ok (.iload 5, 2) := by decide +kernel
theorem dX7_tellHours_53 : decode cX7_tellHours 53 = .ok (.iconst 5, 1) := by decide +kernel
theorem dX7_tellHours_54 : decode cX7_tellHours 54 = .ok (.if_icmp .ge 17, 3) := by decide +kernel
theorem dX7_tellHours_57 : decode cX7_tellHours 57 = .ok (.aload_n 0, 1) := by decide +kernel
theorem dX7_tellHours_58 : decode cX7_tellHours 58 = .ok (.getfield 43, 3) := by decide +kernel
theorem dX7_tellHours_61 : decode cX7_tellHours 61 = .ok (.iload 5, 2) := by decide +kernel
theorem dX7_tellHours_63 : decode cX7_tellHours 63 = .ok (.iconst 0, 1) := by decide +kernel
theorem dX7_tellHours_64 : decode cX7_tellHours 64 = .ok (.iastore, 1) := by decide +kernel
theorem dX7_tellHours_65 : decode cX7_tellHours 65 = .ok (.iinc 5 1, 3) := by decide +kernel
theorem dX7_tellHours_68 : decode cX7_tellHours 68 = .ok (.goto (-17), 3) := by decide +kernel
theorem dX7_tellHours_71 : decode cX7_tellHours 71 = .ok (.iconst 0, 1) := by decide +kernel
theorem dX7_tellHours_72 : decode cX7_tellHours 72 = .ok (.istore 5, 2) := by decide +kernel
theorem dX7_tellHours_74 : decode cX7_tellHours 74 = .ok (.iload 5, 2) := by decide +kernel
theorem dX7_tellHours_76 : decode cX7_tellHours 76 = .ok (.aload_n 0, 1) := by decide +kernel
theorem dX7_tellHours_77 : decode cX7_tellHours 77 = .ok (.getfield 71, 3) := by decide +kernel
theorem dX7_tellHours_80 : decode cX7_tellHours 80 = .ok (.if_icmp .ge 87, 3) := by decide +kernel
theorem dX7_tellHours_83 : decode cX7_tellHours 83 = .ok (.aload_n 0, 1) := by decide +kernel
theorem dX7_tellHours_84 : decode cX7_tellHours 84 = .ok (.iload 5, 2) := by decide +kernel
theorem dX7_tellHours_86 : decode cX7_tellHours 86 = .ok (.aload_n 0, 1) := by decide +kernel
theorem dX7_tellHours_87 : decode cX7_tellHours 87 = .ok (.getfield 16, 3) := by decide +kernel
theorem dX7_tellHours_90 : decode cX7_tellHours 90 = .ok (.iload_n 1, 1) := by decide +kernel
theorem dX7_tellHours_91 : decode cX7_tellHours 91 = .ok (.iload 5, 2) := by decide +kernel
theorem dX7_tellHours_93 : decode cX7_tellHours 93 = .ok (.iadd, 1) := by decide +kernel
theorem dX7_tellHours_94 : decode cX7_tellHours 94 = .ok (.iaload, 1) := by decide +kernel
theorem dX7_tellHours_95 : decode cX7_tellHours 95 = .ok (.invokevirtual 157, 3) := by decide +kernel
theorem dX7_tellHours_98 : decode cX7_tellHours 98 = .ok (.istore 6, 2) := by decide +kernel
theorem dX7_tellHours_100 : decode cX7_tellHours 100 = .ok (.iload_n 3, 1) := by decide +kernel
theorem dX7_tellHours_101 : decode cX7_tellHours 101 = .ok (.iload 6, 2) := by decide +kernel
theorem dX7_tellHours_103 : decode cX7_tellHours 103 = .ok (.aload_n 0, 1) := by decide +kernel
theorem dX7_tellHours_104 : decode cX7_tellHours 104 = .ok (.getfield 31, 3) := by decide +kernel
theorem dX7_tellHours_107 : decode cX7_tellHours 107 = .ok (.iload 5, 2) := by decide +kernel
theorem dX7_tellHours_109 : decode cX7_tellHours 109 = .ok (.iaload, 1) := by decide +kernel
theorem dX7_tellHours_110 : decode cX7_tellHours 110 = .ok (.if_icmp .ne 10, 3) := by decide +kernel
theorem dX7_tellHours_113 : decode cX7_tellHours 113 = .ok (.iconst 1, 1) := by decide +kernel
theorem dX7_tellHours_114 : decode cX7_tellHours 114 = .ok (.iload 5, 2) := by decide +kernel
theorem dX7_tellHours_116 : decode cX7_tellHours 116 = .ok (.ishl, 1) := by decide +kernel
theorem dX7_tellHours_117 : decode cX7_tellHours 117 = .ok (.goto 4, 3) := by decide +kernel
theorem dX7_tellHours_120 : decode cX7_tellHours 120 = .ok (.iconst 0, 1) := by decide +kernel
theorem dX7_tellHours_121 : decode cX7_tellHours 121 = .ok (.ior, 1) := by decide +kernel
theorem dX7_tellHours_122 : decode cX7_tellHours 122 = .ok (.istore_n 3, 1) := by decide +kernel
theorem dX7_tellHours_123 : decode cX7_tellHours 123 = .ok (.aload_n 0, 1) := by decide +kernel
theorem dX7_tellHours_124 : decode cX7_tellHours 124 = .ok (.getfield 141, 3) := by decide +kernel
theorem dX7_tellHours_127 : decode cX7_tellHours 127 = .ok (.iload 4, 2) := by decide +kernel
theorem dX7_tellHours_129 : decode cX7_tellHours 129 = .ok (.if_icmp .le 10, 3) := by decide +kernel
theorem dX7_tellHours_132 : decode cX7_tellHours 132 = .ok (.aload_n 0, 1) := by decide +kernel
theorem dX7_tellHours_133 : decode cX7_tellHours 133 = .ok (.getfield 141, 3) := by decide +kernel
theorem dX7_tellHours_136 : decode cX7_tellHours 136 = .ok (.goto 5, 3) := by decide +kernel
theorem dX7_tellHours_139 : decode cX7_tellHours 139 = .ok (.iload 4, 2) := by decide +kernel
theorem dX7_tellHours_141 : decode cX7_tellHours 141 = .ok (.istore 4, 2) := by decide +kernel
theorem dX7_tellHours_143 : decode cX7_tellHours 143 = .ok (.iload 6, 2) := by decide +kernel
theorem dX7_tellHours_145 : decode cX7_tellHours 145 = .ok (.bipush (-9), 2) := by decide +kernel
theorem dX7_tellHours_147 : decode cX7_tellHours 147 = .ok (.if_icmp .eq 14, 3) := by decide +kernel
theorem dX7_tellHours_150 : decode cX7_tellHours 150 = .ok (.aload_n 0, 1) := by decide +kernel
theorem dX7_tellHours_151 : decode cX7_tellHours 151 = .ok (.getfield 43, 3) := by decide +kernel
theorem dX7_tellHours_154 : decode cX7_tellHours 154 = .ok (.iload 6, 2) := by decide +kernel
theorem dX7_tellHours_156 : decode cX7_tellHours 156 = .ok (.dup2, 1) := by decide +kernel
theorem dX7_tellHours_157 : decode cX7_tellHours 157 = .ok (.iaload, 1) := by decide +kernel
theorem dX7_tellHours_158 : decode cX7_tellHours 158 = .ok (.iconst 1, 1) := by decide +kernel
theorem dX7_tellHours_159 : decode cX7_tellHours 159 = .ok (.iadd, 1) := by decide +kernel
theorem dX7_tellHours_160 : decode cX7_tellHours 160 = .ok (.iastore, 1) := by decide +kernel
theorem dX7_tellHours_161 : decode cX7_tellHours 161 = .ok (.iinc 5 1, 3) := by decide +kernel
theorem dX7_tellHours_164 : decode cX7_tellHours 164 = .ok (.goto (-90), 3) := by decide +kernel
theorem dX7_tellHours_167 : decode cX7_tellHours 167 = .ok (.iload_n 2, 1) := by decide +kernel
theorem dX7_tellHours_168 : decode cX7_tellHours 168 = .ok (.ifCond .ne 7, 3) := by decide +kernel
theorem dX7_tellHours_171 : decode cX7_tellHours 171 = .ok (.iload_n 3, 1) := by decide +kernel
theorem dX7_tellHours_172 : decode cX7_tellHours 172 = .ok (.goto 17, 3) := by decide +kernel
theorem dX7_tellHours_175 : decode cX7_tellHours 175 = .ok (.iload_n 2, 1) := by decide +kernel
theorem dX7_tellHours_176 : decode cX7_tellHours 176 = .ok (.iconst 1, 1) := by decide +kernel
theorem dX7_tellHours_177 : decode cX7_tellHours 177 = .ok (.if_icmp .ne 8, 3) := by decide +kernel
theorem dX7_tellHours_180 : decode cX7_tellHours 180 = .ok (.iload 4, 2) := by decide +kernel
theorem dX7_tellHours_182 : decode cX7_tellHours 182 = .ok (.goto 7, 3) := by decide +kernel
theorem dX7_tellHours_185 : decode cX7_tellHours 185 = .ok (.aload_n 0, 1) := by decide +kernel
theorem dX7_tellHours_186 : decode cX7_tellHours 186 = .ok (.invokevirtual 160, 3) := by decide +kernel
theorem dX7_tellHours_189 : decode cX7_tellHours 189 = .ok (.ireturn, 1) := by decide +kernel
theorem dX7_mostDrawn_0 : decode cX7_mostDrawn 0 = .ok (.bipush (-9), 2) := by decide +kernel
theorem dX7_mostDrawn_2 : decode cX7_mostDrawn 2 = .ok (.istore_n 1, 1) := by decide +kernel
theorem dX7_mostDrawn_3 : decode cX7_mostDrawn 3 = .ok (.iconst 0, 1) := by decide +kernel
theorem dX7_mostDrawn_4 : decode cX7_mostDrawn 4 = .ok (.istore_n 2, 1) := by decide +kernel
theorem dX7_mostDrawn_5 : decode cX7_mostDrawn 5 = .ok (.iconst 0, 1) := by decide +kernel
theorem dX7_mostDrawn_6 : decode cX7_mostDrawn 6 = .ok (.istore_n 3, 1) := by decide +kernel
theorem dX7_mostDrawn_7 : decode cX7_mostDrawn 7 = .ok (.iload_n 3, 1) := by decide +kernel
theorem dX7_mostDrawn_8 : decode cX7_mostDrawn 8 = .ok (.iconst 5, 1) := by decide +kernel
theorem dX7_mostDrawn_9 : decode cX7_mostDrawn 9 = .ok (.if_icmp .ge 28, 3) := by decide +kernel
theorem dX7_mostDrawn_12 : decode cX7_mostDrawn 12 = .ok (.aload_n 0, 1) := by decide +kernel
theorem dX7_mostDrawn_13 : decode cX7_mostDrawn 13 = .ok (.getfield 43, 3) := by decide +kernel
theorem dX7_mostDrawn_16 : decode cX7_mostDrawn 16 = .ok (.iload_n 3, 1) := by decide +kernel
theorem dX7_mostDrawn_17 : decode cX7_mostDrawn 17 = .ok (.iaload, 1) := by decide +kernel
theorem dX7_mostDrawn_18 : decode cX7_mostDrawn 18 = .ok (.iload_n 2, 1) := by decide +kernel
theorem dX7_mostDrawn_19 : decode cX7_mostDrawn 19 = .ok (.if_icmp .le 12, 3) := by decide +kernel
theorem dX7_mostDrawn_22 : decode cX7_mostDrawn 22 = .ok (.iload_n 3, 1) := by decide +kernel
theorem dX7_mostDrawn_23 : decode cX7_mostDrawn 23 = .ok (.istore_n 1, 1) := by decide +kernel
theorem dX7_mostDrawn_24 : decode cX7_mostDrawn 24 = .ok (.aload_n 0, 1) := by decide +kernel
theorem dX7_mostDrawn_25 : decode cX7_mostDrawn 25 = .ok (.getfield 43, 3) := by decide +kernel
theorem dX7_mostDrawn_28 : decode cX7_mostDrawn 28 = .ok (.iload_n 3, 1) := by decide +kernel
theorem dX7_mostDrawn_29 : decode cX7_mostDrawn 29 = .ok (.iaload, 1) := by decide +kernel
theorem dX7_mostDrawn_30 : decode cX7_mostDrawn 30 = .ok (.istore_n 2, 1) := by decide +kernel
theorem dX7_mostDrawn_31 : decode cX7_mostDrawn 31 = .ok (.iinc 3 1, 3) := by decide +kernel
theorem dX7_mostDrawn_34 : decode cX7_mostDrawn 34 = .ok (.goto (-27), 3) := by decide +kernel
theorem dX7_mostDrawn_37 : decode cX7_mostDrawn 37 = .ok (.iload_n 1, 1) := by decide +kernel
theorem dX7_mostDrawn_38 : decode cX7_mostDrawn 38 = .ok (.ireturn, 1) := by decide +kernel
set_option maxRecDepth 20000 in
theorem ggX7_when_X7_isThing : GoodIn wsX7_when wsX7_isThing := goodIn_r _ [5, 6, 34, 35, 36, 37, 38, 39, 40, 41, 42, 43, 44, 45, 46, 47, 48, 49, 50, 51, 52, 53, 54, 55, 56, 57, 58, 59, 60, 61, 62, 63] (by decide +kernel) (by decide +kernel)
set_option maxRecDepth 20000 in
theorem gX7_when_X7_isThing : GoodIn wsX7_when (wsV RX7 129 RX7 yX7_isThing wsX7_isThing) := goodIn_app (goodIn_of _ (by decide +kernel)) ggX7_when_X7_isThing
set_option maxRecDepth 20000 in
theorem ggX7_when_X7_isDrawer : GoodIn wsX7_when wsX7_isDrawer := goodIn_r _ [9, 10, 11, 4, 12] (by decide +kernel) (by decide +kernel)
set_option maxRecDepth 20000 in
theorem gX7_when_X7_isDrawer : GoodIn wsX7_when (va_wsS RX7 135 yX7_isDrawer wsX7_isDrawer) := goodIn_app (goodIn_of _ (by decide +kernel)) ggX7_when_X7_isDrawer
set_option maxRecDepth 20000 in
theorem ggX7_when_X7_drawerBy : GoodIn wsX7_when wsX7_drawerBy := goodIn_r _ [16, 17, 18, 19, 20, 21, 4, 22, 23, 24, 25, 26, 27, 28, 29, 30, 31, 32, 33, 34, 35, 36, 37, 38, 39, 40, 41, 42, 43, 44, 45, 46, 47, 48, 49, 50, 51, 52, 53, 54, 55, 56, 57, 58, 59, 60, 61, 62, 63] (by decide +kernel) (by decide +kernel)
set_option maxRecDepth 20000 in
theorem gX7_when_X7_drawerBy : GoodIn wsX7_when (wsV RX7 157 RX7 yX7_drawerBy wsX7_drawerBy) := goodIn_app (goodIn_of _ (by decide +kernel)) ggX7_when_X7_drawerBy
theorem dX7_when_0 : decode cX7_when 0 = .ok (.aload_n 0, 1) := by decide +kernel
theorem dX7_when_1 : decode cX7_when 1 = .ok (.iload_n 1, 1) := by decide +kernel
theorem dX7_when_2 : decode cX7_when 2 = .ok (.invokevirtual 129, 3) := by decide +kernel
theorem dX7_when_5 : decode cX7_when 5 = .ok (.ifCond .eq 10, 3) := by decide +kernel
theorem dX7_when_8 : decode cX7_when 8 = .ok (.iload_n 2, 1) := by decide +kernel
theorem dX7_when_9 : decode cX7_when 9 = .ok (.invokestatic 135, 3) := by decide +kernel
theorem dX7_when_12 : decode cX7_when 12 = .ok (.ifCond .ne 5, 3) := by decide +kernel
theorem dX7_when_15 : decode cX7_when 15 = .ok (.iconst (-1), 1) := by decide +kernel
theorem dX7_when_16 : decode cX7_when 16 = .ok (.ireturn, 1) := by decide +kernel
theorem dX7_when_17 : decode cX7_when 17 = .ok (.iconst 0, 1) := by decide +kernel
theorem dX7_when_18 : decode cX7_when 18 = .ok (.istore_n 3, 1) := by decide +kernel
theorem dX7_when_19 : decode cX7_when 19 = .ok (.iload_n 3, 1) := by decide +kernel
theorem dX7_when_20 : decode cX7_when 20 = .ok (.bipush 23, 2) := by decide +kernel
theorem dX7_when_22 : decode cX7_when 22 = .ok (.if_icmp .gt 21, 3) := by decide +kernel
theorem dX7_when_25 : decode cX7_when 25 = .ok (.aload_n 0, 1) := by decide +kernel
theorem dX7_when_26 : decode cX7_when 26 = .ok (.iload_n 1, 1) := by decide +kernel
theorem dX7_when_27 : decode cX7_when 27 = .ok (.iload_n 3, 1) := by decide +kernel
theorem dX7_when_28 : decode cX7_when 28 = .ok (.invokevirtual 157, 3) := by decide +kernel
theorem dX7_when_31 : decode cX7_when 31 = .ok (.iload_n 2, 1) := by decide +kernel
theorem dX7_when_32 : decode cX7_when 32 = .ok (.if_icmp .ne 5, 3) := by decide +kernel
theorem dX7_when_35 : decode cX7_when 35 = .ok (.iload_n 3, 1) := by decide +kernel
theorem dX7_when_36 : decode cX7_when 36 = .ok (.ireturn, 1) := by decide +kernel
theorem dX7_when_37 : decode cX7_when 37 = .ok (.iinc 3 1, 3) := by decide +kernel
theorem dX7_when_40 : decode cX7_when 40 = .ok (.goto (-21), 3) := by decide +kernel
theorem dX7_when_43 : decode cX7_when 43 = .ok (.bipush (-9), 2) := by decide +kernel
theorem dX7_when_45 : decode cX7_when 45 = .ok (.ireturn, 1) := by decide +kernel
set_option maxRecDepth 20000 in
theorem ggX7_rightNow_X7_drawerBy : GoodIn wsX7_rightNow wsX7_drawerBy := goodIn_r _ [8, 9, 10, 11, 12, 13, 7, 14, 15, 16, 17, 18, 19, 20, 21, 22, 23, 24, 25, 26, 27, 28, 29, 30, 31, 32, 33, 34, 35, 36, 37, 38, 39, 40, 41, 42, 43, 44, 45, 46, 47, 48, 49, 50, 51, 52, 53, 54, 55] (by decide +kernel) (by decide +kernel)
set_option maxRecDepth 20000 in
theorem gX7_rightNow_X7_drawerBy : GoodIn wsX7_rightNow (wsV RX7 157 RX7 yX7_drawerBy wsX7_drawerBy) := goodIn_app (goodIn_of _ (by decide +kernel)) ggX7_rightNow_X7_drawerBy
theorem dX7_rightNow_0 : decode cX7_rightNow 0 = .ok (.iconst 0, 1) := by decide +kernel
theorem dX7_rightNow_1 : decode cX7_rightNow 1 = .ok (.istore_n 1, 1) := by decide +kernel
theorem dX7_rightNow_2 : decode cX7_rightNow 2 = .ok (.iconst 0, 1) := by decide +kernel
theorem dX7_rightNow_3 : decode cX7_rightNow 3 = .ok (.istore_n 2, 1) := by decide +kernel
theorem dX7_rightNow_4 : decode cX7_rightNow 4 = .ok (.iload_n 2, 1) := by decide +kernel
theorem dX7_rightNow_5 : decode cX7_rightNow 5 = .ok (.aload_n 0, 1) := by decide +kernel
theorem dX7_rightNow_6 : decode cX7_rightNow 6 = .ok (.getfield 71, 3) := by decide +kernel
theorem dX7_rightNow_9 : decode cX7_rightNow 9 = .ok (.if_icmp .ge 37, 3) := by decide +kernel
theorem dX7_rightNow_12 : decode cX7_rightNow 12 = .ok (.iload_n 1, 1) := by decide +kernel
theorem dX7_rightNow_13 : decode cX7_rightNow 13 = .ok (.aload_n 0, 1) := by decide +kernel
theorem dX7_rightNow_14 : decode cX7_rightNow 14 = .ok (.iload_n 2, 1) := by decide +kernel
theorem dX7_rightNow_15 : decode cX7_rightNow 15 = .ok (.aload_n 0, 1) := by decide +kernel
theorem dX7_rightNow_16 : decode cX7_rightNow 16 = .ok (.getfield 34, 3) := by decide +kernel
theorem dX7_rightNow_19 : decode cX7_rightNow 19 = .ok (.iload_n 2, 1) := by decide +kernel
theorem dX7_rightNow_20 : decode cX7_rightNow 20 = .ok (.iaload, 1) := by decide +kernel
theorem dX7_rightNow_21 : decode cX7_rightNow 21 = .ok (.invokevirtual 157, 3) := by decide +kernel
theorem dX7_rightNow_24 : decode cX7_rightNow 24 = .ok (.aload_n 0, 1) := by decide +kernel
theorem dX7_rightNow_25 : decode cX7_rightNow 25 = .ok (.getfield 31, 3) := by decide +kernel
theorem dX7_rightNow_28 : decode cX7_rightNow 28 = .ok (.iload_n 2, 1) := by decide +kernel
theorem dX7_rightNow_29 : decode cX7_rightNow 29 = .ok (.iaload, 1) := by decide +kernel
theorem dX7_rightNow_30 : decode cX7_rightNow 30 = .ok (.if_icmp .ne 7, 3) := by decide +kernel
theorem dX7_rightNow_33 : decode cX7_rightNow 33 = .ok (.iconst 1, 1) := by decide +kernel
theorem dX7_rightNow_34 : decode cX7_rightNow 34 = .ok (.goto 4, 3) := by decide +kernel
theorem dX7_rightNow_37 : decode cX7_rightNow 37 = .ok (.iconst 0, 1) := by decide +kernel
theorem dX7_rightNow_38 : decode cX7_rightNow 38 = .ok (.iadd, 1) := by decide +kernel
theorem dX7_rightNow_39 : decode cX7_rightNow 39 = .ok (.istore_n 1, 1) := by decide +kernel
theorem dX7_rightNow_40 : decode cX7_rightNow 40 = .ok (.iinc 2 1, 3) := by decide +kernel
theorem dX7_rightNow_43 : decode cX7_rightNow 43 = .ok (.goto (-39), 3) := by decide +kernel
theorem dX7_rightNow_46 : decode cX7_rightNow 46 = .ok (.iload_n 1, 1) := by decide +kernel
theorem dX7_rightNow_47 : decode cX7_rightNow 47 = .ok (.ireturn, 1) := by decide +kernel
theorem dX7_isOrder_0 : decode cX7_isOrder 0 = .ok (.iconst 0, 1) := by decide +kernel
theorem dX7_isOrder_1 : decode cX7_isOrder 1 = .ok (.istore_n 1, 1) := by decide +kernel
theorem dX7_isOrder_2 : decode cX7_isOrder 2 = .ok (.iload_n 1, 1) := by decide +kernel
theorem dX7_isOrder_3 : decode cX7_isOrder 3 = .ok (.iconst 5, 1) := by decide +kernel
theorem dX7_isOrder_4 : decode cX7_isOrder 4 = .ok (.if_icmp .ge 67, 3) := by decide +kernel
theorem dX7_isOrder_7 : decode cX7_isOrder 7 = .ok (.iconst 0, 1) := by decide +kernel
theorem dX7_isOrder_8 : decode cX7_isOrder 8 = .ok (.istore_n 2, 1) := by decide +kernel
theorem dX7_isOrder_9 : decode cX7_isOrder 9 = .ok (.iconst 0, 1) := by decide +kernel
theorem dX7_isOrder_10 : decode cX7_isOrder 10 = .ok (.istore_n 3, 1) := by decide +kernel
theorem dX7_isOrder_11 : decode cX7_isOrder 11 = .ok (.iload_n 3, 1) := by decide +kernel
theorem dX7_isOrder_12 : decode cX7_isOrder 12 = .ok (.aload_n 0, 1) := by decide +kernel
theorem dX7_isOrder_13 : decode cX7_isOrder 13 = .ok (.getfield 107, 3) := by decide +kernel
theorem dX7_isOrder_16 : decode cX7_isOrder 16 = .ok (.if_icmp .ge 43, 3) := by decide +kernel
theorem dX7_isOrder_19 : decode cX7_isOrder 19 = .ok (.iload_n 2, 1) := by decide +kernel
theorem dX7_isOrder_20 : decode cX7_isOrder 20 = .ok (.aload_n 0, 1) := by decide +kernel
theorem dX7_isOrder_21 : decode cX7_isOrder 21 = .ok (.getfield 19, 3) := by decide +kernel
theorem dX7_isOrder_24 : decode cX7_isOrder 24 = .ok (.iload_n 3, 1) := by decide +kernel
theorem dX7_isOrder_25 : decode cX7_isOrder 25 = .ok (.iaload, 1) := by decide +kernel
theorem dX7_isOrder_26 : decode cX7_isOrder 26 = .ok (.iload_n 1, 1) := by decide +kernel
theorem dX7_isOrder_27 : decode cX7_isOrder 27 = .ok (.if_icmp .ne 7, 3) := by decide +kernel
theorem dX7_isOrder_30 : decode cX7_isOrder 30 = .ok (.iconst 1, 1) := by decide +kernel
theorem dX7_isOrder_31 : decode cX7_isOrder 31 = .ok (.goto 4, 3) := by decide +kernel
theorem dX7_isOrder_34 : decode cX7_isOrder 34 = .ok (.iconst 0, 1) := by decide +kernel
theorem dX7_isOrder_35 : decode cX7_isOrder 35 = .ok (.aload_n 0, 1) := by decide +kernel
theorem dX7_isOrder_36 : decode cX7_isOrder 36 = .ok (.getfield 46, 3) := by decide +kernel
theorem dX7_isOrder_39 : decode cX7_isOrder 39 = .ok (.iload_n 3, 1) := by decide +kernel
theorem dX7_isOrder_40 : decode cX7_isOrder 40 = .ok (.iaload, 1) := by decide +kernel
theorem dX7_isOrder_41 : decode cX7_isOrder 41 = .ok (.iload_n 1, 1) := by decide +kernel
theorem dX7_isOrder_42 : decode cX7_isOrder 42 = .ok (.if_icmp .ne 7, 3) := by decide +kernel
theorem dX7_isOrder_45 : decode cX7_isOrder 45 = .ok (.iconst 1, 1) := by decide +kernel
theorem dX7_isOrder_46 : decode cX7_isOrder 46 = .ok (.goto 4, 3) := by decide +kernel
theorem dX7_isOrder_49 : decode cX7_isOrder 49 = .ok (.iconst 0, 1) := by decide +kernel
theorem dX7_isOrder_50 : decode cX7_isOrder 50 = .ok (.isub, 1) := by decide +kernel
theorem dX7_isOrder_51 : decode cX7_isOrder 51 = .ok (.iadd, 1) := by decide +kernel
theorem dX7_isOrder_52 : decode cX7_isOrder 52 = .ok (.istore_n 2, 1) := by decide +kernel
theorem dX7_isOrder_53 : decode cX7_isOrder 53 = .ok (.iinc 3 1, 3) := by decide +kernel
theorem dX7_isOrder_56 : decode cX7_isOrder 56 = .ok (.goto (-45), 3) := by decide +kernel
theorem dX7_isOrder_59 : decode cX7_isOrder 59 = .ok (.iload_n 2, 1) := by decide +kernel
theorem dX7_isOrder_60 : decode cX7_isOrder 60 = .ok (.ifCond .eq 5, 3) := by decide +kernel
theorem dX7_isOrder_63 : decode cX7_isOrder 63 = .ok (.iconst 0, 1) := by decide +kernel
theorem dX7_isOrder_64 : decode cX7_isOrder 64 = .ok (.ireturn, 1) := by decide +kernel
theorem dX7_isOrder_65 : decode cX7_isOrder 65 = .ok (.iinc 1 1, 3) := by decide +kernel
theorem dX7_isOrder_68 : decode cX7_isOrder 68 = .ok (.goto (-66), 3) := by decide +kernel
theorem dX7_isOrder_71 : decode cX7_isOrder 71 = .ok (.iconst 1, 1) := by decide +kernel
theorem dX7_isOrder_72 : decode cX7_isOrder 72 = .ok (.ireturn, 1) := by decide +kernel
set_option maxRecDepth 20000 in
theorem ggX7_findBest_X7_isOrder : GoodIn wsX7_findBest wsX7_isOrder := goodIn_r _ [9, 1, 3, 2, 36, 37, 38, 39, 40, 41, 42, 43, 44, 45, 46, 47, 48, 49, 50, 51, 52, 53, 54, 55, 56, 57, 58, 59, 60, 61, 62, 63, 64, 65] (by decide +kernel) (by decide +kernel)
set_option maxRecDepth 20000 in
theorem gX7_findBest_X7_isOrder : GoodIn wsX7_findBest (wsV RX7 164 RX7 yX7_isOrder wsX7_isOrder) := goodIn_app (goodIn_of _ (by decide +kernel)) ggX7_findBest_X7_isOrder
set_option maxRecDepth 20000 in
theorem ggX7_findBest_X7_rightNow : GoodIn wsX7_findBest wsX7_rightNow := goodIn_r _ [13, 14, 15, 16, 17, 18, 19, 8, 20, 21, 22, 23, 24, 25, 26, 27, 28, 3, 1, 29, 30, 31, 32, 33, 34, 35, 36, 37, 38, 39, 40, 41, 42, 43, 44, 45, 46, 47, 48, 49, 50, 51, 52, 53, 54, 55, 56, 57, 58, 59, 60, 61, 62, 63, 64, 65] (by decide +kernel) (by decide +kernel)
set_option maxRecDepth 20000 in
theorem gX7_findBest_X7_rightNow : GoodIn wsX7_findBest (wsV RX7 168 RX7 yX7_rightNow wsX7_rightNow) := goodIn_app (goodIn_of _ (by decide +kernel)) ggX7_findBest_X7_rightNow
theorem dX7_findBest_0 : decode cX7_findBest 0 = .ok (.iconst 1, 1) := by decide +kernel
theorem dX7_findBest_1 : decode cX7_findBest 1 = .ok (.istore_n 1, 1) := by decide +kernel
theorem dX7_findBest_2 : decode cX7_findBest 2 = .ok (.iconst 0, 1) := by decide +kernel
theorem dX7_findBest_3 : decode cX7_findBest 3 = .ok (.istore_n 2, 1) := by decide +kernel
theorem dX7_findBest_4 : decode cX7_findBest 4 = .ok (.iload_n 2, 1) := by decide +kernel
theorem dX7_findBest_5 : decode cX7_findBest 5 = .ok (.aload_n 0, 1) := by decide +kernel
theorem dX7_findBest_6 : decode cX7_findBest 6 = .ok (.getfield 107, 3) := by decide +kernel
theorem dX7_findBest_9 : decode cX7_findBest 9 = .ok (.if_icmp .ge 25, 3) := by decide +kernel
theorem dX7_findBest_12 : decode cX7_findBest 12 = .ok (.aload_n 0, 1) := by decide +kernel
theorem dX7_findBest_13 : decode cX7_findBest 13 = .ok (.getfield 46, 3) := by decide +kernel
theorem dX7_findBest_16 : decode cX7_findBest 16 = .ok (.iload_n 2, 1) := by decide +kernel
theorem dX7_findBest_17 : decode cX7_findBest 17 = .ok (.aload_n 0, 1) := by decide +kernel
theorem dX7_findBest_18 : decode cX7_findBest 18 = .ok (.getfield 19, 3) := by decide +kernel
theorem dX7_findBest_21 : decode cX7_findBest 21 = .ok (.iload_n 2, 1) := by decide +kernel
theorem dX7_findBest_22 : decode cX7_findBest 22 = .ok (.iaload, 1) := by decide +kernel
theorem dX7_findBest_23 : decode cX7_findBest 23 = .ok (.iastore, 1) := by decide +kernel
theorem dX7_findBest_24 : decode cX7_findBest 24 = .ok (.iload_n 1, 1) := by decide +kernel
theorem dX7_findBest_25 : decode cX7_findBest 25 = .ok (.iconst 5, 1) := by decide +kernel
theorem dX7_findBest_26 : decode cX7_findBest 26 = .ok (.imul, 1) := by decide +kernel
theorem dX7_findBest_27 : decode cX7_findBest 27 = .ok (.istore_n 1, 1) := by decide +kernel
theorem dX7_findBest_28 : decode cX7_findBest 28 = .ok (.iinc 2 1, 3) := by decide +kernel
theorem dX7_findBest_31 : decode cX7_findBest 31 = .ok (.goto (-27), 3) := by decide +kernel
theorem dX7_findBest_34 : decode cX7_findBest 34 = .ok (.bipush (-9), 2) := by decide +kernel
theorem dX7_findBest_36 : decode cX7_findBest 36 = .ok (.istore_n 2, 1) := by decide +kernel
theorem dX7_findBest_37 : decode cX7_findBest 37 = .ok (.iconst 0, 1) := by decide +kernel
theorem dX7_findBest_38 : decode cX7_findBest 38 = .ok (.istore_n 3, 1) := by decide +kernel
theorem dX7_findBest_39 : decode cX7_findBest 39 = .ok (.iload_n 3, 1) := by decide +kernel
theorem dX7_findBest_40 : decode cX7_findBest 40 = .ok (.iload_n 1, 1) := by decide +kernel
theorem dX7_findBest_41 : decode cX7_findBest 41 = .ok (.if_icmp .ge 107, 3) := by decide +kernel
theorem dX7_findBest_44 : decode cX7_findBest 44 = .ok (.iload_n 3, 1) := by decide +kernel
theorem dX7_findBest_45 : decode cX7_findBest 45 = .ok (.istore 4, 2) := by decide +kernel
theorem dX7_findBest_47 : decode cX7_findBest 47 = .ok (.aload_n 0, 1) := by decide +kernel
theorem dX7_findBest_48 : decode cX7_findBest 48 = .ok (.getfield 107, 3) := by decide +kernel
theorem dX7_findBest_51 : decode cX7_findBest 51 = .ok (.iconst 1, 1) := by decide +kernel
theorem dX7_findBest_52 : decode cX7_findBest 52 = .ok (.isub, 1) := by decide +kernel
theorem dX7_findBest_53 : decode cX7_findBest 53 = .ok (.istore 5, 2) := by decide +kernel
theorem dX7_findBest_55 : decode cX7_findBest 55 = .ok (.iload 5, 2) := by decide +kernel
theorem dX7_findBest_57 : decode cX7_findBest 57 = .ok (.ifCond .lt 26, 3) := by decide +kernel
theorem dX7_findBest_60 : decode cX7_findBest 60 = .ok (.aload_n 0, 1) := by decide +kernel
theorem dX7_findBest_61 : decode cX7_findBest 61 = .ok (.getfield 19, 3) := by decide +kernel
theorem dX7_findBest_64 : decode cX7_findBest 64 = .ok (.iload 5, 2) := by decide +kernel
theorem dX7_findBest_66 : decode cX7_findBest 66 = .ok (.iload 4, 2) := by decide +kernel
theorem dX7_findBest_68 : decode cX7_findBest 68 = .ok (.iconst 5, 1) := by decide +kernel
theorem dX7_findBest_69 : decode cX7_findBest 69 = .ok (.irem, 1) := by decide +kernel
theorem dX7_findBest_70 : decode cX7_findBest 70 = .ok (.iastore, 1) := by decide +kernel
theorem dX7_findBest_71 : decode cX7_findBest 71 = .ok (.iload 4, 2) := by decide +kernel
theorem dX7_findBest_73 : decode cX7_findBest 73 = .ok (.iconst 5, 1) := by decide +kernel
theorem dX7_findBest_74 : decode cX7_findBest 74 = .ok (.idiv, 1) := by decide +kernel
theorem dX7_findBest_75 : decode cX7_findBest 75 = .ok (.istore 4, 2) := by decide +kernel
theorem dX7_findBest_77 : decode cX7_findBest 77 = .ok (.iinc 5 (-1), 3) := by decide +kernel
theorem dX7_findBest_80 : decode cX7_findBest 80 = .ok (.goto (-25), 3) := by decide +kernel
theorem dX7_findBest_83 : decode cX7_findBest 83 = .ok (.aload_n 0, 1) := by decide +kernel
theorem dX7_findBest_84 : decode cX7_findBest 84 = .ok (.invokevirtual 164, 3) := by decide +kernel
theorem dX7_findBest_87 : decode cX7_findBest 87 = .ok (.ifCond .eq 10, 3) := by decide +kernel
theorem dX7_findBest_90 : decode cX7_findBest 90 = .ok (.aload_n 0, 1) := by decide +kernel
theorem dX7_findBest_91 : decode cX7_findBest 91 = .ok (.invokevirtual 168, 3) := by decide +kernel
theorem dX7_findBest_94 : decode cX7_findBest 94 = .ok (.goto 5, 3) := by decide +kernel
theorem dX7_findBest_97 : decode cX7_findBest 97 = .ok (.bipush (-9), 2) := by decide +kernel
theorem dX7_findBest_99 : decode cX7_findBest 99 = .ok (.istore 5, 2) := by decide +kernel
theorem dX7_findBest_101 : decode cX7_findBest 101 = .ok (.iload 5, 2) := by decide +kernel
theorem dX7_findBest_103 : decode cX7_findBest 103 = .ok (.iload_n 2, 1) := by decide +kernel
theorem dX7_findBest_104 : decode cX7_findBest 104 = .ok (.if_icmp .le 38, 3) := by decide +kernel
theorem dX7_findBest_107 : decode cX7_findBest 107 = .ok (.iload 5, 2) := by decide +kernel
theorem dX7_findBest_109 : decode cX7_findBest 109 = .ok (.istore_n 2, 1) := by decide +kernel
theorem dX7_findBest_110 : decode cX7_findBest 110 = .ok (.iconst 0, 1) := by decide +kernel
theorem dX7_findBest_111 : decode cX7_findBest 111 = .ok (.istore 6, 2) := by decide +kernel
theorem dX7_findBest_113 : decode cX7_findBest 113 = .ok (.iload 6, 2) := by decide +kernel
theorem dX7_findBest_115 : decode cX7_findBest 115 = .ok (.aload_n 0, 1) := by decide +kernel
theorem dX7_findBest_116 : decode cX7_findBest 116 = .ok (.getfield 107, 3) := by decide +kernel
theorem dX7_findBest_119 : decode cX7_findBest 119 = .ok (.if_icmp .ge 23, 3) := by decide +kernel
theorem dX7_findBest_122 : decode cX7_findBest 122 = .ok (.aload_n 0, 1) := by decide +kernel
theorem dX7_findBest_123 : decode cX7_findBest 123 = .ok (.getfield 49, 3) := by decide +kernel
theorem dX7_findBest_126 : decode cX7_findBest 126 = .ok (.iload 6, 2) := by decide +kernel
theorem dX7_findBest_128 : decode cX7_findBest 128 = .ok (.aload_n 0, 1) := by decide +kernel
theorem dX7_findBest_129 : decode cX7_findBest 129 = .ok (.getfield 19, 3) := by decide +kernel
theorem dX7_findBest_132 : decode cX7_findBest 132 = .ok (.iload 6, 2) := by decide +kernel
theorem dX7_findBest_134 : decode cX7_findBest 134 = .ok (.iaload, 1) := by decide +kernel
theorem dX7_findBest_135 : decode cX7_findBest 135 = .ok (.iastore, 1) := by decide +kernel
theorem dX7_findBest_136 : decode cX7_findBest 136 = .ok (.iinc 6 1, 3) := by decide +kernel
theorem dX7_findBest_139 : decode cX7_findBest 139 = .ok (.goto (-26), 3) := by decide +kernel
theorem dX7_findBest_142 : decode cX7_findBest 142 = .ok (.iinc 3 1, 3) := by decide +kernel
theorem dX7_findBest_145 : decode cX7_findBest 145 = .ok (.goto (-106), 3) := by decide +kernel
theorem dX7_findBest_148 : decode cX7_findBest 148 = .ok (.iconst 0, 1) := by decide +kernel
theorem dX7_findBest_149 : decode cX7_findBest 149 = .ok (.istore_n 3, 1) := by decide +kernel
theorem dX7_findBest_150 : decode cX7_findBest 150 = .ok (.iload_n 3, 1) := by decide +kernel
theorem dX7_findBest_151 : decode cX7_findBest 151 = .ok (.aload_n 0, 1) := by decide +kernel
theorem dX7_findBest_152 : decode cX7_findBest 152 = .ok (.getfield 107, 3) := by decide +kernel
theorem dX7_findBest_155 : decode cX7_findBest 155 = .ok (.if_icmp .ge 21, 3) := by decide +kernel
theorem dX7_findBest_158 : decode cX7_findBest 158 = .ok (.aload_n 0, 1) := by decide +kernel
theorem dX7_findBest_159 : decode cX7_findBest 159 = .ok (.getfield 19, 3) := by decide +kernel
theorem dX7_findBest_162 : decode cX7_findBest 162 = .ok (.iload_n 3, 1) := by decide +kernel
theorem dX7_findBest_163 : decode cX7_findBest 163 = .ok (.aload_n 0, 1) := by decide +kernel
theorem dX7_findBest_164 : decode cX7_findBest 164 = .ok (.getfield 46, 3) := by decide +kernel
theorem dX7_findBest_167 : decode cX7_findBest 167 = .ok (.iload_n 3, 1) := by decide +kernel
theorem dX7_findBest_168 : decode cX7_findBest 168 = .ok (.iaload, 1) := by decide +kernel
theorem dX7_findBest_169 : decode cX7_findBest 169 = .ok (.iastore, 1) := by decide +kernel
theorem dX7_findBest_170 : decode cX7_findBest 170 = .ok (.iinc 3 1, 3) := by decide +kernel
theorem dX7_findBest_173 : decode cX7_findBest 173 = .ok (.goto (-23), 3) := by decide +kernel
theorem dX7_findBest_176 : decode cX7_findBest 176 = .ok (.iload_n 2, 1) := by decide +kernel
theorem dX7_findBest_177 : decode cX7_findBest 177 = .ok (.ireturn, 1) := by decide +kernel
set_option maxRecDepth 20000 in
theorem ggX7_best_X7_within : GoodIn wsX7_best wsX7_within := goodIn_r _ [6] (by decide +kernel) (by decide +kernel)
set_option maxRecDepth 20000 in
theorem gX7_best_X7_within : GoodIn wsX7_best (va_wsS RX7 67 yX7_within wsX7_within) := goodIn_app (goodIn_of _ (by decide +kernel)) ggX7_best_X7_within
set_option maxRecDepth 20000 in
theorem ggX7_best_X7_findBest : GoodIn wsX7_best wsX7_findBest := goodIn_r _ [10, 1, 11, 12, 2, 13, 14, 15, 5, 16, 17, 18, 19, 20, 21, 22, 23, 24, 25, 26, 27, 28, 29, 30, 31, 32, 33, 34, 35, 36, 37, 38, 39, 40, 41, 42, 43, 44, 45, 46, 47, 48, 49, 50, 51, 52, 53, 54, 55, 56, 57, 58, 59, 60, 61, 62, 63, 64, 65, 66, 67, 68, 69, 70, 71, 72] (by decide +kernel) (by decide +kernel)
set_option maxRecDepth 20000 in
theorem gX7_best_X7_findBest : GoodIn wsX7_best (wsV RX7 171 RX7 yX7_findBest wsX7_findBest) := goodIn_app (goodIn_of _ (by decide +kernel)) ggX7_best_X7_findBest
theorem dX7_best_0 : decode cX7_best 0 = .ok (.aload_n 0, 1) := by decide +kernel
theorem dX7_best_1 : decode cX7_best 1 = .ok (.getfield 107, 3) := by decide +kernel
theorem dX7_best_4 : decode cX7_best 4 = .ok (.ifCond .ne 6, 3) := by decide +kernel
theorem dX7_best_7 : decode cX7_best 7 = .ok (.bipush (-3), 2) := by decide +kernel
theorem dX7_best_9 : decode cX7_best 9 = .ok (.ireturn, 1) := by decide +kernel
theorem dX7_best_10 : decode cX7_best 10 = .ok (.iload_n 1, 1) := by decide +kernel
theorem dX7_best_11 : decode cX7_best 11 = .ok (.iconst (-1), 1) := by decide +kernel
theorem dX7_best_12 : decode cX7_best 12 = .ok (.iconst 5, 1) := by decide +kernel
theorem dX7_best_13 : decode cX7_best 13 = .ok (.invokestatic 67, 3) := by decide +kernel
theorem dX7_best_16 : decode cX7_best 16 = .ok (.ifCond .ne 6, 3) := by decide +kernel
theorem dX7_best_19 : decode cX7_best 19 = .ok (.bipush (-2), 2) := by decide +kernel
theorem dX7_best_21 : decode cX7_best 21 = .ok (.ireturn, 1) := by decide +kernel
theorem dX7_best_22 : decode cX7_best 22 = .ok (.aload_n 0, 1) := by decide +kernel
theorem dX7_best_23 : decode cX7_best 23 = .ok (.invokevirtual 171, 3) := by decide +kernel
theorem dX7_best_26 : decode cX7_best 26 = .ok (.istore_n 2, 1) := by decide +kernel
theorem dX7_best_27 : decode cX7_best 27 = .ok (.iload_n 1, 1) := by decide +kernel
theorem dX7_best_28 : decode cX7_best 28 = .ok (.iconst (-1), 1) := by decide +kernel
theorem dX7_best_29 : decode cX7_best 29 = .ok (.if_icmp .ne 7, 3) := by decide +kernel
theorem dX7_best_32 : decode cX7_best 32 = .ok (.iload_n 2, 1) := by decide +kernel
theorem dX7_best_33 : decode cX7_best 33 = .ok (.goto 22, 3) := by decide +kernel
theorem dX7_best_36 : decode cX7_best 36 = .ok (.iload_n 1, 1) := by decide +kernel
theorem dX7_best_37 : decode cX7_best 37 = .ok (.aload_n 0, 1) := by decide +kernel
theorem dX7_best_38 : decode cX7_best 38 = .ok (.getfield 107, 3) := by decide +kernel
theorem dX7_best_41 : decode cX7_best 41 = .ok (.if_icmp .ge 12, 3) := by decide +kernel
theorem dX7_best_44 : decode cX7_best 44 = .ok (.aload_n 0, 1) := by decide +kernel
theorem dX7_best_45 : decode cX7_best 45 = .ok (.getfield 49, 3) := by decide +kernel
theorem dX7_best_48 : decode cX7_best 48 = .ok (.iload_n 1, 1) := by decide +kernel
theorem dX7_best_49 : decode cX7_best 49 = .ok (.iaload, 1) := by decide +kernel
theorem dX7_best_50 : decode cX7_best 50 = .ok (.goto 5, 3) := by decide +kernel
theorem dX7_best_53 : decode cX7_best 53 = .ok (.bipush (-9), 2) := by decide +kernel
theorem dX7_best_55 : decode cX7_best 55 = .ok (.ireturn, 1) := by decide +kernel
set_option maxRecDepth 20000 in
theorem ggX7_reading_X7_isThing : GoodIn wsX7_reading wsX7_isThing := goodIn_r _ [9, 10, 17, 18, 19, 20, 21, 22, 23, 24, 25, 26, 27, 28, 29, 30, 31, 32, 33, 34, 35, 36, 37, 38, 39, 40, 41, 42, 43, 44, 45, 46] (by decide +kernel) (by decide +kernel)
set_option maxRecDepth 20000 in
theorem gX7_reading_X7_isThing : GoodIn wsX7_reading (wsV RX7 129 RX7 yX7_isThing wsX7_isThing) := goodIn_app (goodIn_of _ (by decide +kernel)) ggX7_reading_X7_isThing
set_option maxRecDepth 20000 in
theorem ggX7_reading_X7_isDrawer : GoodIn wsX7_reading wsX7_isDrawer := goodIn_r _ [13, 14, 15, 8, 16] (by decide +kernel) (by decide +kernel)
set_option maxRecDepth 20000 in
theorem gX7_reading_X7_isDrawer : GoodIn wsX7_reading (va_wsS RX7 135 yX7_isDrawer wsX7_isDrawer) := goodIn_app (goodIn_of _ (by decide +kernel)) ggX7_reading_X7_isDrawer
set_option maxRecDepth 20000 in
theorem ggX7_reading_X7_within : GoodIn wsX7_reading wsX7_within := goodIn_r _ [16] (by decide +kernel) (by decide +kernel)
set_option maxRecDepth 20000 in
theorem gX7_reading_X7_within : GoodIn wsX7_reading (va_wsS RX7 67 yX7_within wsX7_within) := goodIn_app (goodIn_of _ (by decide +kernel)) ggX7_reading_X7_within
theorem dX7_reading_0 : decode cX7_reading 0 = .ok (.aload_n 0, 1) := by decide +kernel
theorem dX7_reading_1 : decode cX7_reading 1 = .ok (.iload_n 1, 1) := by decide +kernel
theorem dX7_reading_2 : decode cX7_reading 2 = .ok (.invokevirtual 129, 3) := by decide +kernel
theorem dX7_reading_5 : decode cX7_reading 5 = .ok (.ifCond .eq 16, 3) := by decide +kernel
theorem dX7_reading_8 : decode cX7_reading 8 = .ok (.iload_n 3, 1) := by decide +kernel
theorem dX7_reading_9 : decode cX7_reading 9 = .ok (.bipush (-9), 2) := by decide +kernel
theorem dX7_reading_11 : decode cX7_reading 11 = .ok (.if_icmp .eq 12, 3) := by decide +kernel
theorem dX7_reading_14 : decode cX7_reading 14 = .ok (.iload_n 3, 1) := by decide +kernel
theorem dX7_reading_15 : decode cX7_reading 15 = .ok (.invokestatic 135, 3) := by decide +kernel
theorem dX7_reading_18 : decode cX7_reading 18 = .ok (.ifCond .ne 5, 3) := by decide +kernel
theorem dX7_reading_21 : decode cX7_reading 21 = .ok (.iconst (-1), 1) := by decide +kernel
theorem dX7_reading_22 : decode cX7_reading 22 = .ok (.ireturn, 1) := by decide +kernel
theorem dX7_reading_23 : decode cX7_reading 23 = .ok (.iload_n 2, 1) := by decide +kernel
theorem dX7_reading_24 : decode cX7_reading 24 = .ok (.iconst 0, 1) := by decide +kernel
theorem dX7_reading_25 : decode cX7_reading 25 = .ok (.bipush 23, 2) := by decide +kernel
theorem dX7_reading_27 : decode cX7_reading 27 = .ok (.invokestatic 67, 3) := by decide +kernel
theorem dX7_reading_30 : decode cX7_reading 30 = .ok (.ifCond .ne 6, 3) := by decide +kernel
theorem dX7_reading_33 : decode cX7_reading 33 = .ok (.bipush (-2), 2) := by decide +kernel
theorem dX7_reading_35 : decode cX7_reading 35 = .ok (.ireturn, 1) := by decide +kernel
theorem dX7_reading_36 : decode cX7_reading 36 = .ok (.aload_n 0, 1) := by decide +kernel
theorem dX7_reading_37 : decode cX7_reading 37 = .ok (.getfield 113, 3) := by decide +kernel
theorem dX7_reading_40 : decode cX7_reading 40 = .ok (.bipush 8, 2) := by decide +kernel
theorem dX7_reading_42 : decode cX7_reading 42 = .ok (.if_icmp .ne 6, 3) := by decide +kernel
theorem dX7_reading_45 : decode cX7_reading 45 = .ok (.bipush (-4), 2) := by decide +kernel
theorem dX7_reading_47 : decode cX7_reading 47 = .ok (.ireturn, 1) := by decide +kernel
theorem dX7_reading_48 : decode cX7_reading 48 = .ok (.aload_n 0, 1) := by decide +kernel
theorem dX7_reading_49 : decode cX7_reading 49 = .ok (.getfield 52, 3) := by decide +kernel
theorem dX7_reading_52 : decode cX7_reading 52 = .ok (.aload_n 0, 1) := by decide +kernel
theorem dX7_reading_53 : decode cX7_reading 53 = .ok (.getfield 113, 3) := by decide +kernel
theorem dX7_reading_56 : decode cX7_reading 56 = .ok (.iload_n 1, 1) := by decide +kernel
theorem dX7_reading_57 : decode cX7_reading 57 = .ok (.iastore, 1) := by decide +kernel
theorem dX7_reading_58 : decode cX7_reading 58 = .ok (.aload_n 0, 1) := by decide +kernel
theorem dX7_reading_59 : decode cX7_reading 59 = .ok (.getfield 55, 3) := by decide +kernel
theorem dX7_reading_62 : decode cX7_reading 62 = .ok (.aload_n 0, 1) := by decide +kernel
theorem dX7_reading_63 : decode cX7_reading 63 = .ok (.getfield 113, 3) := by decide +kernel
theorem dX7_reading_66 : decode cX7_reading 66 = .ok (.iload_n 2, 1) := by decide +kernel
theorem dX7_reading_67 : decode cX7_reading 67 = .ok (.iastore, 1) := by decide +kernel
theorem dX7_reading_68 : decode cX7_reading 68 = .ok (.aload_n 0, 1) := by decide +kernel
theorem dX7_reading_69 : decode cX7_reading 69 = .ok (.getfield 58, 3) := by decide +kernel
theorem dX7_reading_72 : decode cX7_reading 72 = .ok (.aload_n 0, 1) := by decide +kernel
theorem dX7_reading_73 : decode cX7_reading 73 = .ok (.getfield 113, 3) := by decide +kernel
theorem dX7_reading_76 : decode cX7_reading 76 = .ok (.iload_n 3, 1) := by decide +kernel
theorem dX7_reading_77 : decode cX7_reading 77 = .ok (.iastore, 1) := by decide +kernel
theorem dX7_reading_78 : decode cX7_reading 78 = .ok (.aload_n 0, 1) := by decide +kernel
theorem dX7_reading_79 : decode cX7_reading 79 = .ok (.dup, 1) := by decide +kernel
theorem dX7_reading_80 : decode cX7_reading 80 = .ok (.getfield 113, 3) := by decide +kernel
theorem dX7_reading_83 : decode cX7_reading 83 = .ok (.iconst 1, 1) := by decide +kernel
theorem dX7_reading_84 : decode cX7_reading 84 = .ok (.iadd, 1) := by decide +kernel
theorem dX7_reading_85 : decode cX7_reading 85 = .ok (.putfield 113, 3) := by decide +kernel
theorem dX7_reading_88 : decode cX7_reading 88 = .ok (.aload_n 0, 1) := by decide +kernel
theorem dX7_reading_89 : decode cX7_reading 89 = .ok (.getfield 113, 3) := by decide +kernel
theorem dX7_reading_92 : decode cX7_reading 92 = .ok (.iconst 1, 1) := by decide +kernel
theorem dX7_reading_93 : decode cX7_reading 93 = .ok (.isub, 1) := by decide +kernel
theorem dX7_reading_94 : decode cX7_reading 94 = .ok (.ireturn, 1) := by decide +kernel
set_option maxRecDepth 20000 in
theorem ggX7_back_X7_within : GoodIn wsX7_back wsX7_within := goodIn_r _ [5] (by decide +kernel) (by decide +kernel)
set_option maxRecDepth 20000 in
theorem gX7_back_X7_within : GoodIn wsX7_back (va_wsS RX7 67 yX7_within wsX7_within) := goodIn_app (goodIn_of _ (by decide +kernel)) ggX7_back_X7_within
theorem dX7_back_0 : decode cX7_back 0 = .ok (.iload_n 1, 1) := by decide +kernel
theorem dX7_back_1 : decode cX7_back 1 = .ok (.iconst 0, 1) := by decide +kernel
theorem dX7_back_2 : decode cX7_back 2 = .ok (.aload_n 0, 1) := by decide +kernel
theorem dX7_back_3 : decode cX7_back 3 = .ok (.getfield 113, 3) := by decide +kernel
theorem dX7_back_6 : decode cX7_back 6 = .ok (.invokestatic 67, 3) := by decide +kernel
theorem dX7_back_9 : decode cX7_back 9 = .ok (.ifCond .ne 6, 3) := by decide +kernel
theorem dX7_back_12 : decode cX7_back 12 = .ok (.bipush (-2), 2) := by decide +kernel
theorem dX7_back_14 : decode cX7_back 14 = .ok (.ireturn, 1) := by decide +kernel
theorem dX7_back_15 : decode cX7_back 15 = .ok (.aload_n 0, 1) := by decide +kernel
theorem dX7_back_16 : decode cX7_back 16 = .ok (.dup, 1) := by decide +kernel
theorem dX7_back_17 : decode cX7_back 17 = .ok (.getfield 113, 3) := by decide +kernel
theorem dX7_back_20 : decode cX7_back 20 = .ok (.iload_n 1, 1) := by decide +kernel
theorem dX7_back_21 : decode cX7_back 21 = .ok (.isub, 1) := by decide +kernel
theorem dX7_back_22 : decode cX7_back 22 = .ok (.putfield 113, 3) := by decide +kernel
theorem dX7_back_25 : decode cX7_back 25 = .ok (.aload_n 0, 1) := by decide +kernel
theorem dX7_back_26 : decode cX7_back 26 = .ok (.getfield 113, 3) := by decide +kernel
theorem dX7_back_29 : decode cX7_back 29 = .ok (.ireturn, 1) := by decide +kernel
set_option maxRecDepth 20000 in
theorem ggX7_areSo_X7_drawerBy : GoodIn wsX7_areSo wsX7_drawerBy := goodIn_r _ [9, 10, 11, 12, 13, 14, 8, 15, 16, 17, 18, 19, 20, 21, 22, 23, 24, 25, 26, 27, 28, 29, 30, 31, 32, 33, 34, 35, 36, 37, 38, 39, 40, 41, 42, 43, 44, 45, 46, 47, 48, 49, 50, 51, 52, 53, 54, 55, 56] (by decide +kernel) (by decide +kernel)
set_option maxRecDepth 20000 in
theorem gX7_areSo_X7_drawerBy : GoodIn wsX7_areSo (wsV RX7 157 RX7 yX7_drawerBy wsX7_drawerBy) := goodIn_app (goodIn_of _ (by decide +kernel)) ggX7_areSo_X7_drawerBy
theorem dX7_areSo_0 : decode cX7_areSo 0 = .ok (.iconst 0, 1) := by decide +kernel
theorem dX7_areSo_1 : decode cX7_areSo 1 = .ok (.istore_n 1, 1) := by decide +kernel
theorem dX7_areSo_2 : decode cX7_areSo 2 = .ok (.iload_n 1, 1) := by decide +kernel
theorem dX7_areSo_3 : decode cX7_areSo 3 = .ok (.aload_n 0, 1) := by decide +kernel
theorem dX7_areSo_4 : decode cX7_areSo 4 = .ok (.getfield 113, 3) := by decide +kernel
theorem dX7_areSo_7 : decode cX7_areSo 7 = .ok (.if_icmp .ge 36, 3) := by decide +kernel
theorem dX7_areSo_10 : decode cX7_areSo 10 = .ok (.aload_n 0, 1) := by decide +kernel
theorem dX7_areSo_11 : decode cX7_areSo 11 = .ok (.aload_n 0, 1) := by decide +kernel
theorem dX7_areSo_12 : decode cX7_areSo 12 = .ok (.getfield 52, 3) := by decide +kernel
theorem dX7_areSo_15 : decode cX7_areSo 15 = .ok (.iload_n 1, 1) := by decide +kernel
theorem dX7_areSo_16 : decode cX7_areSo 16 = .ok (.iaload, 1) := by decide +kernel
theorem dX7_areSo_17 : decode cX7_areSo 17 = .ok (.aload_n 0, 1) := by decide +kernel
theorem dX7_areSo_18 : decode cX7_areSo 18 = .ok (.getfield 55, 3) := by decide +kernel
theorem dX7_areSo_21 : decode cX7_areSo 21 = .ok (.iload_n 1, 1) := by decide +kernel
theorem dX7_areSo_22 : decode cX7_areSo 22 = .ok (.iaload, 1) := by decide +kernel
theorem dX7_areSo_23 : decode cX7_areSo 23 = .ok (.invokevirtual 157, 3) := by decide +kernel
theorem dX7_areSo_26 : decode cX7_areSo 26 = .ok (.aload_n 0, 1) := by decide +kernel
theorem dX7_areSo_27 : decode cX7_areSo 27 = .ok (.getfield 58, 3) := by decide +kernel
theorem dX7_areSo_30 : decode cX7_areSo 30 = .ok (.iload_n 1, 1) := by decide +kernel
theorem dX7_areSo_31 : decode cX7_areSo 31 = .ok (.iaload, 1) := by decide +kernel
theorem dX7_areSo_32 : decode cX7_areSo 32 = .ok (.if_icmp .eq 5, 3) := by decide +kernel
theorem dX7_areSo_35 : decode cX7_areSo 35 = .ok (.iconst 0, 1) := by decide +kernel
theorem dX7_areSo_36 : decode cX7_areSo 36 = .ok (.ireturn, 1) := by decide +kernel
theorem dX7_areSo_37 : decode cX7_areSo 37 = .ok (.iinc 1 1, 3) := by decide +kernel
theorem dX7_areSo_40 : decode cX7_areSo 40 = .ok (.goto (-38), 3) := by decide +kernel
theorem dX7_areSo_43 : decode cX7_areSo 43 = .ok (.iconst 1, 1) := by decide +kernel
theorem dX7_areSo_44 : decode cX7_areSo 44 = .ok (.ireturn, 1) := by decide +kernel
set_option maxRecDepth 20000 in
theorem ggX7_weights_X7_isThing : GoodIn wsX7_weights wsX7_isThing := goodIn_r _ [6, 7, 36, 37, 38, 39, 40, 41, 42, 43, 44, 45, 46, 47, 48, 49, 50, 51, 52, 53, 54, 55, 56, 57, 58, 59, 60, 61, 62, 63, 64, 65] (by decide +kernel) (by decide +kernel)
set_option maxRecDepth 20000 in
theorem gX7_weights_X7_isThing : GoodIn wsX7_weights (wsV RX7 129 RX7 yX7_isThing wsX7_isThing) := goodIn_app (goodIn_of _ (by decide +kernel)) ggX7_weights_X7_isThing
set_option maxRecDepth 20000 in
theorem ggX7_weights_X7_areSo : GoodIn wsX7_weights wsX7_areSo := goodIn_r _ [11, 12, 13, 14, 15, 16, 17, 18, 5, 19, 20, 21, 22, 23, 24, 25, 26, 27, 28, 29, 30, 31, 32, 33, 34, 1, 35, 36, 37, 38, 39, 40, 41, 42, 43, 44, 45, 46, 47, 48, 49, 50, 51, 52, 53, 54, 55, 56, 57, 58, 59, 60, 61, 62, 63, 64, 65] (by decide +kernel) (by decide +kernel)
set_option maxRecDepth 20000 in
theorem gX7_weights_X7_areSo : GoodIn wsX7_weights (wsV RX7 174 RX7 yX7_areSo wsX7_areSo) := goodIn_app (goodIn_of _ (by decide +kernel)) ggX7_weights_X7_areSo
theorem dX7_weights_0 : decode cX7_weights 0 = .ok (.aload_n 0, 1) := by decide +kernel
theorem dX7_weights_1 : decode cX7_weights 1 = .ok (.iload_n 1, 1) := by decide +kernel
theorem dX7_weights_2 : decode cX7_weights 2 = .ok (.invokevirtual 129, 3) := by decide +kernel
theorem dX7_weights_5 : decode cX7_weights 5 = .ok (.ifCond .ne 5, 3) := by decide +kernel
theorem dX7_weights_8 : decode cX7_weights 8 = .ok (.iconst (-1), 1) := by decide +kernel
theorem dX7_weights_9 : decode cX7_weights 9 = .ok (.ireturn, 1) := by decide +kernel
theorem dX7_weights_10 : decode cX7_weights 10 = .ok (.aload_n 0, 1) := by decide +kernel
theorem dX7_weights_11 : decode cX7_weights 11 = .ok (.getfield 25, 3) := by decide +kernel
theorem dX7_weights_14 : decode cX7_weights 14 = .ok (.iload_n 1, 1) := by decide +kernel
theorem dX7_weights_15 : decode cX7_weights 15 = .ok (.iaload, 1) := by decide +kernel
theorem dX7_weights_16 : decode cX7_weights 16 = .ok (.istore_n 2, 1) := by decide +kernel
theorem dX7_weights_17 : decode cX7_weights 17 = .ok (.iconst 0, 1) := by decide +kernel
theorem dX7_weights_18 : decode cX7_weights 18 = .ok (.istore_n 3, 1) := by decide +kernel
theorem dX7_weights_19 : decode cX7_weights 19 = .ok (.iconst 0, 1) := by decide +kernel
theorem dX7_weights_20 : decode cX7_weights 20 = .ok (.istore 4, 2) := by decide +kernel
theorem dX7_weights_22 : decode cX7_weights 22 = .ok (.iload 4, 2) := by decide +kernel
theorem dX7_weights_24 : decode cX7_weights 24 = .ok (.bipush 9, 2) := by decide +kernel
theorem dX7_weights_26 : decode cX7_weights 26 = .ok (.if_icmp .gt 35, 3) := by decide +kernel
theorem dX7_weights_29 : decode cX7_weights 29 = .ok (.aload_n 0, 1) := by decide +kernel
theorem dX7_weights_30 : decode cX7_weights 30 = .ok (.getfield 25, 3) := by decide +kernel
theorem dX7_weights_33 : decode cX7_weights 33 = .ok (.iload_n 1, 1) := by decide +kernel
theorem dX7_weights_34 : decode cX7_weights 34 = .ok (.iload 4, 2) := by decide +kernel
theorem dX7_weights_36 : decode cX7_weights 36 = .ok (.iastore, 1) := by decide +kernel
theorem dX7_weights_37 : decode cX7_weights 37 = .ok (.iload_n 3, 1) := by decide +kernel
theorem dX7_weights_38 : decode cX7_weights 38 = .ok (.aload_n 0, 1) := by decide +kernel
theorem dX7_weights_39 : decode cX7_weights 39 = .ok (.invokevirtual 174, 3) := by decide +kernel
theorem dX7_weights_42 : decode cX7_weights 42 = .ok (.ifCond .eq 10, 3) := by decide +kernel
theorem dX7_weights_45 : decode cX7_weights 45 = .ok (.iconst 1, 1) := by decide +kernel
theorem dX7_weights_46 : decode cX7_weights 46 = .ok (.iload 4, 2) := by decide +kernel
theorem dX7_weights_48 : decode cX7_weights 48 = .ok (.ishl, 1) := by decide +kernel
theorem dX7_weights_49 : decode cX7_weights 49 = .ok (.goto 4, 3) := by decide +kernel
theorem dX7_weights_52 : decode cX7_weights 52 = .ok (.iconst 0, 1) := by decide +kernel
theorem dX7_weights_53 : decode cX7_weights 53 = .ok (.ior, 1) := by decide +kernel
theorem dX7_weights_54 : decode cX7_weights 54 = .ok (.istore_n 3, 1) := by decide +kernel
theorem dX7_weights_55 : decode cX7_weights 55 = .ok (.iinc 4 1, 3) := by decide +kernel
theorem dX7_weights_58 : decode cX7_weights 58 = .ok (.goto (-36), 3) := by decide +kernel
theorem dX7_weights_61 : decode cX7_weights 61 = .ok (.aload_n 0, 1) := by decide +kernel
theorem dX7_weights_62 : decode cX7_weights 62 = .ok (.getfield 25, 3) := by decide +kernel
theorem dX7_weights_65 : decode cX7_weights 65 = .ok (.iload_n 1, 1) := by decide +kernel
theorem dX7_weights_66 : decode cX7_weights 66 = .ok (.iload_n 2, 1) := by decide +kernel
theorem dX7_weights_67 : decode cX7_weights 67 = .ok (.iastore, 1) := by decide +kernel
theorem dX7_weights_68 : decode cX7_weights 68 = .ok (.iload_n 3, 1) := by decide +kernel
theorem dX7_weights_69 : decode cX7_weights 69 = .ok (.ireturn, 1) := by decide +kernel
set_option maxRecDepth 20000 in
theorem ggX7_kinds_X7_isThing : GoodIn wsX7_kinds wsX7_isThing := goodIn_r _ [6, 7, 36, 37, 38, 39, 40, 41, 42, 43, 44, 45, 46, 47, 48, 49, 50, 51, 52, 53, 54, 55, 56, 57, 58, 59, 60, 61, 62, 63, 64, 65] (by decide +kernel) (by decide +kernel)
set_option maxRecDepth 20000 in
theorem gX7_kinds_X7_isThing : GoodIn wsX7_kinds (wsV RX7 129 RX7 yX7_isThing wsX7_isThing) := goodIn_app (goodIn_of _ (by decide +kernel)) ggX7_kinds_X7_isThing
set_option maxRecDepth 20000 in
theorem ggX7_kinds_X7_areSo : GoodIn wsX7_kinds wsX7_areSo := goodIn_r _ [11, 12, 13, 14, 15, 16, 17, 18, 5, 19, 20, 21, 22, 23, 24, 25, 26, 27, 28, 29, 30, 31, 32, 33, 34, 35, 1, 36, 37, 38, 39, 40, 41, 42, 43, 44, 45, 46, 47, 48, 49, 50, 51, 52, 53, 54, 55, 56, 57, 58, 59, 60, 61, 62, 63, 64, 65] (by decide +kernel) (by decide +kernel)
set_option maxRecDepth 20000 in
theorem gX7_kinds_X7_areSo : GoodIn wsX7_kinds (wsV RX7 174 RX7 yX7_areSo wsX7_areSo) := goodIn_app (goodIn_of _ (by decide +kernel)) ggX7_kinds_X7_areSo
theorem dX7_kinds_0 : decode cX7_kinds 0 = .ok (.aload_n 0, 1) := by decide +kernel
theorem dX7_kinds_1 : decode cX7_kinds 1 = .ok (.iload_n 1, 1) := by decide +kernel
theorem dX7_kinds_2 : decode cX7_kinds 2 = .ok (.invokevirtual 129, 3) := by decide +kernel
theorem dX7_kinds_5 : decode cX7_kinds 5 = .ok (.ifCond .ne 5, 3) := by decide +kernel
theorem dX7_kinds_8 : decode cX7_kinds 8 = .ok (.iconst (-1), 1) := by decide +kernel
theorem dX7_kinds_9 : decode cX7_kinds 9 = .ok (.ireturn, 1) := by decide +kernel
theorem dX7_kinds_10 : decode cX7_kinds 10 = .ok (.aload_n 0, 1) := by decide +kernel
theorem dX7_kinds_11 : decode cX7_kinds 11 = .ok (.getfield 22, 3) := by decide +kernel
theorem dX7_kinds_14 : decode cX7_kinds 14 = .ok (.iload_n 1, 1) := by decide +kernel
theorem dX7_kinds_15 : decode cX7_kinds 15 = .ok (.iaload, 1) := by decide +kernel
theorem dX7_kinds_16 : decode cX7_kinds 16 = .ok (.istore_n 2, 1) := by decide +kernel
theorem dX7_kinds_17 : decode cX7_kinds 17 = .ok (.iconst 0, 1) := by decide +kernel
theorem dX7_kinds_18 : decode cX7_kinds 18 = .ok (.istore_n 3, 1) := by decide +kernel
theorem dX7_kinds_19 : decode cX7_kinds 19 = .ok (.iconst 0, 1) := by decide +kernel
theorem dX7_kinds_20 : decode cX7_kinds 20 = .ok (.istore 4, 2) := by decide +kernel
theorem dX7_kinds_22 : decode cX7_kinds 22 = .ok (.iload 4, 2) := by decide +kernel
theorem dX7_kinds_24 : decode cX7_kinds 24 = .ok (.iconst 3, 1) := by decide +kernel
theorem dX7_kinds_25 : decode cX7_kinds 25 = .ok (.if_icmp .ge 35, 3) := by decide +kernel
theorem dX7_kinds_28 : decode cX7_kinds 28 = .ok (.aload_n 0, 1) := by decide +kernel
theorem dX7_kinds_29 : decode cX7_kinds 29 = .ok (.getfield 22, 3) := by decide +kernel
theorem dX7_kinds_32 : decode cX7_kinds 32 = .ok (.iload_n 1, 1) := by decide +kernel
theorem dX7_kinds_33 : decode cX7_kinds 33 = .ok (.iload 4, 2) := by decide +kernel
theorem dX7_kinds_35 : decode cX7_kinds 35 = .ok (.iastore, 1) := by decide +kernel
theorem dX7_kinds_36 : decode cX7_kinds 36 = .ok (.iload_n 3, 1) := by decide +kernel
theorem dX7_kinds_37 : decode cX7_kinds 37 = .ok (.aload_n 0, 1) := by decide +kernel
theorem dX7_kinds_38 : decode cX7_kinds 38 = .ok (.invokevirtual 174, 3) := by decide +kernel
theorem dX7_kinds_41 : decode cX7_kinds 41 = .ok (.ifCond .eq 10, 3) := by decide +kernel
theorem dX7_kinds_44 : decode cX7_kinds 44 = .ok (.iconst 1, 1) := by decide +kernel
theorem dX7_kinds_45 : decode cX7_kinds 45 = .ok (.iload 4, 2) := by decide +kernel
theorem dX7_kinds_47 : decode cX7_kinds 47 = .ok (.ishl, 1) := by decide +kernel
theorem dX7_kinds_48 : decode cX7_kinds 48 = .ok (.goto 4, 3) := by decide +kernel
theorem dX7_kinds_51 : decode cX7_kinds 51 = .ok (.iconst 0, 1) := by decide +kernel
theorem dX7_kinds_52 : decode cX7_kinds 52 = .ok (.ior, 1) := by decide +kernel
theorem dX7_kinds_53 : decode cX7_kinds 53 = .ok (.istore_n 3, 1) := by decide +kernel
theorem dX7_kinds_54 : decode cX7_kinds 54 = .ok (.iinc 4 1, 3) := by decide +kernel
theorem dX7_kinds_57 : decode cX7_kinds 57 = .ok (.goto (-35), 3) := by decide +kernel
theorem dX7_kinds_60 : decode cX7_kinds 60 = .ok (.aload_n 0, 1) := by decide +kernel
theorem dX7_kinds_61 : decode cX7_kinds 61 = .ok (.getfield 22, 3) := by decide +kernel
theorem dX7_kinds_64 : decode cX7_kinds 64 = .ok (.iload_n 1, 1) := by decide +kernel
theorem dX7_kinds_65 : decode cX7_kinds 65 = .ok (.iload_n 2, 1) := by decide +kernel
theorem dX7_kinds_66 : decode cX7_kinds 66 = .ok (.iastore, 1) := by decide +kernel
theorem dX7_kinds_67 : decode cX7_kinds 67 = .ok (.iload_n 3, 1) := by decide +kernel
theorem dX7_kinds_68 : decode cX7_kinds 68 = .ok (.ireturn, 1) := by decide +kernel
set_option maxRecDepth 20000 in
theorem ggX7_depths_X7_areSo : GoodIn wsX7_depths wsX7_areSo := goodIn_r _ [7, 8, 9, 10, 11, 12, 13, 14, 6, 15, 16, 17, 18, 19, 20, 21, 22, 23, 24, 1, 25, 26, 27, 28, 2, 29, 30, 31, 32, 33, 34, 35, 36, 37, 38, 39, 40, 41, 42, 43, 44, 45, 46, 47, 48, 49, 50, 51, 52, 53, 54, 55, 56, 57, 58, 59, 60] (by decide +kernel) (by decide +kernel)
set_option maxRecDepth 20000 in
theorem gX7_depths_X7_areSo : GoodIn wsX7_depths (wsV RX7 174 RX7 yX7_areSo wsX7_areSo) := goodIn_app (goodIn_of _ (by decide +kernel)) ggX7_depths_X7_areSo
theorem dX7_depths_0 : decode cX7_depths 0 = .ok (.aload_n 0, 1) := by decide +kernel
theorem dX7_depths_1 : decode cX7_depths 1 = .ok (.getfield 107, 3) := by decide +kernel
theorem dX7_depths_4 : decode cX7_depths 4 = .ok (.ifCond .ne 6, 3) := by decide +kernel
theorem dX7_depths_7 : decode cX7_depths 7 = .ok (.bipush (-3), 2) := by decide +kernel
theorem dX7_depths_9 : decode cX7_depths 9 = .ok (.ireturn, 1) := by decide +kernel
theorem dX7_depths_10 : decode cX7_depths 10 = .ok (.aload_n 0, 1) := by decide +kernel
theorem dX7_depths_11 : decode cX7_depths 11 = .ok (.getfield 101, 3) := by decide +kernel
theorem dX7_depths_14 : decode cX7_depths 14 = .ok (.istore_n 1, 1) := by decide +kernel
theorem dX7_depths_15 : decode cX7_depths 15 = .ok (.iconst 0, 1) := by decide +kernel
theorem dX7_depths_16 : decode cX7_depths 16 = .ok (.istore_n 2, 1) := by decide +kernel
theorem dX7_depths_17 : decode cX7_depths 17 = .ok (.iconst 0, 1) := by decide +kernel
theorem dX7_depths_18 : decode cX7_depths 18 = .ok (.istore_n 3, 1) := by decide +kernel
theorem dX7_depths_19 : decode cX7_depths 19 = .ok (.iload_n 3, 1) := by decide +kernel
theorem dX7_depths_20 : decode cX7_depths 20 = .ok (.bipush 9, 2) := by decide +kernel
theorem dX7_depths_22 : decode cX7_depths 22 = .ok (.if_icmp .gt 31, 3) := by decide +kernel
theorem dX7_depths_25 : decode cX7_depths 25 = .ok (.aload_n 0, 1) := by decide +kernel
theorem dX7_depths_26 : decode cX7_depths 26 = .ok (.iload_n 3, 1) := by decide +kernel
theorem dX7_depths_27 : decode cX7_depths 27 = .ok (.putfield 101, 3) := by decide +kernel
theorem dX7_depths_30 : decode cX7_depths 30 = .ok (.iload_n 2, 1) := by decide +kernel
theorem dX7_depths_31 : decode cX7_depths 31 = .ok (.aload_n 0, 1) := by decide +kernel
theorem dX7_depths_32 : decode cX7_depths 32 = .ok (.invokevirtual 174, 3) := by decide +kernel
theorem dX7_depths_35 : decode cX7_depths 35 = .ok (.ifCond .eq 9, 3) := by decide +kernel
theorem dX7_depths_38 : decode cX7_depths 38 = .ok (.iconst 1, 1) := by decide +kernel
theorem dX7_depths_39 : decode cX7_depths 39 = .ok (.iload_n 3, 1) := by decide +kernel
theorem dX7_depths_40 : decode cX7_depths 40 = .ok (.ishl, 1) := by decide +kernel
theorem dX7_depths_41 : decode cX7_depths 41 = .ok (.goto 4, 3) := by decide +kernel
theorem dX7_depths_44 : decode cX7_depths 44 = .ok (.iconst 0, 1) := by decide +kernel
theorem dX7_depths_45 : decode cX7_depths 45 = .ok (.ior, 1) := by decide +kernel
theorem dX7_depths_46 : decode cX7_depths 46 = .ok (.istore_n 2, 1) := by decide +kernel
theorem dX7_depths_47 : decode cX7_depths 47 = .ok (.iinc 3 1, 3) := by decide +kernel
theorem dX7_depths_50 : decode cX7_depths 50 = .ok (.goto (-31), 3) := by decide +kernel
theorem dX7_depths_53 : decode cX7_depths 53 = .ok (.aload_n 0, 1) := by decide +kernel
theorem dX7_depths_54 : decode cX7_depths 54 = .ok (.iload_n 1, 1) := by decide +kernel
theorem dX7_depths_55 : decode cX7_depths 55 = .ok (.putfield 101, 3) := by decide +kernel
theorem dX7_depths_58 : decode cX7_depths 58 = .ok (.iload_n 2, 1) := by decide +kernel
theorem dX7_depths_59 : decode cX7_depths 59 = .ok (.ireturn, 1) := by decide +kernel
theorem dX7_inLeastTerms_0 : decode cX7_inLeastTerms 0 = .ok (.lload_n 0, 1) := by decide +kernel
theorem dX7_inLeastTerms_1 : decode cX7_inLeastTerms 1 = .ok (.lstore 5, 2) := by decide +kernel
theorem dX7_inLeastTerms_3 : decode cX7_inLeastTerms 3 = .ok (.lload_n 2, 1) := by decide +kernel
theorem dX7_inLeastTerms_4 : decode cX7_inLeastTerms 4 = .ok (.lstore 7, 2) := by decide +kernel
theorem dX7_inLeastTerms_6 : decode cX7_inLeastTerms 6 = .ok (.lload 7, 2) := by decide +kernel
theorem dX7_inLeastTerms_8 : decode cX7_inLeastTerms 8 = .ok (.lconst 0, 1) := by decide +kernel
theorem dX7_inLeastTerms_9 : decode cX7_inLeastTerms 9 = .ok (.lcmp, 1) := by decide +kernel
theorem dX7_inLeastTerms_10 : decode cX7_inLeastTerms 10 = .ok (.ifCond .eq 21, 3) := by decide +kernel
theorem dX7_inLeastTerms_13 : decode cX7_inLeastTerms 13 = .ok (.lload 5, 2) := by decide +kernel
theorem dX7_inLeastTerms_15 : decode cX7_inLeastTerms 15 = .ok (.lload 7, 2) := by decide +kernel
theorem dX7_inLeastTerms_17 : decode cX7_inLeastTerms 17 = .ok (.lrem, 1) := by decide +kernel
theorem dX7_inLeastTerms_18 : decode cX7_inLeastTerms 18 = .ok (.lstore 9, 2) := by decide +kernel
theorem dX7_inLeastTerms_20 : decode cX7_inLeastTerms 20 = .ok (.lload 7, 2) := by decide +kernel
theorem dX7_inLeastTerms_22 : decode cX7_inLeastTerms 22 = .ok (.lstore 5, 2) := by decide +kernel
theorem dX7_inLeastTerms_24 : decode cX7_inLeastTerms 24 = .ok (.lload 9, 2) := by decide +kernel
theorem dX7_inLeastTerms_26 : decode cX7_inLeastTerms 26 = .ok (.lstore 7, 2) := by decide +kernel
theorem dX7_inLeastTerms_28 : decode cX7_inLeastTerms 28 = .ok (.goto (-22), 3) := by decide +kernel
theorem dX7_inLeastTerms_31 : decode cX7_inLeastTerms 31 = .ok (.iload 4, 2) := by decide +kernel
theorem dX7_inLeastTerms_33 : decode cX7_inLeastTerms 33 = .ok (.ifCond .ne 10, 3) := by decide +kernel
theorem dX7_inLeastTerms_36 : decode cX7_inLeastTerms 36 = .ok (.lload_n 0, 1) := by decide +kernel
theorem dX7_inLeastTerms_37 : decode cX7_inLeastTerms 37 = .ok (.lload 5, 2) := by decide +kernel
theorem dX7_inLeastTerms_39 : decode cX7_inLeastTerms 39 = .ok (.ldiv, 1) := by decide +kernel
theorem dX7_inLeastTerms_40 : decode cX7_inLeastTerms 40 = .ok (.goto 7, 3) := by decide +kernel
theorem dX7_inLeastTerms_43 : decode cX7_inLeastTerms 43 = .ok (.lload_n 2, 1) := by decide +kernel
theorem dX7_inLeastTerms_44 : decode cX7_inLeastTerms 44 = .ok (.lload 5, 2) := by decide +kernel
theorem dX7_inLeastTerms_46 : decode cX7_inLeastTerms 46 = .ok (.ldiv, 1) := by decide +kernel
theorem dX7_inLeastTerms_47 : decode cX7_inLeastTerms 47 = .ok (.lreturn, 1) := by decide +kernel
set_option maxRecDepth 20000 in
theorem ggX7_odds_X7_isThing : GoodIn wsX7_odds wsX7_isThing := goodIn_r _ [8, 9, 37, 38, 39, 40, 41, 42, 43, 44, 45, 46, 47, 48, 49, 50, 51, 52, 53, 54, 55, 56, 57, 58, 59, 60, 61, 62, 63, 64, 65, 66] (by decide +kernel) (by decide +kernel)
set_option maxRecDepth 20000 in
theorem gX7_odds_X7_isThing : GoodIn wsX7_odds (wsV RX7 129 RX7 yX7_isThing wsX7_isThing) := goodIn_app (goodIn_of _ (by decide +kernel)) ggX7_odds_X7_isThing
set_option maxRecDepth 20000 in
theorem ggX7_odds_X7_within : GoodIn wsX7_odds wsX7_within := goodIn_r _ [12] (by decide +kernel) (by decide +kernel)
set_option maxRecDepth 20000 in
theorem gX7_odds_X7_within : GoodIn wsX7_odds (va_wsS RX7 67 yX7_within wsX7_within) := goodIn_app (goodIn_of _ (by decide +kernel)) ggX7_odds_X7_within
set_option maxRecDepth 20000 in
theorem ggX7_odds_X7_drawerBy : GoodIn wsX7_odds wsX7_drawerBy := goodIn_r _ [16, 17, 18, 19, 20, 21, 7, 22, 23, 24, 25, 26, 27, 28, 29, 30, 31, 32, 33, 37, 38, 39, 40, 41, 42, 43, 44, 45, 46, 47, 48, 49, 50, 51, 52, 53, 54, 55, 56, 57, 58, 59, 60, 61, 62, 63, 64, 65, 66] (by decide +kernel) (by decide +kernel)
set_option maxRecDepth 20000 in
theorem gX7_odds_X7_drawerBy : GoodIn wsX7_odds (wsV RX7 157 RX7 yX7_drawerBy wsX7_drawerBy) := goodIn_app (goodIn_of _ (by decide +kernel)) ggX7_odds_X7_drawerBy
set_option maxRecDepth 20000 in
theorem ggX7_odds_X7_inLeastTerms : GoodIn wsX7_odds wsX7_inLeastTerms := goodIn_r _ [36] (by decide +kernel) (by decide +kernel)
set_option maxRecDepth 20000 in
theorem gX7_odds_X7_inLeastTerms : GoodIn wsX7_odds (va_wsS RX7 179 yX7_inLeastTerms wsX7_inLeastTerms) := goodIn_app (goodIn_of _ (by decide +kernel)) ggX7_odds_X7_inLeastTerms
theorem dX7_odds_0 : decode cX7_odds 0 = .ok (.aload_n 0, 1) := by decide +kernel
theorem dX7_odds_1 : decode cX7_odds 1 = .ok (.iload_n 1, 1) := by decide +kernel
theorem dX7_odds_2 : decode cX7_odds 2 = .ok (.invokevirtual 129, 3) := by decide +kernel
theorem dX7_odds_5 : decode cX7_odds 5 = .ok (.ifCond .eq 12, 3) := by decide +kernel
theorem dX7_odds_8 : decode cX7_odds 8 = .ok (.iload_n 2, 1) := by decide +kernel
theorem dX7_odds_9 : decode cX7_odds 9 = .ok (.iconst 0, 1) := by decide +kernel
theorem dX7_odds_10 : decode cX7_odds 10 = .ok (.iconst 1, 1) := by decide +kernel
theorem dX7_odds_11 : decode cX7_odds 11 = .ok (.invokestatic 67, 3) := by decide +kernel
theorem dX7_odds_14 : decode cX7_odds 14 = .ok (.ifCond .ne 7, 3) := by decide +kernel
theorem dX7_odds_17 : decode cX7_odds 17 = .ok (.ldc2_w 65, 3) := by decide +kernel
theorem dX7_odds_20 : decode cX7_odds 20 = .ok (.lreturn, 1) := by decide +kernel
theorem dX7_odds_21 : decode cX7_odds 21 = .ok (.iconst 0, 1) := by decide +kernel
theorem dX7_odds_22 : decode cX7_odds 22 = .ok (.istore_n 3, 1) := by decide +kernel
theorem dX7_odds_23 : decode cX7_odds 23 = .ok (.iconst 0, 1) := by decide +kernel
theorem dX7_odds_24 : decode cX7_odds 24 = .ok (.istore 4, 2) := by decide +kernel
theorem dX7_odds_26 : decode cX7_odds 26 = .ok (.iload 4, 2) := by decide +kernel
theorem dX7_odds_28 : decode cX7_odds 28 = .ok (.bipush 12, 2) := by decide +kernel
theorem dX7_odds_30 : decode cX7_odds 30 = .ok (.if_icmp .ge 33, 3) := by decide +kernel
theorem dX7_odds_33 : decode cX7_odds 33 = .ok (.iload_n 3, 1) := by decide +kernel
theorem dX7_odds_34 : decode cX7_odds 34 = .ok (.aload_n 0, 1) := by decide +kernel
theorem dX7_odds_35 : decode cX7_odds 35 = .ok (.iload_n 1, 1) := by decide +kernel
theorem dX7_odds_36 : decode cX7_odds 36 = .ok (.iload 4, 2) := by decide +kernel
theorem dX7_odds_38 : decode cX7_odds 38 = .ok (.invokevirtual 157, 3) := by decide +kernel
theorem dX7_odds_41 : decode cX7_odds 41 = .ok (.aload_n 0, 1) := by decide +kernel
theorem dX7_odds_42 : decode cX7_odds 42 = .ok (.getfield 31, 3) := by decide +kernel
theorem dX7_odds_45 : decode cX7_odds 45 = .ok (.iload_n 1, 1) := by decide +kernel
theorem dX7_odds_46 : decode cX7_odds 46 = .ok (.iaload, 1) := by decide +kernel
theorem dX7_odds_47 : decode cX7_odds 47 = .ok (.if_icmp .ne 7, 3) := by decide +kernel
theorem dX7_odds_50 : decode cX7_odds 50 = .ok (.iconst 1, 1) := by decide +kernel
theorem dX7_odds_51 : decode cX7_odds 51 = .ok (.goto 4, 3) := by decide +kernel
theorem dX7_odds_54 : decode cX7_odds 54 = .ok (.iconst 0, 1) := by decide +kernel
theorem dX7_odds_55 : decode cX7_odds 55 = .ok (.iadd, 1) := by decide +kernel
theorem dX7_odds_56 : decode cX7_odds 56 = .ok (.istore_n 3, 1) := by decide +kernel
theorem dX7_odds_57 : decode cX7_odds 57 = .ok (.iinc 4 1, 3) := by decide +kernel
theorem dX7_odds_60 : decode cX7_odds 60 = .ok (.goto (-34), 3) := by decide +kernel
theorem dX7_odds_63 : decode cX7_odds 63 = .ok (.iload_n 3, 1) := by decide +kernel
theorem dX7_odds_64 : decode cX7_odds 64 = .ok (.i2l, 1) := by decide +kernel
theorem dX7_odds_65 : decode cX7_odds 65 = .ok (.ldc2_w 177, 3) := by decide +kernel
theorem dX7_odds_68 : decode cX7_odds 68 = .ok (.iload_n 2, 1) := by decide +kernel
theorem dX7_odds_69 : decode cX7_odds 69 = .ok (.invokestatic 179, 3) := by decide +kernel
theorem dX7_odds_72 : decode cX7_odds 72 = .ok (.lreturn, 1) := by decide +kernel
set_option maxRecDepth 20000 in
theorem ggX7_sheet_X7_isSheet : GoodIn wsX7_sheet wsX7_isSheet := goodIn_r _ [8, 9, 10, 7, 11] (by decide +kernel) (by decide +kernel)
set_option maxRecDepth 20000 in
theorem gX7_sheet_X7_isSheet : GoodIn wsX7_sheet (va_wsS RX7 77 yX7_isSheet wsX7_isSheet) := goodIn_app (goodIn_of _ (by decide +kernel)) ggX7_sheet_X7_isSheet
set_option maxRecDepth 20000 in
theorem ggX7_sheet_X7_isSort : GoodIn wsX7_sheet wsX7_isSort := goodIn_r _ [14, 9, 10, 7, 11] (by decide +kernel) (by decide +kernel)
set_option maxRecDepth 20000 in
theorem gX7_sheet_X7_isSort : GoodIn wsX7_sheet (va_wsS RX7 81 yX7_isSort wsX7_isSort) := goodIn_app (goodIn_of _ (by decide +kernel)) ggX7_sheet_X7_isSort
set_option maxRecDepth 20000 in
theorem ggX7_sheet_X7_fails : GoodIn wsX7_sheet wsX7_fails := goodIn_r _ [18, 1, 19, 20, 21, 22, 23, 24, 25, 26, 27, 28, 29, 30, 31, 32, 33, 34, 35, 36, 37, 38, 39, 40, 41, 42, 43, 44, 45, 46, 47, 48] (by decide +kernel) (by decide +kernel)
set_option maxRecDepth 20000 in
theorem gX7_sheet_X7_fails : GoodIn wsX7_sheet (wsV RX7 88 RX7 yX7_fails wsX7_fails) := goodIn_app (goodIn_of _ (by decide +kernel)) ggX7_sheet_X7_fails
theorem dX7_sheet_0 : decode cX7_sheet 0 = .ok (.aload_n 0, 1) := by decide +kernel
theorem dX7_sheet_1 : decode cX7_sheet 1 = .ok (.iconst 0, 1) := by decide +kernel
theorem dX7_sheet_2 : decode cX7_sheet 2 = .ok (.putfield 61, 3) := by decide +kernel
theorem dX7_sheet_5 : decode cX7_sheet 5 = .ok (.iload_n 1, 1) := by decide +kernel
theorem dX7_sheet_6 : decode cX7_sheet 6 = .ok (.invokestatic 77, 3) := by decide +kernel
theorem dX7_sheet_9 : decode cX7_sheet 9 = .ok (.ifCond .ne 5, 3) := by decide +kernel
theorem dX7_sheet_12 : decode cX7_sheet 12 = .ok (.iconst (-1), 1) := by decide +kernel
theorem dX7_sheet_13 : decode cX7_sheet 13 = .ok (.ireturn, 1) := by decide +kernel
theorem dX7_sheet_14 : decode cX7_sheet 14 = .ok (.iload_n 2, 1) := by decide +kernel
theorem dX7_sheet_15 : decode cX7_sheet 15 = .ok (.invokestatic 81, 3) := by decide +kernel
theorem dX7_sheet_18 : decode cX7_sheet 18 = .ok (.ifCond .eq 9, 3) := by decide +kernel
theorem dX7_sheet_21 : decode cX7_sheet 21 = .ok (.iload_n 3, 1) := by decide +kernel
theorem dX7_sheet_22 : decode cX7_sheet 22 = .ok (.bipush 60, 2) := by decide +kernel
theorem dX7_sheet_24 : decode cX7_sheet 24 = .ok (.if_icmp .le 6, 3) := by decide +kernel
theorem dX7_sheet_27 : decode cX7_sheet 27 = .ok (.bipush (-2), 2) := by decide +kernel
theorem dX7_sheet_29 : decode cX7_sheet 29 = .ok (.ireturn, 1) := by decide +kernel
theorem dX7_sheet_30 : decode cX7_sheet 30 = .ok (.iload_n 3, 1) := by decide +kernel
theorem dX7_sheet_31 : decode cX7_sheet 31 = .ok (.ifCond .ge 9, 3) := by decide +kernel
theorem dX7_sheet_34 : decode cX7_sheet 34 = .ok (.aload_n 0, 1) := by decide +kernel
theorem dX7_sheet_35 : decode cX7_sheet 35 = .ok (.iconst 4, 1) := by decide +kernel
theorem dX7_sheet_36 : decode cX7_sheet 36 = .ok (.invokevirtual 88, 3) := by decide +kernel
theorem dX7_sheet_39 : decode cX7_sheet 39 = .ok (.ireturn, 1) := by decide +kernel
theorem dX7_sheet_40 : decode cX7_sheet 40 = .ok (.aload_n 0, 1) := by decide +kernel
theorem dX7_sheet_41 : decode cX7_sheet 41 = .ok (.getfield 9, 3) := by decide +kernel
theorem dX7_sheet_44 : decode cX7_sheet 44 = .ok (.iload_n 1, 1) := by decide +kernel
theorem dX7_sheet_45 : decode cX7_sheet 45 = .ok (.iload_n 2, 1) := by decide +kernel
theorem dX7_sheet_46 : decode cX7_sheet 46 = .ok (.iastore, 1) := by decide +kernel
theorem dX7_sheet_47 : decode cX7_sheet 47 = .ok (.aload_n 0, 1) := by decide +kernel
theorem dX7_sheet_48 : decode cX7_sheet 48 = .ok (.getfield 13, 3) := by decide +kernel
theorem dX7_sheet_51 : decode cX7_sheet 51 = .ok (.iload_n 1, 1) := by decide +kernel
theorem dX7_sheet_52 : decode cX7_sheet 52 = .ok (.iload_n 3, 1) := by decide +kernel
theorem dX7_sheet_53 : decode cX7_sheet 53 = .ok (.iastore, 1) := by decide +kernel
theorem dX7_sheet_54 : decode cX7_sheet 54 = .ok (.iconst 0, 1) := by decide +kernel
theorem dX7_sheet_55 : decode cX7_sheet 55 = .ok (.istore 4, 2) := by decide +kernel
theorem dX7_sheet_57 : decode cX7_sheet 57 = .ok (.iload 4, 2) := by decide +kernel
theorem dX7_sheet_59 : decode cX7_sheet 59 = .ok (.bipush 60, 2) := by decide +kernel
theorem dX7_sheet_61 : decode cX7_sheet 61 = .ok (.if_icmp .ge 22, 3) := by decide +kernel
theorem dX7_sheet_64 : decode cX7_sheet 64 = .ok (.aload_n 0, 1) := by decide +kernel
theorem dX7_sheet_65 : decode cX7_sheet 65 = .ok (.getfield 16, 3) := by decide +kernel
theorem dX7_sheet_68 : decode cX7_sheet 68 = .ok (.bipush 60, 2) := by decide +kernel
theorem dX7_sheet_70 : decode cX7_sheet 70 = .ok (.iload_n 1, 1) := by decide +kernel
theorem dX7_sheet_71 : decode cX7_sheet 71 = .ok (.imul, 1) := by decide +kernel
theorem dX7_sheet_72 : decode cX7_sheet 72 = .ok (.iload 4, 2) := by decide +kernel
theorem dX7_sheet_74 : decode cX7_sheet 74 = .ok (.iadd, 1) := by decide +kernel
theorem dX7_sheet_75 : decode cX7_sheet 75 = .ok (.iconst 0, 1) := by decide +kernel
theorem dX7_sheet_76 : decode cX7_sheet 76 = .ok (.iastore, 1) := by decide +kernel
theorem dX7_sheet_77 : decode cX7_sheet 77 = .ok (.iinc 4 1, 3) := by decide +kernel
theorem dX7_sheet_80 : decode cX7_sheet 80 = .ok (.goto (-23), 3) := by decide +kernel
theorem dX7_sheet_83 : decode cX7_sheet 83 = .ok (.iconst 1, 1) := by decide +kernel
theorem dX7_sheet_84 : decode cX7_sheet 84 = .ok (.ireturn, 1) := by decide +kernel
set_option maxRecDepth 20000 in
theorem ggX7_lose_X7_isSheet : GoodIn wsX7_lose wsX7_isSheet := goodIn_r _ [5, 6, 7, 4, 8] (by decide +kernel) (by decide +kernel)
set_option maxRecDepth 20000 in
theorem gX7_lose_X7_isSheet : GoodIn wsX7_lose (va_wsS RX7 77 yX7_isSheet wsX7_isSheet) := goodIn_app (goodIn_of _ (by decide +kernel)) ggX7_lose_X7_isSheet
theorem dX7_lose_0 : decode cX7_lose 0 = .ok (.iload_n 1, 1) := by decide +kernel
theorem dX7_lose_1 : decode cX7_lose 1 = .ok (.invokestatic 77, 3) := by decide +kernel
theorem dX7_lose_4 : decode cX7_lose 4 = .ok (.ifCond .ne 5, 3) := by decide +kernel
theorem dX7_lose_7 : decode cX7_lose 7 = .ok (.iconst (-1), 1) := by decide +kernel
theorem dX7_lose_8 : decode cX7_lose 8 = .ok (.ireturn, 1) := by decide +kernel
theorem dX7_lose_9 : decode cX7_lose 9 = .ok (.aload_n 0, 1) := by decide +kernel
theorem dX7_lose_10 : decode cX7_lose 10 = .ok (.getfield 9, 3) := by decide +kernel
theorem dX7_lose_13 : decode cX7_lose 13 = .ok (.iload_n 1, 1) := by decide +kernel
theorem dX7_lose_14 : decode cX7_lose 14 = .ok (.iaload, 1) := by decide +kernel
theorem dX7_lose_15 : decode cX7_lose 15 = .ok (.bipush (-9), 2) := by decide +kernel
theorem dX7_lose_17 : decode cX7_lose 17 = .ok (.if_icmp .ne 7, 3) := by decide +kernel
theorem dX7_lose_20 : decode cX7_lose 20 = .ok (.iconst 0, 1) := by decide +kernel
theorem dX7_lose_21 : decode cX7_lose 21 = .ok (.goto 4, 3) := by decide +kernel
theorem dX7_lose_24 : decode cX7_lose 24 = .ok (.iconst 1, 1) := by decide +kernel
theorem dX7_lose_25 : decode cX7_lose 25 = .ok (.istore_n 2, 1) := by decide +kernel
theorem dX7_lose_26 : decode cX7_lose 26 = .ok (.aload_n 0, 1) := by decide +kernel
theorem dX7_lose_27 : decode cX7_lose 27 = .ok (.getfield 9, 3) := by decide +kernel
theorem dX7_lose_30 : decode cX7_lose 30 = .ok (.iload_n 1, 1) := by decide +kernel
theorem dX7_lose_31 : decode cX7_lose 31 = .ok (.bipush (-9), 2) := by decide +kernel
theorem dX7_lose_33 : decode cX7_lose 33 = .ok (.iastore, 1) := by decide +kernel
theorem dX7_lose_34 : decode cX7_lose 34 = .ok (.iload_n 2, 1) := by decide +kernel
theorem dX7_lose_35 : decode cX7_lose 35 = .ok (.ireturn, 1) := by decide +kernel
set_option maxRecDepth 20000 in
theorem ggX7_put_X7_isSheet : GoodIn wsX7_put wsX7_isSheet := goodIn_r _ [8, 9, 10, 7, 11] (by decide +kernel) (by decide +kernel)
set_option maxRecDepth 20000 in
theorem gX7_put_X7_isSheet : GoodIn wsX7_put (va_wsS RX7 77 yX7_isSheet wsX7_isSheet) := goodIn_app (goodIn_of _ (by decide +kernel)) ggX7_put_X7_isSheet
set_option maxRecDepth 20000 in
theorem ggX7_put_X7_fails : GoodIn wsX7_put wsX7_fails := goodIn_r _ [15, 1, 16, 17, 18, 19, 20, 21, 22, 23, 24, 25, 26, 27, 28, 29, 30, 31, 32, 33, 34, 35, 36, 37, 38, 39, 40, 41, 42, 43, 44, 45] (by decide +kernel) (by decide +kernel)
set_option maxRecDepth 20000 in
theorem gX7_put_X7_fails : GoodIn wsX7_put (wsV RX7 88 RX7 yX7_fails wsX7_fails) := goodIn_app (goodIn_of _ (by decide +kernel)) ggX7_put_X7_fails
set_option maxRecDepth 20000 in
theorem ggX7_put_X7_within : GoodIn wsX7_put wsX7_within := goodIn_r _ [11] (by decide +kernel) (by decide +kernel)
set_option maxRecDepth 20000 in
theorem gX7_put_X7_within : GoodIn wsX7_put (va_wsS RX7 67 yX7_within wsX7_within) := goodIn_app (goodIn_of _ (by decide +kernel)) ggX7_put_X7_within
theorem dX7_put_0 : decode cX7_put 0 = .ok (.aload_n 0, 1) := by decide +kernel
theorem dX7_put_1 : decode cX7_put 1 = .ok (.iconst 0, 1) := by decide +kernel
theorem dX7_put_2 : decode cX7_put 2 = .ok (.putfield 61, 3) := by decide +kernel
theorem dX7_put_5 : decode cX7_put 5 = .ok (.iload_n 1, 1) := by decide +kernel
theorem dX7_put_6 : decode cX7_put 6 = .ok (.invokestatic 77, 3) := by decide +kernel
theorem dX7_put_9 : decode cX7_put 9 = .ok (.ifCond .ne 5, 3) := by decide +kernel
theorem dX7_put_12 : decode cX7_put 12 = .ok (.iconst (-1), 1) := by decide +kernel
theorem dX7_put_13 : decode cX7_put 13 = .ok (.ireturn, 1) := by decide +kernel
theorem dX7_put_14 : decode cX7_put 14 = .ok (.aload_n 0, 1) := by decide +kernel
theorem dX7_put_15 : decode cX7_put 15 = .ok (.getfield 9, 3) := by decide +kernel
theorem dX7_put_18 : decode cX7_put 18 = .ok (.iload_n 1, 1) := by decide +kernel
theorem dX7_put_19 : decode cX7_put 19 = .ok (.iaload, 1) := by decide +kernel
theorem dX7_put_20 : decode cX7_put 20 = .ok (.bipush (-9), 2) := by decide +kernel
theorem dX7_put_22 : decode cX7_put 22 = .ok (.if_icmp .ne 9, 3) := by decide +kernel
theorem dX7_put_25 : decode cX7_put 25 = .ok (.aload_n 0, 1) := by decide +kernel
theorem dX7_put_26 : decode cX7_put 26 = .ok (.iconst 1, 1) := by decide +kernel
theorem dX7_put_27 : decode cX7_put 27 = .ok (.invokevirtual 88, 3) := by decide +kernel
theorem dX7_put_30 : decode cX7_put 30 = .ok (.ireturn, 1) := by decide +kernel
theorem dX7_put_31 : decode cX7_put 31 = .ok (.iload_n 2, 1) := by decide +kernel
theorem dX7_put_32 : decode cX7_put 32 = .ok (.iconst 0, 1) := by decide +kernel
theorem dX7_put_33 : decode cX7_put 33 = .ok (.aload_n 0, 1) := by decide +kernel
theorem dX7_put_34 : decode cX7_put 34 = .ok (.getfield 13, 3) := by decide +kernel
theorem dX7_put_37 : decode cX7_put 37 = .ok (.iload_n 1, 1) := by decide +kernel
theorem dX7_put_38 : decode cX7_put 38 = .ok (.iaload, 1) := by decide +kernel
theorem dX7_put_39 : decode cX7_put 39 = .ok (.iconst 1, 1) := by decide +kernel
theorem dX7_put_40 : decode cX7_put 40 = .ok (.isub, 1) := by decide +kernel
theorem dX7_put_41 : decode cX7_put 41 = .ok (.invokestatic 67, 3) := by decide +kernel
theorem dX7_put_44 : decode cX7_put 44 = .ok (.ifCond .ne 9, 3) := by decide +kernel
theorem dX7_put_47 : decode cX7_put 47 = .ok (.aload_n 0, 1) := by decide +kernel
theorem dX7_put_48 : decode cX7_put 48 = .ok (.iconst 3, 1) := by decide +kernel
theorem dX7_put_49 : decode cX7_put 49 = .ok (.invokevirtual 88, 3) := by decide +kernel
theorem dX7_put_52 : decode cX7_put 52 = .ok (.ireturn, 1) := by decide +kernel
theorem dX7_put_53 : decode cX7_put 53 = .ok (.aload_n 0, 1) := by decide +kernel
theorem dX7_put_54 : decode cX7_put 54 = .ok (.getfield 16, 3) := by decide +kernel
theorem dX7_put_57 : decode cX7_put 57 = .ok (.bipush 60, 2) := by decide +kernel
theorem dX7_put_59 : decode cX7_put 59 = .ok (.iload_n 1, 1) := by decide +kernel
theorem dX7_put_60 : decode cX7_put 60 = .ok (.imul, 1) := by decide +kernel
theorem dX7_put_61 : decode cX7_put 61 = .ok (.iload_n 2, 1) := by decide +kernel
theorem dX7_put_62 : decode cX7_put 62 = .ok (.iadd, 1) := by decide +kernel
theorem dX7_put_63 : decode cX7_put 63 = .ok (.aload_n 0, 1) := by decide +kernel
theorem dX7_put_64 : decode cX7_put 64 = .ok (.getfield 9, 3) := by decide +kernel
theorem dX7_put_67 : decode cX7_put 67 = .ok (.iload_n 1, 1) := by decide +kernel
theorem dX7_put_68 : decode cX7_put 68 = .ok (.iaload, 1) := by decide +kernel
theorem dX7_put_69 : decode cX7_put 69 = .ok (.ifCond .ne 8, 3) := by decide +kernel
theorem dX7_put_72 : decode cX7_put 72 = .ok (.iload_n 3, 1) := by decide +kernel
theorem dX7_put_73 : decode cX7_put 73 = .ok (.i2b, 1) := by decide +kernel
theorem dX7_put_74 : decode cX7_put 74 = .ok (.goto 19, 3) := by decide +kernel
theorem dX7_put_77 : decode cX7_put 77 = .ok (.aload_n 0, 1) := by decide +kernel
theorem dX7_put_78 : decode cX7_put 78 = .ok (.getfield 9, 3) := by decide +kernel
theorem dX7_put_81 : decode cX7_put 81 = .ok (.iload_n 1, 1) := by decide +kernel
theorem dX7_put_82 : decode cX7_put 82 = .ok (.iaload, 1) := by decide +kernel
theorem dX7_put_83 : decode cX7_put 83 = .ok (.iconst 1, 1) := by decide +kernel
theorem dX7_put_84 : decode cX7_put 84 = .ok (.if_icmp .ne 8, 3) := by decide +kernel
theorem dX7_put_87 : decode cX7_put 87 = .ok (.iload_n 3, 1) := by decide +kernel
theorem dX7_put_88 : decode cX7_put 88 = .ok (.i2s, 1) := by decide +kernel
theorem dX7_put_89 : decode cX7_put 89 = .ok (.goto 4, 3) := by decide +kernel
theorem dX7_put_92 : decode cX7_put 92 = .ok (.iload_n 3, 1) := by decide +kernel
theorem dX7_put_93 : decode cX7_put 93 = .ok (.iastore, 1) := by decide +kernel
theorem dX7_put_94 : decode cX7_put 94 = .ok (.iconst 1, 1) := by decide +kernel
theorem dX7_put_95 : decode cX7_put 95 = .ok (.ireturn, 1) := by decide +kernel
set_option maxRecDepth 20000 in
theorem ggX7_cell_X7_isSheet : GoodIn wsX7_cell wsX7_isSheet := goodIn_r _ [9, 10, 11, 8, 12] (by decide +kernel) (by decide +kernel)
set_option maxRecDepth 20000 in
theorem gX7_cell_X7_isSheet : GoodIn wsX7_cell (va_wsS RX7 77 yX7_isSheet wsX7_isSheet) := goodIn_app (goodIn_of _ (by decide +kernel)) ggX7_cell_X7_isSheet
set_option maxRecDepth 20000 in
theorem ggX7_cell_X7_isSort : GoodIn wsX7_cell wsX7_isSort := goodIn_r _ [15, 10, 11, 8, 12] (by decide +kernel) (by decide +kernel)
set_option maxRecDepth 20000 in
theorem gX7_cell_X7_isSort : GoodIn wsX7_cell (va_wsS RX7 81 yX7_isSort wsX7_isSort) := goodIn_app (goodIn_of _ (by decide +kernel)) ggX7_cell_X7_isSort
set_option maxRecDepth 20000 in
theorem ggX7_cell_X7_lost : GoodIn wsX7_cell wsX7_lost := goodIn_r _ [19, 1, 2, 20, 21, 22, 23, 24, 25, 26, 27, 28, 29, 30, 31, 32, 33, 34, 35, 36, 37, 38, 39, 40, 41, 42, 43, 44, 45, 46, 47, 48, 49] (by decide +kernel) (by decide +kernel)
set_option maxRecDepth 20000 in
theorem gX7_cell_X7_lost : GoodIn wsX7_cell (wsV RX7 183 RX7 yX7_lost wsX7_lost) := goodIn_app (goodIn_of _ (by decide +kernel)) ggX7_cell_X7_lost
set_option maxRecDepth 20000 in
theorem ggX7_cell_X7_within : GoodIn wsX7_cell wsX7_within := goodIn_r _ [12] (by decide +kernel) (by decide +kernel)
set_option maxRecDepth 20000 in
theorem gX7_cell_X7_within : GoodIn wsX7_cell (va_wsS RX7 67 yX7_within wsX7_within) := goodIn_app (goodIn_of _ (by decide +kernel)) ggX7_cell_X7_within
theorem dX7_cell_0 : decode cX7_cell 0 = .ok (.aload_n 0, 1) := by decide +kernel
theorem dX7_cell_1 : decode cX7_cell 1 = .ok (.iconst 0, 1) := by decide +kernel
theorem dX7_cell_2 : decode cX7_cell 2 = .ok (.putfield 61, 3) := by decide +kernel
theorem dX7_cell_5 : decode cX7_cell 5 = .ok (.iload_n 1, 1) := by decide +kernel
theorem dX7_cell_6 : decode cX7_cell 6 = .ok (.invokestatic 77, 3) := by decide +kernel
theorem dX7_cell_9 : decode cX7_cell 9 = .ok (.ifCond .eq 10, 3) := by decide +kernel
theorem dX7_cell_12 : decode cX7_cell 12 = .ok (.iload_n 3, 1) := by decide +kernel
theorem dX7_cell_13 : decode cX7_cell 13 = .ok (.invokestatic 81, 3) := by decide +kernel
theorem dX7_cell_16 : decode cX7_cell 16 = .ok (.ifCond .ne 7, 3) := by decide +kernel
theorem dX7_cell_19 : decode cX7_cell 19 = .ok (.ldc2_w 65, 3) := by decide +kernel
theorem dX7_cell_22 : decode cX7_cell 22 = .ok (.lreturn, 1) := by decide +kernel
theorem dX7_cell_23 : decode cX7_cell 23 = .ok (.aload_n 0, 1) := by decide +kernel
theorem dX7_cell_24 : decode cX7_cell 24 = .ok (.getfield 9, 3) := by decide +kernel
theorem dX7_cell_27 : decode cX7_cell 27 = .ok (.iload_n 1, 1) := by decide +kernel
theorem dX7_cell_28 : decode cX7_cell 28 = .ok (.iaload, 1) := by decide +kernel
theorem dX7_cell_29 : decode cX7_cell 29 = .ok (.bipush (-9), 2) := by decide +kernel
theorem dX7_cell_31 : decode cX7_cell 31 = .ok (.if_icmp .eq 19, 3) := by decide +kernel
theorem dX7_cell_34 : decode cX7_cell 34 = .ok (.aload_n 0, 1) := by decide +kernel
theorem dX7_cell_35 : decode cX7_cell 35 = .ok (.getfield 9, 3) := by decide +kernel
theorem dX7_cell_38 : decode cX7_cell 38 = .ok (.iload_n 1, 1) := by decide +kernel
theorem dX7_cell_39 : decode cX7_cell 39 = .ok (.iaload, 1) := by decide +kernel
theorem dX7_cell_40 : decode cX7_cell 40 = .ok (.iload_n 3, 1) := by decide +kernel
theorem dX7_cell_41 : decode cX7_cell 41 = .ok (.if_icmp .eq 9, 3) := by decide +kernel
theorem dX7_cell_44 : decode cX7_cell 44 = .ok (.aload_n 0, 1) := by decide +kernel
theorem dX7_cell_45 : decode cX7_cell 45 = .ok (.iconst 2, 1) := by decide +kernel
theorem dX7_cell_46 : decode cX7_cell 46 = .ok (.invokevirtual 183, 3) := by decide +kernel
theorem dX7_cell_49 : decode cX7_cell 49 = .ok (.lreturn, 1) := by decide +kernel
theorem dX7_cell_50 : decode cX7_cell 50 = .ok (.aload_n 0, 1) := by decide +kernel
theorem dX7_cell_51 : decode cX7_cell 51 = .ok (.getfield 9, 3) := by decide +kernel
theorem dX7_cell_54 : decode cX7_cell 54 = .ok (.iload_n 1, 1) := by decide +kernel
theorem dX7_cell_55 : decode cX7_cell 55 = .ok (.iaload, 1) := by decide +kernel
theorem dX7_cell_56 : decode cX7_cell 56 = .ok (.bipush (-9), 2) := by decide +kernel
theorem dX7_cell_58 : decode cX7_cell 58 = .ok (.if_icmp .ne 9, 3) := by decide +kernel
theorem dX7_cell_61 : decode cX7_cell 61 = .ok (.aload_n 0, 1) := by decide +kernel
theorem dX7_cell_62 : decode cX7_cell 62 = .ok (.iconst 1, 1) := by decide +kernel
theorem dX7_cell_63 : decode cX7_cell 63 = .ok (.invokevirtual 183, 3) := by decide +kernel
theorem dX7_cell_66 : decode cX7_cell 66 = .ok (.lreturn, 1) := by decide +kernel
theorem dX7_cell_67 : decode cX7_cell 67 = .ok (.iload_n 2, 1) := by decide +kernel
theorem dX7_cell_68 : decode cX7_cell 68 = .ok (.iconst 0, 1) := by decide +kernel
theorem dX7_cell_69 : decode cX7_cell 69 = .ok (.aload_n 0, 1) := by decide +kernel
theorem dX7_cell_70 : decode cX7_cell 70 = .ok (.getfield 13, 3) := by decide +kernel
theorem dX7_cell_73 : decode cX7_cell 73 = .ok (.iload_n 1, 1) := by decide +kernel
theorem dX7_cell_74 : decode cX7_cell 74 = .ok (.iaload, 1) := by decide +kernel
theorem dX7_cell_75 : decode cX7_cell 75 = .ok (.iconst 1, 1) := by decide +kernel
theorem dX7_cell_76 : decode cX7_cell 76 = .ok (.isub, 1) := by decide +kernel
theorem dX7_cell_77 : decode cX7_cell 77 = .ok (.invokestatic 67, 3) := by decide +kernel
theorem dX7_cell_80 : decode cX7_cell 80 = .ok (.ifCond .ne 9, 3) := by decide +kernel
theorem dX7_cell_83 : decode cX7_cell 83 = .ok (.aload_n 0, 1) := by decide +kernel
theorem dX7_cell_84 : decode cX7_cell 84 = .ok (.iconst 3, 1) := by decide +kernel
theorem dX7_cell_85 : decode cX7_cell 85 = .ok (.invokevirtual 183, 3) := by decide +kernel
theorem dX7_cell_88 : decode cX7_cell 88 = .ok (.lreturn, 1) := by decide +kernel
theorem dX7_cell_89 : decode cX7_cell 89 = .ok (.aload_n 0, 1) := by decide +kernel
theorem dX7_cell_90 : decode cX7_cell 90 = .ok (.getfield 16, 3) := by decide +kernel
theorem dX7_cell_93 : decode cX7_cell 93 = .ok (.bipush 60, 2) := by decide +kernel
theorem dX7_cell_95 : decode cX7_cell 95 = .ok (.iload_n 1, 1) := by decide +kernel
theorem dX7_cell_96 : decode cX7_cell 96 = .ok (.imul, 1) := by decide +kernel
theorem dX7_cell_97 : decode cX7_cell 97 = .ok (.iload_n 2, 1) := by decide +kernel
theorem dX7_cell_98 : decode cX7_cell 98 = .ok (.iadd, 1) := by decide +kernel
theorem dX7_cell_99 : decode cX7_cell 99 = .ok (.iaload, 1) := by decide +kernel
theorem dX7_cell_100 : decode cX7_cell 100 = .ok (.i2l, 1) := by decide +kernel
theorem dX7_cell_101 : decode cX7_cell 101 = .ok (.lreturn, 1) := by decide +kernel
set_option maxRecDepth 20000 in
theorem ggX7_copy_X7_isSheet : GoodIn wsX7_copy wsX7_isSheet := goodIn_r _ [8, 9, 10, 7, 11] (by decide +kernel) (by decide +kernel)
set_option maxRecDepth 20000 in
theorem gX7_copy_X7_isSheet : GoodIn wsX7_copy (va_wsS RX7 77 yX7_isSheet wsX7_isSheet) := goodIn_app (goodIn_of _ (by decide +kernel)) ggX7_copy_X7_isSheet
set_option maxRecDepth 20000 in
theorem ggX7_copy_X7_fails : GoodIn wsX7_copy wsX7_fails := goodIn_r _ [15, 1, 16, 17, 18, 19, 20, 21, 22, 23, 24, 25, 26, 27, 28, 29, 30, 31, 32, 33, 34, 35, 36, 37, 38, 39, 40, 41, 42, 43, 44, 45] (by decide +kernel) (by decide +kernel)
set_option maxRecDepth 20000 in
theorem gX7_copy_X7_fails : GoodIn wsX7_copy (wsV RX7 88 RX7 yX7_fails wsX7_fails) := goodIn_app (goodIn_of _ (by decide +kernel)) ggX7_copy_X7_fails
theorem dX7_copy_0 : decode cX7_copy 0 = .ok (.aload_n 0, 1) := by decide +kernel
theorem dX7_copy_1 : decode cX7_copy 1 = .ok (.iconst 0, 1) := by decide +kernel
theorem dX7_copy_2 : decode cX7_copy 2 = .ok (.putfield 61, 3) := by decide +kernel
theorem dX7_copy_5 : decode cX7_copy 5 = .ok (.iload_n 1, 1) := by decide +kernel
theorem dX7_copy_6 : decode cX7_copy 6 = .ok (.invokestatic 77, 3) := by decide +kernel
theorem dX7_copy_9 : decode cX7_copy 9 = .ok (.ifCond .eq 10, 3) := by decide +kernel
theorem dX7_copy_12 : decode cX7_copy 12 = .ok (.iload_n 3, 1) := by decide +kernel
theorem dX7_copy_13 : decode cX7_copy 13 = .ok (.invokestatic 77, 3) := by decide +kernel
theorem dX7_copy_16 : decode cX7_copy 16 = .ok (.ifCond .ne 5, 3) := by decide +kernel
theorem dX7_copy_19 : decode cX7_copy 19 = .ok (.iconst (-1), 1) := by decide +kernel
theorem dX7_copy_20 : decode cX7_copy 20 = .ok (.ireturn, 1) := by decide +kernel
theorem dX7_copy_21 : decode cX7_copy 21 = .ok (.aload_n 0, 1) := by decide +kernel
theorem dX7_copy_22 : decode cX7_copy 22 = .ok (.getfield 9, 3) := by decide +kernel
theorem dX7_copy_25 : decode cX7_copy 25 = .ok (.iload_n 1, 1) := by decide +kernel
theorem dX7_copy_26 : decode cX7_copy 26 = .ok (.iaload, 1) := by decide +kernel
theorem dX7_copy_27 : decode cX7_copy 27 = .ok (.bipush (-9), 2) := by decide +kernel
theorem dX7_copy_29 : decode cX7_copy 29 = .ok (.if_icmp .eq 14, 3) := by decide +kernel
theorem dX7_copy_32 : decode cX7_copy 32 = .ok (.aload_n 0, 1) := by decide +kernel
theorem dX7_copy_33 : decode cX7_copy 33 = .ok (.getfield 9, 3) := by decide +kernel
theorem dX7_copy_36 : decode cX7_copy 36 = .ok (.iload_n 3, 1) := by decide +kernel
theorem dX7_copy_37 : decode cX7_copy 37 = .ok (.iaload, 1) := by decide +kernel
theorem dX7_copy_38 : decode cX7_copy 38 = .ok (.bipush (-9), 2) := by decide +kernel
theorem dX7_copy_40 : decode cX7_copy 40 = .ok (.if_icmp .ne 9, 3) := by decide +kernel
theorem dX7_copy_43 : decode cX7_copy 43 = .ok (.aload_n 0, 1) := by decide +kernel
theorem dX7_copy_44 : decode cX7_copy 44 = .ok (.iconst 1, 1) := by decide +kernel
theorem dX7_copy_45 : decode cX7_copy 45 = .ok (.invokevirtual 88, 3) := by decide +kernel
theorem dX7_copy_48 : decode cX7_copy 48 = .ok (.ireturn, 1) := by decide +kernel
theorem dX7_copy_49 : decode cX7_copy 49 = .ok (.aload_n 0, 1) := by decide +kernel
theorem dX7_copy_50 : decode cX7_copy 50 = .ok (.getfield 9, 3) := by decide +kernel
theorem dX7_copy_53 : decode cX7_copy 53 = .ok (.iload_n 1, 1) := by decide +kernel
theorem dX7_copy_54 : decode cX7_copy 54 = .ok (.iaload, 1) := by decide +kernel
theorem dX7_copy_55 : decode cX7_copy 55 = .ok (.aload_n 0, 1) := by decide +kernel
theorem dX7_copy_56 : decode cX7_copy 56 = .ok (.getfield 9, 3) := by decide +kernel
theorem dX7_copy_59 : decode cX7_copy 59 = .ok (.iload_n 3, 1) := by decide +kernel
theorem dX7_copy_60 : decode cX7_copy 60 = .ok (.iaload, 1) := by decide +kernel
theorem dX7_copy_61 : decode cX7_copy 61 = .ok (.if_icmp .eq 9, 3) := by decide +kernel
theorem dX7_copy_64 : decode cX7_copy 64 = .ok (.aload_n 0, 1) := by decide +kernel
theorem dX7_copy_65 : decode cX7_copy 65 = .ok (.iconst 2, 1) := by decide +kernel
theorem dX7_copy_66 : decode cX7_copy 66 = .ok (.invokevirtual 88, 3) := by decide +kernel
theorem dX7_copy_69 : decode cX7_copy 69 = .ok (.ireturn, 1) := by decide +kernel
theorem dX7_copy_70 : decode cX7_copy 70 = .ok (.iload_n 2, 1) := by decide +kernel
theorem dX7_copy_71 : decode cX7_copy 71 = .ok (.ifCond .lt 38, 3) := by decide +kernel
theorem dX7_copy_74 : decode cX7_copy 74 = .ok (.iload 4, 2) := by decide +kernel
theorem dX7_copy_76 : decode cX7_copy 76 = .ok (.ifCond .lt 33, 3) := by decide +kernel
theorem dX7_copy_79 : decode cX7_copy 79 = .ok (.iload 5, 2) := by decide +kernel
theorem dX7_copy_81 : decode cX7_copy 81 = .ok (.ifCond .lt 28, 3) := by decide +kernel
theorem dX7_copy_84 : decode cX7_copy 84 = .ok (.iload_n 2, 1) := by decide +kernel
theorem dX7_copy_85 : decode cX7_copy 85 = .ok (.aload_n 0, 1) := by decide +kernel
theorem dX7_copy_86 : decode cX7_copy 86 = .ok (.getfield 13, 3) := by decide +kernel
theorem dX7_copy_89 : decode cX7_copy 89 = .ok (.iload_n 1, 1) := by decide +kernel
theorem dX7_copy_90 : decode cX7_copy 90 = .ok (.iaload, 1) := by decide +kernel
theorem dX7_copy_91 : decode cX7_copy 91 = .ok (.if_icmp .gt 18, 3) := by decide +kernel
theorem dX7_copy_94 : decode cX7_copy 94 = .ok (.iload 4, 2) := by decide +kernel
theorem dX7_copy_96 : decode cX7_copy 96 = .ok (.aload_n 0, 1) := by decide +kernel
theorem dX7_copy_97 : decode cX7_copy 97 = .ok (.getfield 13, 3) := by decide +kernel
theorem dX7_copy_100 : decode cX7_copy 100 = .ok (.iload_n 3, 1) := by decide +kernel
theorem dX7_copy_101 : decode cX7_copy 101 = .ok (.iaload, 1) := by decide +kernel
theorem dX7_copy_102 : decode cX7_copy 102 = .ok (.if_icmp .gt 7, 3) := by decide +kernel
theorem dX7_copy_105 : decode cX7_copy 105 = .ok (.iconst 1, 1) := by decide +kernel
theorem dX7_copy_106 : decode cX7_copy 106 = .ok (.goto 4, 3) := by decide +kernel
theorem dX7_copy_109 : decode cX7_copy 109 = .ok (.iconst 0, 1) := by decide +kernel
theorem dX7_copy_110 : decode cX7_copy 110 = .ok (.istore 6, 2) := by decide +kernel
theorem dX7_copy_112 : decode cX7_copy 112 = .ok (.iload 6, 2) := by decide +kernel
theorem dX7_copy_114 : decode cX7_copy 114 = .ok (.ifCond .eq 30, 3) := by decide +kernel
theorem dX7_copy_117 : decode cX7_copy 117 = .ok (.iload 5, 2) := by decide +kernel
theorem dX7_copy_119 : decode cX7_copy 119 = .ok (.aload_n 0, 1) := by decide +kernel
theorem dX7_copy_120 : decode cX7_copy 120 = .ok (.getfield 13, 3) := by decide +kernel
theorem dX7_copy_123 : decode cX7_copy 123 = .ok (.iload_n 1, 1) := by decide +kernel
theorem dX7_copy_124 : decode cX7_copy 124 = .ok (.iaload, 1) := by decide +kernel
theorem dX7_copy_125 : decode cX7_copy 125 = .ok (.iload_n 2, 1) := by decide +kernel
theorem dX7_copy_126 : decode cX7_copy 126 = .ok (.isub, 1) := by decide +kernel
theorem dX7_copy_127 : decode cX7_copy 127 = .ok (.if_icmp .gt 17, 3) := by decide +kernel
theorem dX7_copy_130 : decode cX7_copy 130 = .ok (.iload 5, 2) := by decide +kernel
theorem dX7_copy_132 : decode cX7_copy 132 = .ok (.aload_n 0, 1) := by decide +kernel
theorem dX7_copy_133 : decode cX7_copy 133 = .ok (.getfield 13, 3) := by decide +kernel
theorem dX7_copy_136 : decode cX7_copy 136 = .ok (.iload_n 3, 1) := by decide +kernel
theorem dX7_copy_137 : decode cX7_copy 137 = .ok (.iaload, 1) := by decide +kernel
theorem dX7_copy_138 : decode cX7_copy 138 = .ok (.iload 4, 2) := by decide +kernel
theorem dX7_copy_140 : decode cX7_copy 140 = .ok (.isub, 1) := by decide +kernel
theorem dX7_copy_141 : decode cX7_copy 141 = .ok (.if_icmp .le 9, 3) := by decide +kernel
theorem dX7_copy_144 : decode cX7_copy 144 = .ok (.aload_n 0, 1) := by decide +kernel
theorem dX7_copy_145 : decode cX7_copy 145 = .ok (.iconst 3, 1) := by decide +kernel
theorem dX7_copy_146 : decode cX7_copy 146 = .ok (.invokevirtual 88, 3) := by decide +kernel
theorem dX7_copy_149 : decode cX7_copy 149 = .ok (.ireturn, 1) := by decide +kernel
theorem dX7_copy_150 : decode cX7_copy 150 = .ok (.iload_n 2, 1) := by decide +kernel
theorem dX7_copy_151 : decode cX7_copy 151 = .ok (.iload 4, 2) := by decide +kernel
theorem dX7_copy_153 : decode cX7_copy 153 = .ok (.if_icmp .ge 7, 3) := by decide +kernel
theorem dX7_copy_156 : decode cX7_copy 156 = .ok (.iconst 1, 1) := by decide +kernel
theorem dX7_copy_157 : decode cX7_copy 157 = .ok (.goto 4, 3) := by decide +kernel
theorem dX7_copy_160 : decode cX7_copy 160 = .ok (.iconst 0, 1) := by decide +kernel
theorem dX7_copy_161 : decode cX7_copy 161 = .ok (.istore 7, 2) := by decide +kernel
theorem dX7_copy_163 : decode cX7_copy 163 = .ok (.iconst 0, 1) := by decide +kernel
theorem dX7_copy_164 : decode cX7_copy 164 = .ok (.istore 8, 2) := by decide +kernel
theorem dX7_copy_166 : decode cX7_copy 166 = .ok (.iload 8, 2) := by decide +kernel
theorem dX7_copy_168 : decode cX7_copy 168 = .ok (.iload 5, 2) := by decide +kernel
theorem dX7_copy_170 : decode cX7_copy 170 = .ok (.if_icmp .ge 57, 3) := by decide +kernel
theorem dX7_copy_173 : decode cX7_copy 173 = .ok (.iload 7, 2) := by decide +kernel
theorem dX7_copy_175 : decode cX7_copy 175 = .ok (.ifCond .eq 13, 3) := by decide +kernel
theorem dX7_copy_178 : decode cX7_copy 178 = .ok (.iload 5, 2) := by decide +kernel
theorem dX7_copy_180 : decode cX7_copy 180 = .ok (.iconst 1, 1) := by decide +kernel
theorem dX7_copy_181 : decode cX7_copy 181 = .ok (.isub, 1) := by decide +kernel
theorem dX7_copy_182 : decode cX7_copy 182 = .ok (.iload 8, 2) := by decide +kernel
theorem dX7_copy_184 : decode cX7_copy 184 = .ok (.isub, 1) := by decide +kernel
theorem dX7_copy_185 : decode cX7_copy 185 = .ok (.goto 5, 3) := by decide +kernel
theorem dX7_copy_188 : decode cX7_copy 188 = .ok (.iload 8, 2) := by decide +kernel
theorem dX7_copy_190 : decode cX7_copy 190 = .ok (.istore 9, 2) := by decide +kernel
theorem dX7_copy_192 : decode cX7_copy 192 = .ok (.aload_n 0, 1) := by decide +kernel
theorem dX7_copy_193 : decode cX7_copy 193 = .ok (.getfield 16, 3) := by decide +kernel
theorem dX7_copy_196 : decode cX7_copy 196 = .ok (.bipush 60, 2) := by decide +kernel
theorem dX7_copy_198 : decode cX7_copy 198 = .ok (.iload_n 3, 1) := by decide +kernel
theorem dX7_copy_199 : decode cX7_copy 199 = .ok (.imul, 1) := by decide +kernel
theorem dX7_copy_200 : decode cX7_copy 200 = .ok (.iload 4, 2) := by decide +kernel
theorem dX7_copy_202 : decode cX7_copy 202 = .ok (.iadd, 1) := by decide +kernel
theorem dX7_copy_203 : decode cX7_copy 203 = .ok (.iload 9, 2) := by decide +kernel
theorem dX7_copy_205 : decode cX7_copy 205 = .ok (.iadd, 1) := by decide +kernel
theorem dX7_copy_206 : decode cX7_copy 206 = .ok (.aload_n 0, 1) := by decide +kernel
theorem dX7_copy_207 : decode cX7_copy 207 = .ok (.getfield 16, 3) := by decide +kernel
theorem dX7_copy_210 : decode cX7_copy 210 = .ok (.bipush 60, 2) := by decide +kernel
theorem dX7_copy_212 : decode cX7_copy 212 = .ok (.iload_n 1, 1) := by decide +kernel
theorem dX7_copy_213 : decode cX7_copy 213 = .ok (.imul, 1) := by decide +kernel
theorem dX7_copy_214 : decode cX7_copy 214 = .ok (.iload_n 2, 1) := by decide +kernel
theorem dX7_copy_215 : decode cX7_copy 215 = .ok (.iadd, 1) := by decide +kernel
theorem dX7_copy_216 : decode cX7_copy 216 = .ok (.iload 9, 2) := by decide +kernel
theorem dX7_copy_218 : decode cX7_copy 218 = .ok (.iadd, 1) := by decide +kernel
theorem dX7_copy_219 : decode cX7_copy 219 = .ok (.iaload, 1) := by decide +kernel
theorem dX7_copy_220 : decode cX7_copy 220 = .ok (.iastore, 1) := by decide +kernel
theorem dX7_copy_221 : decode cX7_copy 221 = .ok (.iinc 8 1, 3) := by decide +kernel
theorem dX7_copy_224 : decode cX7_copy 224 = .ok (.goto (-58), 3) := by decide +kernel
theorem dX7_copy_227 : decode cX7_copy 227 = .ok (.iload 5, 2) := by decide +kernel
theorem dX7_copy_229 : decode cX7_copy 229 = .ok (.ireturn, 1) := by decide +kernel
theorem dX7_begins_0 : decode cX7_begins 0 = .ok (.aload_n 0, 1) := by decide +kernel
theorem dX7_begins_1 : decode cX7_begins 1 = .ok (.bipush 31, 2) := by decide +kernel
theorem dX7_begins_3 : decode cX7_begins 3 = .ok (.aload_n 0, 1) := by decide +kernel
theorem dX7_begins_4 : decode cX7_begins 4 = .ok (.getfield 187, 3) := by decide +kernel
theorem dX7_begins_7 : decode cX7_begins 7 = .ok (.imul, 1) := by decide +kernel
theorem dX7_begins_8 : decode cX7_begins 8 = .ok (.iload_n 1, 1) := by decide +kernel
theorem dX7_begins_9 : decode cX7_begins 9 = .ok (.iadd, 1) := by decide +kernel
theorem dX7_begins_10 : decode cX7_begins 10 = .ok (.putfield 187, 3) := by decide +kernel
theorem dX7_begins_13 : decode cX7_begins 13 = .ok (.return_, 1) := by decide +kernel
set_option maxRecDepth 20000 in
theorem ggX7_tell_X7_isThing : GoodIn wsX7_tell wsX7_isThing := goodIn_r _ [7, 8, 14, 15, 16, 17, 18, 19, 20, 21, 22, 23, 24, 25, 26, 27, 28, 29, 30, 31, 32, 33, 34, 35, 36, 37, 38, 39, 40, 41, 42, 43] (by decide +kernel) (by decide +kernel)
set_option maxRecDepth 20000 in
theorem gX7_tell_X7_isThing : GoodIn wsX7_tell (wsV RX7 129 RX7 yX7_isThing wsX7_isThing) := goodIn_app (goodIn_of _ (by decide +kernel)) ggX7_tell_X7_isThing
set_option maxRecDepth 20000 in
theorem ggX7_tell_X7_begins : GoodIn wsX7_tell wsX7_begins := goodIn_r _ [12, 13, 14, 15, 16, 17, 18, 19, 20, 21, 22, 23, 24, 25, 26, 27, 28, 29, 30, 31, 32, 33, 34, 35, 36, 37, 38, 39, 40, 41, 42, 43] (by decide +kernel) (by decide +kernel)
set_option maxRecDepth 20000 in
theorem gX7_tell_X7_begins : GoodIn wsX7_tell (wsV RX7 190 RX7 yX7_begins wsX7_begins) := goodIn_app (goodIn_of _ (by decide +kernel)) ggX7_tell_X7_begins
theorem dX7_tell_0 : decode cX7_tell 0 = .ok (.aload_n 0, 1) := by decide +kernel
theorem dX7_tell_1 : decode cX7_tell 1 = .ok (.iload_n 1, 1) := by decide +kernel
theorem dX7_tell_2 : decode cX7_tell 2 = .ok (.invokevirtual 129, 3) := by decide +kernel
theorem dX7_tell_5 : decode cX7_tell 5 = .ok (.ifCond .ne 5, 3) := by decide +kernel
theorem dX7_tell_8 : decode cX7_tell 8 = .ok (.iconst (-1), 1) := by decide +kernel
theorem dX7_tell_9 : decode cX7_tell 9 = .ok (.ireturn, 1) := by decide +kernel
theorem dX7_tell_10 : decode cX7_tell 10 = .ok (.aload_n 0, 1) := by decide +kernel
theorem dX7_tell_11 : decode cX7_tell 11 = .ok (.getfield 25, 3) := by decide +kernel
theorem dX7_tell_14 : decode cX7_tell 14 = .ok (.iload_n 1, 1) := by decide +kernel
theorem dX7_tell_15 : decode cX7_tell 15 = .ok (.iaload, 1) := by decide +kernel
theorem dX7_tell_16 : decode cX7_tell 16 = .ok (.istore_n 2, 1) := by decide +kernel
theorem dX7_tell_17 : decode cX7_tell 17 = .ok (.aload_n 0, 1) := by decide +kernel
theorem dX7_tell_18 : decode cX7_tell 18 = .ok (.getfield 22, 3) := by decide +kernel
theorem dX7_tell_21 : decode cX7_tell 21 = .ok (.iload_n 1, 1) := by decide +kernel
theorem dX7_tell_22 : decode cX7_tell 22 = .ok (.iaload, 1) := by decide +kernel
theorem dX7_tell_23 : decode cX7_tell 23 = .ok (.lookupswitch 67 #[(1, 25), (2, 40)], 25) := by decide +kernel
theorem dX7_tell_48 : decode cX7_tell 48 = .ok (.aload_n 0, 1) := by decide +kernel
theorem dX7_tell_49 : decode cX7_tell 49 = .ok (.iconst 2, 1) := by decide +kernel
theorem dX7_tell_50 : decode cX7_tell 50 = .ok (.invokevirtual 190, 3) := by decide +kernel
theorem dX7_tell_53 : decode cX7_tell 53 = .ok (.aload_n 0, 1) := by decide +kernel
theorem dX7_tell_54 : decode cX7_tell 54 = .ok (.iconst 1, 1) := by decide +kernel
theorem dX7_tell_55 : decode cX7_tell 55 = .ok (.invokevirtual 190, 3) := by decide +kernel
theorem dX7_tell_58 : decode cX7_tell 58 = .ok (.iload_n 2, 1) := by decide +kernel
theorem dX7_tell_59 : decode cX7_tell 59 = .ok (.bipush 100, 2) := by decide +kernel
theorem dX7_tell_61 : decode cX7_tell 61 = .ok (.iadd, 1) := by decide +kernel
theorem dX7_tell_62 : decode cX7_tell 62 = .ok (.ireturn, 1) := by decide +kernel
theorem dX7_tell_63 : decode cX7_tell 63 = .ok (.aload_n 0, 1) := by decide +kernel
theorem dX7_tell_64 : decode cX7_tell 64 = .ok (.iconst 3, 1) := by decide +kernel
theorem dX7_tell_65 : decode cX7_tell 65 = .ok (.invokevirtual 190, 3) := by decide +kernel
theorem dX7_tell_68 : decode cX7_tell 68 = .ok (.aload_n 0, 1) := by decide +kernel
theorem dX7_tell_69 : decode cX7_tell 69 = .ok (.iconst 2, 1) := by decide +kernel
theorem dX7_tell_70 : decode cX7_tell 70 = .ok (.invokevirtual 190, 3) := by decide +kernel
theorem dX7_tell_73 : decode cX7_tell 73 = .ok (.aload_n 0, 1) := by decide +kernel
theorem dX7_tell_74 : decode cX7_tell 74 = .ok (.iconst 1, 1) := by decide +kernel
theorem dX7_tell_75 : decode cX7_tell 75 = .ok (.invokevirtual 190, 3) := by decide +kernel
theorem dX7_tell_78 : decode cX7_tell 78 = .ok (.aload_n 0, 1) := by decide +kernel
theorem dX7_tell_79 : decode cX7_tell 79 = .ok (.iconst 1, 1) := by decide +kernel
theorem dX7_tell_80 : decode cX7_tell 80 = .ok (.invokevirtual 190, 3) := by decide +kernel
theorem dX7_tell_83 : decode cX7_tell 83 = .ok (.iconst 2, 1) := by decide +kernel
theorem dX7_tell_84 : decode cX7_tell 84 = .ok (.iload_n 2, 1) := by decide +kernel
theorem dX7_tell_85 : decode cX7_tell 85 = .ok (.imul, 1) := by decide +kernel
theorem dX7_tell_86 : decode cX7_tell 86 = .ok (.bipush 100, 2) := by decide +kernel
theorem dX7_tell_88 : decode cX7_tell 88 = .ok (.iadd, 1) := by decide +kernel
theorem dX7_tell_89 : decode cX7_tell 89 = .ok (.ireturn, 1) := by decide +kernel
theorem dX7_tell_90 : decode cX7_tell 90 = .ok (.aload_n 0, 1) := by decide +kernel
theorem dX7_tell_91 : decode cX7_tell 91 = .ok (.iconst 1, 1) := by decide +kernel
theorem dX7_tell_92 : decode cX7_tell 92 = .ok (.invokevirtual 190, 3) := by decide +kernel
theorem dX7_tell_95 : decode cX7_tell 95 = .ok (.iload_n 2, 1) := by decide +kernel
theorem dX7_tell_96 : decode cX7_tell 96 = .ok (.ireturn, 1) := by decide +kernel
set_option maxRecDepth 20000 in
theorem ggX7_splash_X7_isThing : GoodIn wsX7_splash wsX7_isThing := goodIn_r _ [6, 7, 13, 14, 15, 16, 17, 18, 19, 20, 21, 22, 23, 24, 25, 26, 27, 28, 29, 30, 31, 32, 33, 34, 35, 36, 37, 38, 39, 40, 41, 42] (by decide +kernel) (by decide +kernel)
set_option maxRecDepth 20000 in
theorem gX7_splash_X7_isThing : GoodIn wsX7_splash (wsV RX7 129 RX7 yX7_isThing wsX7_isThing) := goodIn_app (goodIn_of _ (by decide +kernel)) ggX7_splash_X7_isThing
set_option maxRecDepth 20000 in
theorem ggX7_splash_X7_begins : GoodIn wsX7_splash wsX7_begins := goodIn_r _ [11, 12, 13, 14, 15, 16, 17, 18, 19, 20, 21, 22, 23, 24, 25, 26, 27, 28, 29, 30, 31, 32, 33, 34, 35, 36, 37, 38, 39, 40, 41, 42] (by decide +kernel) (by decide +kernel)
set_option maxRecDepth 20000 in
theorem gX7_splash_X7_begins : GoodIn wsX7_splash (wsV RX7 190 RX7 yX7_begins wsX7_begins) := goodIn_app (goodIn_of _ (by decide +kernel)) ggX7_splash_X7_begins
theorem dX7_splash_0 : decode cX7_splash 0 = .ok (.aload_n 0, 1) := by decide +kernel
theorem dX7_splash_1 : decode cX7_splash 1 = .ok (.iload_n 1, 1) := by decide +kernel
theorem dX7_splash_2 : decode cX7_splash 2 = .ok (.invokevirtual 129, 3) := by decide +kernel
theorem dX7_splash_5 : decode cX7_splash 5 = .ok (.ifCond .ne 5, 3) := by decide +kernel
theorem dX7_splash_8 : decode cX7_splash 8 = .ok (.iconst (-1), 1) := by decide +kernel
theorem dX7_splash_9 : decode cX7_splash 9 = .ok (.ireturn, 1) := by decide +kernel
theorem dX7_splash_10 : decode cX7_splash 10 = .ok (.aload_n 0, 1) := by decide +kernel
theorem dX7_splash_11 : decode cX7_splash 11 = .ok (.aload_n 0, 1) := by decide +kernel
theorem dX7_splash_12 : decode cX7_splash 12 = .ok (.getfield 22, 3) := by decide +kernel
theorem dX7_splash_15 : decode cX7_splash 15 = .ok (.iload_n 1, 1) := by decide +kernel
theorem dX7_splash_16 : decode cX7_splash 16 = .ok (.iaload, 1) := by decide +kernel
theorem dX7_splash_17 : decode cX7_splash 17 = .ok (.iconst 2, 1) := by decide +kernel
theorem dX7_splash_18 : decode cX7_splash 18 = .ok (.if_icmp .ne 7, 3) := by decide +kernel
theorem dX7_splash_21 : decode cX7_splash 21 = .ok (.iconst 5, 1) := by decide +kernel
theorem dX7_splash_22 : decode cX7_splash 22 = .ok (.goto 4, 3) := by decide +kernel
theorem dX7_splash_25 : decode cX7_splash 25 = .ok (.iconst 4, 1) := by decide +kernel
theorem dX7_splash_26 : decode cX7_splash 26 = .ok (.invokevirtual 190, 3) := by decide +kernel
theorem dX7_splash_29 : decode cX7_splash 29 = .ok (.aload_n 0, 1) := by decide +kernel
theorem dX7_splash_30 : decode cX7_splash 30 = .ok (.getfield 22, 3) := by decide +kernel
theorem dX7_splash_33 : decode cX7_splash 33 = .ok (.iload_n 1, 1) := by decide +kernel
theorem dX7_splash_34 : decode cX7_splash 34 = .ok (.iaload, 1) := by decide +kernel
theorem dX7_splash_35 : decode cX7_splash 35 = .ok (.iconst 2, 1) := by decide +kernel
theorem dX7_splash_36 : decode cX7_splash 36 = .ok (.if_icmp .ne 8, 3) := by decide +kernel
theorem dX7_splash_39 : decode cX7_splash 39 = .ok (.bipush 80, 2) := by decide +kernel
theorem dX7_splash_41 : decode cX7_splash 41 = .ok (.goto 4, 3) := by decide +kernel
theorem dX7_splash_44 : decode cX7_splash 44 = .ok (.iload_n 1, 1) := by decide +kernel
theorem dX7_splash_45 : decode cX7_splash 45 = .ok (.ireturn, 1) := by decide +kernel
set_option maxRecDepth 20000 in
theorem ggX7_as_X7_isThing : GoodIn wsX7_as wsX7_isThing := goodIn_r _ [7, 8, 16, 17, 18, 19, 20, 21, 22, 23, 24, 25, 26, 27, 28, 29, 30, 31, 32, 33, 34, 35, 36, 37, 38, 39, 40, 41, 42, 43, 44, 45] (by decide +kernel) (by decide +kernel)
set_option maxRecDepth 20000 in
theorem gX7_as_X7_isThing : GoodIn wsX7_as (wsV RX7 129 RX7 yX7_isThing wsX7_isThing) := goodIn_app (goodIn_of _ (by decide +kernel)) ggX7_as_X7_isThing
set_option maxRecDepth 20000 in
theorem ggX7_as_X7_within : GoodIn wsX7_as wsX7_within := goodIn_r _ [11] (by decide +kernel) (by decide +kernel)
set_option maxRecDepth 20000 in
theorem gX7_as_X7_within : GoodIn wsX7_as (va_wsS RX7 67 yX7_within wsX7_within) := goodIn_app (goodIn_of _ (by decide +kernel)) ggX7_as_X7_within
set_option maxRecDepth 20000 in
theorem ggX7_as_X7_fails : GoodIn wsX7_as wsX7_fails := goodIn_r _ [15, 1, 16, 17, 18, 19, 20, 21, 22, 23, 24, 25, 26, 27, 28, 29, 30, 31, 32, 33, 34, 35, 36, 37, 38, 39, 40, 41, 42, 43, 44, 45] (by decide +kernel) (by decide +kernel)
set_option maxRecDepth 20000 in
theorem gX7_as_X7_fails : GoodIn wsX7_as (wsV RX7 88 RX7 yX7_fails wsX7_fails) := goodIn_app (goodIn_of _ (by decide +kernel)) ggX7_as_X7_fails
theorem dX7_as_0 : decode cX7_as 0 = .ok (.aload_n 0, 1) := by decide +kernel
theorem dX7_as_1 : decode cX7_as 1 = .ok (.iconst 0, 1) := by decide +kernel
theorem dX7_as_2 : decode cX7_as 2 = .ok (.putfield 61, 3) := by decide +kernel
theorem dX7_as_5 : decode cX7_as 5 = .ok (.aload_n 0, 1) := by decide +kernel
theorem dX7_as_6 : decode cX7_as 6 = .ok (.iload_n 1, 1) := by decide +kernel
theorem dX7_as_7 : decode cX7_as 7 = .ok (.invokevirtual 129, 3) := by decide +kernel
theorem dX7_as_10 : decode cX7_as 10 = .ok (.ifCond .ne 5, 3) := by decide +kernel
theorem dX7_as_13 : decode cX7_as 13 = .ok (.iconst (-1), 1) := by decide +kernel
theorem dX7_as_14 : decode cX7_as 14 = .ok (.ireturn, 1) := by decide +kernel
theorem dX7_as_15 : decode cX7_as 15 = .ok (.iload_n 2, 1) := by decide +kernel
theorem dX7_as_16 : decode cX7_as 16 = .ok (.iconst 0, 1) := by decide +kernel
theorem dX7_as_17 : decode cX7_as 17 = .ok (.iconst 2, 1) := by decide +kernel
theorem dX7_as_18 : decode cX7_as 18 = .ok (.invokestatic 67, 3) := by decide +kernel
theorem dX7_as_21 : decode cX7_as 21 = .ok (.ifCond .ne 6, 3) := by decide +kernel
theorem dX7_as_24 : decode cX7_as 24 = .ok (.bipush (-2), 2) := by decide +kernel
theorem dX7_as_26 : decode cX7_as 26 = .ok (.ireturn, 1) := by decide +kernel
theorem dX7_as_27 : decode cX7_as 27 = .ok (.aload_n 0, 1) := by decide +kernel
theorem dX7_as_28 : decode cX7_as 28 = .ok (.getfield 22, 3) := by decide +kernel
theorem dX7_as_31 : decode cX7_as 31 = .ok (.iload_n 1, 1) := by decide +kernel
theorem dX7_as_32 : decode cX7_as 32 = .ok (.iaload, 1) := by decide +kernel
theorem dX7_as_33 : decode cX7_as 33 = .ok (.iload_n 2, 1) := by decide +kernel
theorem dX7_as_34 : decode cX7_as 34 = .ok (.if_icmp .lt 7, 3) := by decide +kernel
theorem dX7_as_37 : decode cX7_as 37 = .ok (.iconst 1, 1) := by decide +kernel
theorem dX7_as_38 : decode cX7_as 38 = .ok (.goto 8, 3) := by decide +kernel
theorem dX7_as_41 : decode cX7_as 41 = .ok (.aload_n 0, 1) := by decide +kernel
theorem dX7_as_42 : decode cX7_as 42 = .ok (.iconst 2, 1) := by decide +kernel
theorem dX7_as_43 : decode cX7_as 43 = .ok (.invokevirtual 88, 3) := by decide +kernel
theorem dX7_as_46 : decode cX7_as 46 = .ok (.ireturn, 1) := by decide +kernel
theorem dX7_trace_0 : decode cX7_trace 0 = .ok (.aload_n 0, 1) := by decide +kernel
theorem dX7_trace_1 : decode cX7_trace 1 = .ok (.getfield 187, 3) := by decide +kernel
theorem dX7_trace_4 : decode cX7_trace 4 = .ok (.ireturn, 1) := by decide +kernel
theorem dX7_fault_0 : decode cX7_fault 0 = .ok (.aload_n 0, 1) := by decide +kernel
theorem dX7_fault_1 : decode cX7_fault 1 = .ok (.getfield 61, 3) := by decide +kernel
theorem dX7_fault_4 : decode cX7_fault 4 = .ok (.ireturn, 1) := by decide +kernel
theorem dX7_many_0 : decode cX7_many 0 = .ok (.iload_n 1, 1) := by decide +kernel
theorem dX7_many_1 : decode cX7_many 1 = .ok (.ifCond .ne 10, 3) := by decide +kernel
theorem dX7_many_4 : decode cX7_many 4 = .ok (.aload_n 0, 1) := by decide +kernel
theorem dX7_many_5 : decode cX7_many 5 = .ok (.getfield 71, 3) := by decide +kernel
theorem dX7_many_8 : decode cX7_many 8 = .ok (.goto 41, 3) := by decide +kernel
theorem dX7_many_11 : decode cX7_many 11 = .ok (.iload_n 1, 1) := by decide +kernel
theorem dX7_many_12 : decode cX7_many 12 = .ok (.iconst 1, 1) := by decide +kernel
theorem dX7_many_13 : decode cX7_many 13 = .ok (.if_icmp .ne 10, 3) := by decide +kernel
theorem dX7_many_16 : decode cX7_many 16 = .ok (.aload_n 0, 1) := by decide +kernel
theorem dX7_many_17 : decode cX7_many 17 = .ok (.getfield 107, 3) := by decide +kernel
theorem dX7_many_20 : decode cX7_many 20 = .ok (.goto 29, 3) := by decide +kernel
theorem dX7_many_23 : decode cX7_many 23 = .ok (.iload_n 1, 1) := by decide +kernel
theorem dX7_many_24 : decode cX7_many 24 = .ok (.iconst 2, 1) := by decide +kernel
theorem dX7_many_25 : decode cX7_many 25 = .ok (.if_icmp .ne 10, 3) := by decide +kernel
theorem dX7_many_28 : decode cX7_many 28 = .ok (.aload_n 0, 1) := by decide +kernel
theorem dX7_many_29 : decode cX7_many 29 = .ok (.getfield 101, 3) := by decide +kernel
theorem dX7_many_32 : decode cX7_many 32 = .ok (.goto 17, 3) := by decide +kernel
theorem dX7_many_35 : decode cX7_many 35 = .ok (.iload_n 1, 1) := by decide +kernel
theorem dX7_many_36 : decode cX7_many 36 = .ok (.iconst 3, 1) := by decide +kernel
theorem dX7_many_37 : decode cX7_many 37 = .ok (.if_icmp .ne 10, 3) := by decide +kernel
theorem dX7_many_40 : decode cX7_many 40 = .ok (.aload_n 0, 1) := by decide +kernel
theorem dX7_many_41 : decode cX7_many 41 = .ok (.getfield 113, 3) := by decide +kernel
theorem dX7_many_44 : decode cX7_many 44 = .ok (.goto 5, 3) := by decide +kernel
theorem dX7_many_47 : decode cX7_many 47 = .ok (.bipush (-2), 2) := by decide +kernel
theorem dX7_many_49 : decode cX7_many 49 = .ok (.ireturn, 1) := by decide +kernel