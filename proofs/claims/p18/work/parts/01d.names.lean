theorem dX4_takeHousehold_61 : decode cX4_takeHousehold 61 = .ok (.getfield 222, 3) := by decide +kernel
theorem dX4_takeHousehold_64 : decode cX4_takeHousehold 64 = .ok (.putfield 68, 3) := by decide +kernel
theorem dX4_takeHousehold_67 : decode cX4_takeHousehold 67 = .ok (.return_, 1) := by decide +kernel
set_option maxRecDepth 20000 in
theorem ggX4_fail_X5_rowFor : GoodIn wsX4_fail wsX5_rowFor := goodIn_r _ [11, 12, 13, 73, 74] (by decide +kernel) (by decide +kernel)
set_option maxRecDepth 20000 in
theorem gX4_fail_X5_rowFor : GoodIn wsX4_fail (wsV RX4 255 RX5 yX5_rowFor wsX5_rowFor) := goodIn_app (goodIn_of _ (by decide +kernel)) ggX4_fail_X5_rowFor
set_option maxRecDepth 20000 in
theorem ggX4_fail_X5_wayAt : GoodIn wsX4_fail wsX5_wayAt := goodIn_r _ [17, 12, 73, 74] (by decide +kernel) (by decide +kernel)
set_option maxRecDepth 20000 in
theorem gX4_fail_X5_wayAt : GoodIn wsX4_fail (wsV RX4 260 RX5 yX5_wayAt wsX5_wayAt) := goodIn_app (goodIn_of _ (by decide +kernel)) ggX4_fail_X5_wayAt
set_option maxRecDepth 20000 in
theorem ggX4_fail_X5_numberAt : GoodIn wsX4_fail wsX5_numberAt := goodIn_r _ [21, 22, 73, 74] (by decide +kernel) (by decide +kernel)
set_option maxRecDepth 20000 in
theorem gX4_fail_X5_numberAt : GoodIn wsX4_fail (wsV RX4 263 RX5 yX5_numberAt wsX5_numberAt) := goodIn_app (goodIn_of _ (by decide +kernel)) ggX4_fail_X5_numberAt
set_option maxRecDepth 20000 in
theorem ggX4_fail_X1_add : GoodIn wsX4_fail wsX1_add := goodIn_r _ [27, 28, 29, 30, 31, 32, 33, 75, 76, 77, 78, 79] (by decide +kernel) (by decide +kernel)
set_option maxRecDepth 20000 in
theorem gX4_fail_X1_add : GoodIn wsX4_fail (wsV RX4 266 RX1 yX1_add wsX1_add) := goodIn_app (goodIn_of _ (by decide +kernel)) ggX4_fail_X1_add
set_option maxRecDepth 20000 in
theorem ggX4_fail_X4_stop : GoodIn wsX4_fail wsX4_stop := goodIn_r _ [38, 5, 39, 40, 41, 42, 43, 44, 45, 46, 47, 48, 49, 50, 51, 52, 53, 54, 55, 56, 57, 58, 59, 60, 61, 62, 63, 64, 65, 66, 67, 68, 69, 70, 71, 72] (by decide +kernel) (by decide +kernel)
set_option maxRecDepth 20000 in
theorem gX4_fail_X4_stop : GoodIn wsX4_fail (wsV RX4 269 RX4 yX4_stop wsX4_stop) := goodIn_app (goodIn_of _ (by decide +kernel)) ggX4_fail_X4_stop
theorem dX4_fail_0 : decode cX4_fail 0 = .ok (.aload_n 0, 1) := by decide +kernel
theorem dX4_fail_1 : decode cX4_fail 1 = .ok (.getfield 40, 3) := by decide +kernel
theorem dX4_fail_4 : decode cX4_fail 4 = .ok (.iload_n 1, 1) := by decide +kernel
theorem dX4_fail_5 : decode cX4_fail 5 = .ok (.invokevirtual 255, 3) := by decide +kernel
theorem dX4_fail_8 : decode cX4_fail 8 = .ok (.istore 4, 2) := by decide +kernel
theorem dX4_fail_10 : decode cX4_fail 10 = .ok (.aload_n 0, 1) := by decide +kernel
theorem dX4_fail_11 : decode cX4_fail 11 = .ok (.aload_n 0, 1) := by decide +kernel
theorem dX4_fail_12 : decode cX4_fail 12 = .ok (.getfield 40, 3) := by decide +kernel
theorem dX4_fail_15 : decode cX4_fail 15 = .ok (.iload 4, 2) := by decide +kernel
theorem dX4_fail_17 : decode cX4_fail 17 = .ok (.invokevirtual 260, 3) := by decide +kernel
theorem dX4_fail_20 : decode cX4_fail 20 = .ok (.putfield 182, 3) := by decide +kernel
theorem dX4_fail_23 : decode cX4_fail 23 = .ok (.aload_n 0, 1) := by decide +kernel
theorem dX4_fail_24 : decode cX4_fail 24 = .ok (.aload_n 0, 1) := by decide +kernel
theorem dX4_fail_25 : decode cX4_fail 25 = .ok (.getfield 40, 3) := by decide +kernel
theorem dX4_fail_28 : decode cX4_fail 28 = .ok (.iload 4, 2) := by decide +kernel
theorem dX4_fail_30 : decode cX4_fail 30 = .ok (.invokevirtual 263, 3) := by decide +kernel
theorem dX4_fail_33 : decode cX4_fail 33 = .ok (.putfield 185, 3) := by decide +kernel
theorem dX4_fail_36 : decode cX4_fail 36 = .ok (.aload_n 0, 1) := by decide +kernel
theorem dX4_fail_37 : decode cX4_fail 37 = .ok (.getfield 44, 3) := by decide +kernel
theorem dX4_fail_40 : decode cX4_fail 40 = .ok (.iload_n 1, 1) := by decide +kernel
theorem dX4_fail_41 : decode cX4_fail 41 = .ok (.iload_n 2, 1) := by decide +kernel
theorem dX4_fail_42 : decode cX4_fail 42 = .ok (.iload_n 3, 1) := by decide +kernel
theorem dX4_fail_43 : decode cX4_fail 43 = .ok (.aload_n 0, 1) := by decide +kernel
theorem dX4_fail_44 : decode cX4_fail 44 = .ok (.getfield 182, 3) := by decide +kernel
theorem dX4_fail_47 : decode cX4_fail 47 = .ok (.aload_n 0, 1) := by decide +kernel
theorem dX4_fail_48 : decode cX4_fail 48 = .ok (.getfield 28, 3) := by decide +kernel
theorem dX4_fail_51 : decode cX4_fail 51 = .ok (.getfield 81, 3) := by decide +kernel
theorem dX4_fail_54 : decode cX4_fail 54 = .ok (.invokevirtual 266, 3) := by decide +kernel
theorem dX4_fail_57 : decode cX4_fail 57 = .ok (.istore 5, 2) := by decide +kernel
theorem dX4_fail_59 : decode cX4_fail 59 = .ok (.aload_n 0, 1) := by decide +kernel
theorem dX4_fail_60 : decode cX4_fail 60 = .ok (.getfield 182, 3) := by decide +kernel
theorem dX4_fail_63 : decode cX4_fail 63 = .ok (.iconst 4, 1) := by decide +kernel
theorem dX4_fail_64 : decode cX4_fail 64 = .ok (.if_icmp .ne 8, 3) := by decide +kernel
theorem dX4_fail_67 : decode cX4_fail 67 = .ok (.aload_n 0, 1) := by decide +kernel
theorem dX4_fail_68 : decode cX4_fail 68 = .ok (.iload_n 1, 1) := by decide +kernel
theorem dX4_fail_69 : decode cX4_fail 69 = .ok (.invokevirtual 269, 3) := by decide +kernel
theorem dX4_fail_72 : decode cX4_fail 72 = .ok (.iload_n 1, 1) := by decide +kernel
theorem dX4_fail_73 : decode cX4_fail 73 = .ok (.bipush 19, 2) := by decide +kernel
theorem dX4_fail_75 : decode cX4_fail 75 = .ok (.if_icmp .lt 23, 3) := by decide +kernel
theorem dX4_fail_78 : decode cX4_fail 78 = .ok (.aload_n 0, 1) := by decide +kernel
theorem dX4_fail_79 : decode cX4_fail 79 = .ok (.getfield 182, 3) := by decide +kernel
theorem dX4_fail_82 : decode cX4_fail 82 = .ok (.ifCond .eq 11, 3) := by decide +kernel
theorem dX4_fail_85 : decode cX4_fail 85 = .ok (.aload_n 0, 1) := by decide +kernel
theorem dX4_fail_86 : decode cX4_fail 86 = .ok (.getfield 182, 3) := by decide +kernel
theorem dX4_fail_89 : decode cX4_fail 89 = .ok (.iconst 3, 1) := by decide +kernel
theorem dX4_fail_90 : decode cX4_fail 90 = .ok (.if_icmp .ne 8, 3) := by decide +kernel
theorem dX4_fail_93 : decode cX4_fail 93 = .ok (.aload_n 0, 1) := by decide +kernel
theorem dX4_fail_94 : decode cX4_fail 94 = .ok (.iconst 1, 1) := by decide +kernel
theorem dX4_fail_95 : decode cX4_fail 95 = .ok (.putfield 71, 3) := by decide +kernel
theorem dX4_fail_98 : decode cX4_fail 98 = .ok (.aload_n 0, 1) := by decide +kernel
theorem dX4_fail_99 : decode cX4_fail 99 = .ok (.getfield 182, 3) := by decide +kernel
theorem dX4_fail_102 : decode cX4_fail 102 = .ok (.iconst 1, 1) := by decide +kernel
theorem dX4_fail_103 : decode cX4_fail 103 = .ok (.if_icmp .eq 11, 3) := by decide +kernel
theorem dX4_fail_106 : decode cX4_fail 106 = .ok (.aload_n 0, 1) := by decide +kernel
theorem dX4_fail_107 : decode cX4_fail 107 = .ok (.getfield 182, 3) := by decide +kernel
theorem dX4_fail_110 : decode cX4_fail 110 = .ok (.iconst 2, 1) := by decide +kernel
theorem dX4_fail_111 : decode cX4_fail 111 = .ok (.if_icmp .ne 5, 3) := by decide +kernel
theorem dX4_fail_114 : decode cX4_fail 114 = .ok (.iconst (-1), 1) := by decide +kernel
theorem dX4_fail_115 : decode cX4_fail 115 = .ok (.ireturn, 1) := by decide +kernel
theorem dX4_fail_116 : decode cX4_fail 116 = .ok (.aload_n 0, 1) := by decide +kernel
theorem dX4_fail_117 : decode cX4_fail 117 = .ok (.getfield 182, 3) := by decide +kernel
theorem dX4_fail_120 : decode cX4_fail 120 = .ok (.ifCond .ne 8, 3) := by decide +kernel
theorem dX4_fail_123 : decode cX4_fail 123 = .ok (.iload 5, 2) := by decide +kernel
theorem dX4_fail_125 : decode cX4_fail 125 = .ok (.goto 5, 3) := by decide +kernel
theorem dX4_fail_128 : decode cX4_fail 128 = .ok (.bipush (-2), 2) := by decide +kernel
theorem dX4_fail_130 : decode cX4_fail 130 = .ok (.ireturn, 1) := by decide +kernel
theorem dX4_stop_0 : decode cX4_stop 0 = .ok (.aload_n 0, 1) := by decide +kernel
theorem dX4_stop_1 : decode cX4_stop 1 = .ok (.getfield 28, 3) := by decide +kernel
theorem dX4_stop_4 : decode cX4_stop 4 = .ok (.getfield 81, 3) := by decide +kernel
theorem dX4_stop_7 : decode cX4_stop 7 = .ok (.ifCond .eq 9, 3) := by decide +kernel
theorem dX4_stop_10 : decode cX4_stop 10 = .ok (.iload_n 1, 1) := by decide +kernel
theorem dX4_stop_11 : decode cX4_stop 11 = .ok (.bipush 19, 2) := by decide +kernel
theorem dX4_stop_13 : decode cX4_stop 13 = .ok (.if_icmp .lt 11, 3) := by decide +kernel
theorem dX4_stop_16 : decode cX4_stop 16 = .ok (.aload_n 0, 1) := by decide +kernel
theorem dX4_stop_17 : decode cX4_stop 17 = .ok (.iconst 1, 1) := by decide +kernel
theorem dX4_stop_18 : decode cX4_stop 18 = .ok (.putfield 75, 3) := by decide +kernel
theorem dX4_stop_21 : decode cX4_stop 21 = .ok (.goto 8, 3) := by decide +kernel
theorem dX4_stop_24 : decode cX4_stop 24 = .ok (.aload_n 0, 1) := by decide +kernel
theorem dX4_stop_25 : decode cX4_stop 25 = .ok (.iconst 1, 1) := by decide +kernel
theorem dX4_stop_26 : decode cX4_stop 26 = .ok (.putfield 78, 3) := by decide +kernel
theorem dX4_stop_29 : decode cX4_stop 29 = .ok (.return_, 1) := by decide +kernel
set_option maxRecDepth 20000 in
theorem ggX5_init_J7_fill_53178 : GoodIn wsX5_init wsJ7_fill_53178 := goodIn_r _ [10] (by decide +kernel) (by decide +kernel)
set_option maxRecDepth 20000 in
theorem gX5_init_J7_fill_53178 : GoodIn wsX5_init (va_wsS RX5 18 yJ7_fill_53178 wsJ7_fill_53178) := goodIn_app (goodIn_of _ (by decide +kernel)) ggX5_init_J7_fill_53178
theorem dX5_init_0 : decode cX5_init 0 = .ok (.aload_n 0, 1) := by decide +kernel
theorem dX5_init_1 : decode cX5_init 1 = .ok (.invokespecial 3, 3) := by decide +kernel
theorem dX5_init_4 : decode cX5_init 4 = .ok (.aload_n 0, 1) := by decide +kernel
theorem dX5_init_5 : decode cX5_init 5 = .ok (.bipush 30, 2) := by decide +kernel
theorem dX5_init_7 : decode cX5_init 7 = .ok (.newarray .int, 2) := by decide +kernel
theorem dX5_init_9 : decode cX5_init 9 = .ok (.putfield 9, 3) := by decide +kernel
theorem dX5_init_12 : decode cX5_init 12 = .ok (.aload_n 0, 1) := by decide +kernel
theorem dX5_init_13 : decode cX5_init 13 = .ok (.bipush 30, 2) := by decide +kernel
theorem dX5_init_15 : decode cX5_init 15 = .ok (.newarray .int, 2) := by decide +kernel
theorem dX5_init_17 : decode cX5_init 17 = .ok (.putfield 15, 3) := by decide +kernel
theorem dX5_init_20 : decode cX5_init 20 = .ok (.aload_n 0, 1) := by decide +kernel
theorem dX5_init_21 : decode cX5_init 21 = .ok (.getfield 9, 3) := by decide +kernel
theorem dX5_init_24 : decode cX5_init 24 = .ok (.iconst (-1), 1) := by decide +kernel
theorem dX5_init_25 : decode cX5_init 25 = .ok (.invokestatic 18, 3) := by decide +kernel
theorem dX5_init_28 : decode cX5_init 28 = .ok (.aload_n 0, 1) := by decide +kernel
theorem dX5_init_29 : decode cX5_init 29 = .ok (.getfield 9, 3) := by decide +kernel
theorem dX5_init_32 : decode cX5_init 32 = .ok (.iconst 0, 1) := by decide +kernel
theorem dX5_init_33 : decode cX5_init 33 = .ok (.iconst 0, 1) := by decide +kernel
theorem dX5_init_34 : decode cX5_init 34 = .ok (.iastore, 1) := by decide +kernel
theorem dX5_init_35 : decode cX5_init 35 = .ok (.return_, 1) := by decide +kernel
theorem dX5_change_0 : decode cX5_change 0 = .ok (.iload_n 1, 1) := by decide +kernel
theorem dX5_change_1 : decode cX5_change 1 = .ok (.iconst 1, 1) := by decide +kernel
theorem dX5_change_2 : decode cX5_change 2 = .ok (.if_icmp .lt 9, 3) := by decide +kernel
theorem dX5_change_5 : decode cX5_change 5 = .ok (.iload_n 1, 1) := by decide +kernel
theorem dX5_change_6 : decode cX5_change 6 = .ok (.bipush 29, 2) := by decide +kernel
theorem dX5_change_8 : decode cX5_change 8 = .ok (.if_icmp .le 6, 3) := by decide +kernel
theorem dX5_change_11 : decode cX5_change 11 = .ok (.bipush (-3), 2) := by decide +kernel
theorem dX5_change_13 : decode cX5_change 13 = .ok (.ireturn, 1) := by decide +kernel
theorem dX5_change_14 : decode cX5_change 14 = .ok (.aload_n 0, 1) := by decide +kernel
theorem dX5_change_15 : decode cX5_change 15 = .ok (.getfield 9, 3) := by decide +kernel
theorem dX5_change_18 : decode cX5_change 18 = .ok (.iload_n 1, 1) := by decide +kernel
theorem dX5_change_19 : decode cX5_change 19 = .ok (.iaload, 1) := by decide +kernel
theorem dX5_change_20 : decode cX5_change 20 = .ok (.istore 4, 2) := by decide +kernel
theorem dX5_change_22 : decode cX5_change 22 = .ok (.aload_n 0, 1) := by decide +kernel
theorem dX5_change_23 : decode cX5_change 23 = .ok (.getfield 9, 3) := by decide +kernel
theorem dX5_change_26 : decode cX5_change 26 = .ok (.iload_n 1, 1) := by decide +kernel
theorem dX5_change_27 : decode cX5_change 27 = .ok (.iload_n 2, 1) := by decide +kernel
theorem dX5_change_28 : decode cX5_change 28 = .ok (.iastore, 1) := by decide +kernel
theorem dX5_change_29 : decode cX5_change 29 = .ok (.aload_n 0, 1) := by decide +kernel
theorem dX5_change_30 : decode cX5_change 30 = .ok (.getfield 15, 3) := by decide +kernel
theorem dX5_change_33 : decode cX5_change 33 = .ok (.iload_n 1, 1) := by decide +kernel
theorem dX5_change_34 : decode cX5_change 34 = .ok (.iload_n 3, 1) := by decide +kernel
theorem dX5_change_35 : decode cX5_change 35 = .ok (.iastore, 1) := by decide +kernel
theorem dX5_change_36 : decode cX5_change 36 = .ok (.iload 4, 2) := by decide +kernel
theorem dX5_change_38 : decode cX5_change 38 = .ok (.ireturn, 1) := by decide +kernel
theorem dX5_rowFor_0 : decode cX5_rowFor 0 = .ok (.iload_n 1, 1) := by decide +kernel
theorem dX5_rowFor_1 : decode cX5_rowFor 1 = .ok (.istore_n 2, 1) := by decide +kernel
theorem dX5_rowFor_2 : decode cX5_rowFor 2 = .ok (.iconst 0, 1) := by decide +kernel
theorem dX5_rowFor_3 : decode cX5_rowFor 3 = .ok (.istore_n 3, 1) := by decide +kernel
theorem dX5_rowFor_4 : decode cX5_rowFor 4 = .ok (.iload_n 3, 1) := by decide +kernel
theorem dX5_rowFor_5 : decode cX5_rowFor 5 = .ok (.iconst 5, 1) := by decide +kernel
theorem dX5_rowFor_6 : decode cX5_rowFor 6 = .ok (.if_icmp .ge 39, 3) := by decide +kernel
theorem dX5_rowFor_9 : decode cX5_rowFor 9 = .ok (.iload_n 2, 1) := by decide +kernel
theorem dX5_rowFor_10 : decode cX5_rowFor 10 = .ok (.iconst 1, 1) := by decide +kernel
theorem dX5_rowFor_11 : decode cX5_rowFor 11 = .ok (.if_icmp .lt 9, 3) := by decide +kernel
theorem dX5_rowFor_14 : decode cX5_rowFor 14 = .ok (.iload_n 2, 1) := by decide +kernel
theorem dX5_rowFor_15 : decode cX5_rowFor 15 = .ok (.bipush 29, 2) := by decide +kernel
theorem dX5_rowFor_17 : decode cX5_rowFor 17 = .ok (.if_icmp .le 5, 3) := by decide +kernel
theorem dX5_rowFor_20 : decode cX5_rowFor 20 = .ok (.iconst 0, 1) := by decide +kernel
theorem dX5_rowFor_21 : decode cX5_rowFor 21 = .ok (.ireturn, 1) := by decide +kernel
theorem dX5_rowFor_22 : decode cX5_rowFor 22 = .ok (.aload_n 0, 1) := by decide +kernel
theorem dX5_rowFor_23 : decode cX5_rowFor 23 = .ok (.getfield 9, 3) := by decide +kernel
theorem dX5_rowFor_26 : decode cX5_rowFor 26 = .ok (.iload_n 2, 1) := by decide +kernel
theorem dX5_rowFor_27 : decode cX5_rowFor 27 = .ok (.iaload, 1) := by decide +kernel
theorem dX5_rowFor_28 : decode cX5_rowFor 28 = .ok (.ifCond .lt 5, 3) := by decide +kernel
theorem dX5_rowFor_31 : decode cX5_rowFor 31 = .ok (.iload_n 2, 1) := by decide +kernel
theorem dX5_rowFor_32 : decode cX5_rowFor 32 = .ok (.ireturn, 1) := by decide +kernel
theorem dX5_rowFor_33 : decode cX5_rowFor 33 = .ok (.getstatic 24, 3) := by decide +kernel
theorem dX5_rowFor_36 : decode cX5_rowFor 36 = .ok (.iload_n 2, 1) := by decide +kernel
theorem dX5_rowFor_37 : decode cX5_rowFor 37 = .ok (.iaload, 1) := by decide +kernel
theorem dX5_rowFor_38 : decode cX5_rowFor 38 = .ok (.istore_n 2, 1) := by decide +kernel
theorem dX5_rowFor_39 : decode cX5_rowFor 39 = .ok (.iinc 3 1, 3) := by decide +kernel
theorem dX5_rowFor_42 : decode cX5_rowFor 42 = .ok (.goto (-38), 3) := by decide +kernel
theorem dX5_rowFor_45 : decode cX5_rowFor 45 = .ok (.iconst 0, 1) := by decide +kernel
theorem dX5_rowFor_46 : decode cX5_rowFor 46 = .ok (.ireturn, 1) := by decide +kernel
theorem dX5_wayAt_0 : decode cX5_wayAt 0 = .ok (.iload_n 1, 1) := by decide +kernel
theorem dX5_wayAt_1 : decode cX5_wayAt 1 = .ok (.ifCond .lt 18, 3) := by decide +kernel
theorem dX5_wayAt_4 : decode cX5_wayAt 4 = .ok (.iload_n 1, 1) := by decide +kernel
theorem dX5_wayAt_5 : decode cX5_wayAt 5 = .ok (.bipush 29, 2) := by decide +kernel
theorem dX5_wayAt_7 : decode cX5_wayAt 7 = .ok (.if_icmp .gt 12, 3) := by decide +kernel
theorem dX5_wayAt_10 : decode cX5_wayAt 10 = .ok (.aload_n 0, 1) := by decide +kernel
theorem dX5_wayAt_11 : decode cX5_wayAt 11 = .ok (.getfield 9, 3) := by decide +kernel
theorem dX5_wayAt_14 : decode cX5_wayAt 14 = .ok (.iload_n 1, 1) := by decide +kernel
theorem dX5_wayAt_15 : decode cX5_wayAt 15 = .ok (.iaload, 1) := by decide +kernel
theorem dX5_wayAt_16 : decode cX5_wayAt 16 = .ok (.goto 4, 3) := by decide +kernel
theorem dX5_wayAt_19 : decode cX5_wayAt 19 = .ok (.iconst 0, 1) := by decide +kernel
theorem dX5_wayAt_20 : decode cX5_wayAt 20 = .ok (.ireturn, 1) := by decide +kernel
theorem dX5_numberAt_0 : decode cX5_numberAt 0 = .ok (.iload_n 1, 1) := by decide +kernel
theorem dX5_numberAt_1 : decode cX5_numberAt 1 = .ok (.ifCond .lt 18, 3) := by decide +kernel
theorem dX5_numberAt_4 : decode cX5_numberAt 4 = .ok (.iload_n 1, 1) := by decide +kernel
theorem dX5_numberAt_5 : decode cX5_numberAt 5 = .ok (.bipush 29, 2) := by decide +kernel
theorem dX5_numberAt_7 : decode cX5_numberAt 7 = .ok (.if_icmp .gt 12, 3) := by decide +kernel
theorem dX5_numberAt_10 : decode cX5_numberAt 10 = .ok (.aload_n 0, 1) := by decide +kernel
theorem dX5_numberAt_11 : decode cX5_numberAt 11 = .ok (.getfield 15, 3) := by decide +kernel
theorem dX5_numberAt_14 : decode cX5_numberAt 14 = .ok (.iload_n 1, 1) := by decide +kernel
theorem dX5_numberAt_15 : decode cX5_numberAt 15 = .ok (.iaload, 1) := by decide +kernel
theorem dX5_numberAt_16 : decode cX5_numberAt 16 = .ok (.goto 4, 3) := by decide +kernel
theorem dX5_numberAt_19 : decode cX5_numberAt 19 = .ok (.iconst 0, 1) := by decide +kernel
theorem dX5_numberAt_20 : decode cX5_numberAt 20 = .ok (.ireturn, 1) := by decide +kernel
theorem dX5_isWithin_0 : decode cX5_isWithin 0 = .ok (.iload_n 1, 1) := by decide +kernel
theorem dX5_isWithin_1 : decode cX5_isWithin 1 = .ok (.istore_n 3, 1) := by decide +kernel
theorem dX5_isWithin_2 : decode cX5_isWithin 2 = .ok (.iconst 0, 1) := by decide +kernel
theorem dX5_isWithin_3 : decode cX5_isWithin 3 = .ok (.istore 4, 2) := by decide +kernel
theorem dX5_isWithin_5 : decode cX5_isWithin 5 = .ok (.iload 4, 2) := by decide +kernel
theorem dX5_isWithin_7 : decode cX5_isWithin 7 = .ok (.iconst 5, 1) := by decide +kernel
theorem dX5_isWithin_8 : decode cX5_isWithin 8 = .ok (.if_icmp .ge 35, 3) := by decide +kernel
theorem dX5_isWithin_11 : decode cX5_isWithin 11 = .ok (.iload_n 3, 1) := by decide +kernel
theorem dX5_isWithin_12 : decode cX5_isWithin 12 = .ok (.iload_n 2, 1) := by decide +kernel
theorem dX5_isWithin_13 : decode cX5_isWithin 13 = .ok (.if_icmp .ne 5, 3) := by decide +kernel
theorem dX5_isWithin_16 : decode cX5_isWithin 16 = .ok (.iconst 1, 1) := by decide +kernel
theorem dX5_isWithin_17 : decode cX5_isWithin 17 = .ok (.ireturn, 1) := by decide +kernel
theorem dX5_isWithin_18 : decode cX5_isWithin 18 = .ok (.iload_n 3, 1) := by decide +kernel
theorem dX5_isWithin_19 : decode cX5_isWithin 19 = .ok (.iconst 1, 1) := by decide +kernel
theorem dX5_isWithin_20 : decode cX5_isWithin 20 = .ok (.if_icmp .lt 9, 3) := by decide +kernel
theorem dX5_isWithin_23 : decode cX5_isWithin 23 = .ok (.iload_n 3, 1) := by decide +kernel
theorem dX5_isWithin_24 : decode cX5_isWithin 24 = .ok (.bipush 29, 2) := by decide +kernel
theorem dX5_isWithin_26 : decode cX5_isWithin 26 = .ok (.if_icmp .le 5, 3) := by decide +kernel
theorem dX5_isWithin_29 : decode cX5_isWithin 29 = .ok (.iconst 0, 1) := by decide +kernel
theorem dX5_isWithin_30 : decode cX5_isWithin 30 = .ok (.ireturn, 1) := by decide +kernel
theorem dX5_isWithin_31 : decode cX5_isWithin 31 = .ok (.getstatic 24, 3) := by decide +kernel
theorem dX5_isWithin_34 : decode cX5_isWithin 34 = .ok (.iload_n 3, 1) := by decide +kernel
theorem dX5_isWithin_35 : decode cX5_isWithin 35 = .ok (.iaload, 1) := by decide +kernel
theorem dX5_isWithin_36 : decode cX5_isWithin 36 = .ok (.istore_n 3, 1) := by decide +kernel
theorem dX5_isWithin_37 : decode cX5_isWithin 37 = .ok (.iinc 4 1, 3) := by decide +kernel
theorem dX5_isWithin_40 : decode cX5_isWithin 40 = .ok (.goto (-35), 3) := by decide +kernel
theorem dX5_isWithin_43 : decode cX5_isWithin 43 = .ok (.iconst 0, 1) := by decide +kernel
theorem dX5_isWithin_44 : decode cX5_isWithin 44 = .ok (.ireturn, 1) := by decide +kernel
theorem dX6_init_0 : decode cX6_init 0 = .ok (.aload_n 0, 1) := by decide +kernel
theorem dX6_init_1 : decode cX6_init 1 = .ok (.invokespecial 3, 3) := by decide +kernel
theorem dX6_init_4 : decode cX6_init 4 = .ok (.aload_n 0, 1) := by decide +kernel
theorem dX6_init_5 : decode cX6_init 5 = .ok (.bipush 31, 2) := by decide +kernel
theorem dX6_init_7 : decode cX6_init 7 = .ok (.newarray .int, 2) := by decide +kernel
theorem dX6_init_9 : decode cX6_init 9 = .ok (.putfield 11, 3) := by decide +kernel
theorem dX6_init_12 : decode cX6_init 12 = .ok (.aload_n 0, 1) := by decide +kernel
theorem dX6_init_13 : decode cX6_init 13 = .ok (.bipush 31, 2) := by decide +kernel
theorem dX6_init_15 : decode cX6_init 15 = .ok (.newarray .int, 2) := by decide +kernel
theorem dX6_init_17 : decode cX6_init 17 = .ok (.putfield 15, 3) := by decide +kernel
theorem dX6_init_20 : decode cX6_init 20 = .ok (.return_, 1) := by decide +kernel
theorem dX6_clear_0 : decode cX6_clear 0 = .ok (.aload_n 0, 1) := by decide +kernel
theorem dX6_clear_1 : decode cX6_clear 1 = .ok (.iconst 0, 1) := by decide +kernel
theorem dX6_clear_2 : decode cX6_clear 2 = .ok (.putfield 18, 3) := by decide +kernel
theorem dX6_clear_5 : decode cX6_clear 5 = .ok (.return_, 1) := by decide +kernel
theorem dX6_add_0 : decode cX6_add 0 = .ok (.aload_n 0, 1) := by decide +kernel
theorem dX6_add_1 : decode cX6_add 1 = .ok (.getfield 18, 3) := by decide +kernel
theorem dX6_add_4 : decode cX6_add 4 = .ok (.bipush 31, 2) := by decide +kernel
theorem dX6_add_6 : decode cX6_add 6 = .ok (.if_icmp .ge 33, 3) := by decide +kernel
theorem dX6_add_9 : decode cX6_add 9 = .ok (.aload_n 0, 1) := by decide +kernel
theorem dX6_add_10 : decode cX6_add 10 = .ok (.getfield 11, 3) := by decide +kernel
theorem dX6_add_13 : decode cX6_add 13 = .ok (.aload_n 0, 1) := by decide +kernel
theorem dX6_add_14 : decode cX6_add 14 = .ok (.getfield 18, 3) := by decide +kernel
theorem dX6_add_17 : decode cX6_add 17 = .ok (.iload_n 1, 1) := by decide +kernel
theorem dX6_add_18 : decode cX6_add 18 = .ok (.iastore, 1) := by decide +kernel
theorem dX6_add_19 : decode cX6_add 19 = .ok (.aload_n 0, 1) := by decide +kernel
theorem dX6_add_20 : decode cX6_add 20 = .ok (.getfield 15, 3) := by decide +kernel
theorem dX6_add_23 : decode cX6_add 23 = .ok (.aload_n 0, 1) := by decide +kernel
theorem dX6_add_24 : decode cX6_add 24 = .ok (.getfield 18, 3) := by decide +kernel
theorem dX6_add_27 : decode cX6_add 27 = .ok (.iload_n 2, 1) := by decide +kernel
theorem dX6_add_28 : decode cX6_add 28 = .ok (.iastore, 1) := by decide +kernel
theorem dX6_add_29 : decode cX6_add 29 = .ok (.aload_n 0, 1) := by decide +kernel
theorem dX6_add_30 : decode cX6_add 30 = .ok (.dup, 1) := by decide +kernel
theorem dX6_add_31 : decode cX6_add 31 = .ok (.getfield 18, 3) := by decide +kernel
theorem dX6_add_34 : decode cX6_add 34 = .ok (.iconst 1, 1) := by decide +kernel
theorem dX6_add_35 : decode cX6_add 35 = .ok (.iadd, 1) := by decide +kernel
theorem dX6_add_36 : decode cX6_add 36 = .ok (.putfield 18, 3) := by decide +kernel
theorem dX6_add_39 : decode cX6_add 39 = .ok (.return_, 1) := by decide +kernel
theorem dX6_at_0 : decode cX6_at 0 = .ok (.iload_n 1, 1) := by decide +kernel
theorem dX6_at_1 : decode cX6_at 1 = .ok (.ifCond .lt 26, 3) := by decide +kernel
theorem dX6_at_4 : decode cX6_at 4 = .ok (.iload_n 1, 1) := by decide +kernel
theorem dX6_at_5 : decode cX6_at 5 = .ok (.aload_n 0, 1) := by decide +kernel
theorem dX6_at_6 : decode cX6_at 6 = .ok (.getfield 18, 3) := by decide +kernel
theorem dX6_at_9 : decode cX6_at 9 = .ok (.if_icmp .ge 18, 3) := by decide +kernel
theorem dX6_at_12 : decode cX6_at 12 = .ok (.iload_n 1, 1) := by decide +kernel
theorem dX6_at_13 : decode cX6_at 13 = .ok (.bipush 31, 2) := by decide +kernel
theorem dX6_at_15 : decode cX6_at 15 = .ok (.if_icmp .ge 12, 3) := by decide +kernel
theorem dX6_at_18 : decode cX6_at 18 = .ok (.aload_n 0, 1) := by decide +kernel
theorem dX6_at_19 : decode cX6_at 19 = .ok (.getfield 11, 3) := by decide +kernel
theorem dX6_at_22 : decode cX6_at 22 = .ok (.iload_n 1, 1) := by decide +kernel
theorem dX6_at_23 : decode cX6_at 23 = .ok (.iaload, 1) := by decide +kernel
theorem dX6_at_24 : decode cX6_at 24 = .ok (.goto 4, 3) := by decide +kernel
theorem dX6_at_27 : decode cX6_at 27 = .ok (.iconst (-1), 1) := by decide +kernel
theorem dX6_at_28 : decode cX6_at 28 = .ok (.ireturn, 1) := by decide +kernel
theorem dX6_placeOf_0 : decode cX6_placeOf 0 = .ok (.iload_n 1, 1) := by decide +kernel
theorem dX6_placeOf_1 : decode cX6_placeOf 1 = .ok (.ifCond .lt 26, 3) := by decide +kernel
theorem dX6_placeOf_4 : decode cX6_placeOf 4 = .ok (.iload_n 1, 1) := by decide +kernel
theorem dX6_placeOf_5 : decode cX6_placeOf 5 = .ok (.aload_n 0, 1) := by decide +kernel
theorem dX6_placeOf_6 : decode cX6_placeOf 6 = .ok (.getfield 18, 3) := by decide +kernel
theorem dX6_placeOf_9 : decode cX6_placeOf 9 = .ok (.if_icmp .ge 18, 3) := by decide +kernel
theorem dX6_placeOf_12 : decode cX6_placeOf 12 = .ok (.iload_n 1, 1) := by decide +kernel
theorem dX6_placeOf_13 : decode cX6_placeOf 13 = .ok (.bipush 31, 2) := by decide +kernel
theorem dX6_placeOf_15 : decode cX6_placeOf 15 = .ok (.if_icmp .ge 12, 3) := by decide +kernel
theorem dX6_placeOf_18 : decode cX6_placeOf 18 = .ok (.aload_n 0, 1) := by decide +kernel
theorem dX6_placeOf_19 : decode cX6_placeOf 19 = .ok (.getfield 15, 3) := by decide +kernel
theorem dX6_placeOf_22 : decode cX6_placeOf 22 = .ok (.iload_n 1, 1) := by decide +kernel
theorem dX6_placeOf_23 : decode cX6_placeOf 23 = .ok (.iaload, 1) := by decide +kernel
theorem dX6_placeOf_24 : decode cX6_placeOf 24 = .ok (.goto 4, 3) := by decide +kernel
theorem dX6_placeOf_27 : decode cX6_placeOf 27 = .ok (.iconst (-1), 1) := by decide +kernel
theorem dX6_placeOf_28 : decode cX6_placeOf 28 = .ok (.ireturn, 1) := by decide +kernel
set_option maxRecDepth 20000 in
theorem ggX6_faultAs_X6_firstBadOfName : GoodIn wsX6_faultAs wsX6_firstBadOfName := goodIn_r _ [6, 1, 7, 8, 9, 5, 10, 11, 12, 13, 14, 26, 27, 28] (by decide +kernel) (by decide +kernel)
set_option maxRecDepth 20000 in
theorem gX6_faultAs_X6_firstBadOfName : GoodIn wsX6_faultAs (wsV RX6 22 RX6 yX6_firstBadOfName wsX6_firstBadOfName) := goodIn_app (goodIn_of _ (by decide +kernel)) ggX6_faultAs_X6_firstBadOfName
set_option maxRecDepth 20000 in
theorem ggX6_faultAs_X6_at : GoodIn wsX6_faultAs wsX6_at := goodIn_r _ [10, 1, 11, 26, 27, 28] (by decide +kernel) (by decide +kernel)
set_option maxRecDepth 20000 in
theorem gX6_faultAs_X6_at : GoodIn wsX6_faultAs (wsV RX6 26 RX6 yX6_at wsX6_at) := goodIn_app (goodIn_of _ (by decide +kernel)) ggX6_faultAs_X6_at
set_option maxRecDepth 20000 in
theorem ggX6_faultAs_X6_digits : GoodIn wsX6_faultAs wsX6_digits := goodIn_r _ [18, 1, 7, 8, 9, 5, 10, 11, 26, 27, 28] (by decide +kernel) (by decide +kernel)
set_option maxRecDepth 20000 in
theorem gX6_faultAs_X6_digits : GoodIn wsX6_faultAs (wsV RX6 30 RX6 yX6_digits wsX6_digits) := goodIn_app (goodIn_of _ (by decide +kernel)) ggX6_faultAs_X6_digits
set_option maxRecDepth 20000 in
theorem ggX6_faultAs_X6_number : GoodIn wsX6_faultAs wsX6_number := goodIn_r _ [22, 1, 7, 8, 9, 5, 10, 11, 26, 27, 28] (by decide +kernel) (by decide +kernel)
set_option maxRecDepth 20000 in
theorem gX6_faultAs_X6_number : GoodIn wsX6_faultAs (wsV RX6 33 RX6 yX6_number wsX6_number) := goodIn_app (goodIn_of _ (by decide +kernel)) ggX6_faultAs_X6_number
set_option maxRecDepth 20000 in
theorem ggX6_faultAs_X6_mostOf : GoodIn wsX6_faultAs wsX6_mostOf := goodIn_r _ [25] (by decide +kernel) (by decide +kernel)
set_option maxRecDepth 20000 in
theorem gX6_faultAs_X6_mostOf : GoodIn wsX6_faultAs (va_wsS RX6 36 yX6_mostOf wsX6_mostOf) := goodIn_app (goodIn_of _ (by decide +kernel)) ggX6_faultAs_X6_mostOf
theorem dX6_faultAs_0 : decode cX6_faultAs 0 = .ok (.iload_n 1, 1) := by decide +kernel
theorem dX6_faultAs_1 : decode cX6_faultAs 1 = .ok (.tableswitch 114 1 3 #[27, 49, 84], 27) := by decide +kernel
theorem dX6_faultAs_28 : decode cX6_faultAs 28 = .ok (.aload_n 0, 1) := by decide +kernel
theorem dX6_faultAs_29 : decode cX6_faultAs 29 = .ok (.getfield 18, 3) := by decide +kernel
theorem dX6_faultAs_32 : decode cX6_faultAs 32 = .ok (.ifCond .ne 5, 3) := by decide +kernel
theorem dX6_faultAs_35 : decode cX6_faultAs 35 = .ok (.iconst 2, 1) := by decide +kernel
theorem dX6_faultAs_36 : decode cX6_faultAs 36 = .ok (.ireturn, 1) := by decide +kernel
theorem dX6_faultAs_37 : decode cX6_faultAs 37 = .ok (.aload_n 0, 1) := by decide +kernel
theorem dX6_faultAs_38 : decode cX6_faultAs 38 = .ok (.invokevirtual 22, 3) := by decide +kernel
theorem dX6_faultAs_41 : decode cX6_faultAs 41 = .ok (.ifCond .ge 7, 3) := by decide +kernel
theorem dX6_faultAs_44 : decode cX6_faultAs 44 = .ok (.iconst 0, 1) := by decide +kernel
theorem dX6_faultAs_45 : decode cX6_faultAs 45 = .ok (.goto 4, 3) := by decide +kernel
theorem dX6_faultAs_48 : decode cX6_faultAs 48 = .ok (.iconst 3, 1) := by decide +kernel
theorem dX6_faultAs_49 : decode cX6_faultAs 49 = .ok (.ireturn, 1) := by decide +kernel
theorem dX6_faultAs_50 : decode cX6_faultAs 50 = .ok (.aload_n 0, 1) := by decide +kernel
theorem dX6_faultAs_51 : decode cX6_faultAs 51 = .ok (.getfield 18, 3) := by decide +kernel
theorem dX6_faultAs_54 : decode cX6_faultAs 54 = .ok (.iconst 1, 1) := by decide +kernel
theorem dX6_faultAs_55 : decode cX6_faultAs 55 = .ok (.if_icmp .ne 27, 3) := by decide +kernel
theorem dX6_faultAs_58 : decode cX6_faultAs 58 = .ok (.aload_n 0, 1) := by decide +kernel
theorem dX6_faultAs_59 : decode cX6_faultAs 59 = .ok (.iconst 0, 1) := by decide +kernel
theorem dX6_faultAs_60 : decode cX6_faultAs 60 = .ok (.invokevirtual 26, 3) := by decide +kernel
theorem dX6_faultAs_63 : decode cX6_faultAs 63 = .ok (.bipush 109, 2) := by decide +kernel
theorem dX6_faultAs_65 : decode cX6_faultAs 65 = .ok (.if_icmp .eq 13, 3) := by decide +kernel
theorem dX6_faultAs_68 : decode cX6_faultAs 68 = .ok (.aload_n 0, 1) := by decide +kernel
theorem dX6_faultAs_69 : decode cX6_faultAs 69 = .ok (.iconst 0, 1) := by decide +kernel
theorem dX6_faultAs_70 : decode cX6_faultAs 70 = .ok (.invokevirtual 26, 3) := by decide +kernel
theorem dX6_faultAs_73 : decode cX6_faultAs 73 = .ok (.bipush 102, 2) := by decide +kernel
theorem dX6_faultAs_75 : decode cX6_faultAs 75 = .ok (.if_icmp .ne 7, 3) := by decide +kernel
theorem dX6_faultAs_78 : decode cX6_faultAs 78 = .ok (.iconst 0, 1) := by decide +kernel
theorem dX6_faultAs_79 : decode cX6_faultAs 79 = .ok (.goto 5, 3) := by decide +kernel
theorem dX6_faultAs_82 : decode cX6_faultAs 82 = .ok (.bipush 6, 2) := by decide +kernel
theorem dX6_faultAs_84 : decode cX6_faultAs 84 = .ok (.ireturn, 1) := by decide +kernel
theorem dX6_faultAs_85 : decode cX6_faultAs 85 = .ok (.aload_n 0, 1) := by decide +kernel
theorem dX6_faultAs_86 : decode cX6_faultAs 86 = .ok (.getfield 18, 3) := by decide +kernel
theorem dX6_faultAs_89 : decode cX6_faultAs 89 = .ok (.ifCond .eq 19, 3) := by decide +kernel
theorem dX6_faultAs_92 : decode cX6_faultAs 92 = .ok (.aload_n 0, 1) := by decide +kernel
theorem dX6_faultAs_93 : decode cX6_faultAs 93 = .ok (.getfield 18, 3) := by decide +kernel
theorem dX6_faultAs_96 : decode cX6_faultAs 96 = .ok (.iconst 1, 1) := by decide +kernel
theorem dX6_faultAs_97 : decode cX6_faultAs 97 = .ok (.if_icmp .ne 15, 3) := by decide +kernel
theorem dX6_faultAs_100 : decode cX6_faultAs 100 = .ok (.aload_n 0, 1) := by decide +kernel
theorem dX6_faultAs_101 : decode cX6_faultAs 101 = .ok (.invokevirtual 30, 3) := by decide +kernel
theorem dX6_faultAs_104 : decode cX6_faultAs 104 = .ok (.iconst 1, 1) := by decide +kernel
theorem dX6_faultAs_105 : decode cX6_faultAs 105 = .ok (.if_icmp .ne 7, 3) := by decide +kernel
theorem dX6_faultAs_108 : decode cX6_faultAs 108 = .ok (.iconst 0, 1) := by decide +kernel
theorem dX6_faultAs_109 : decode cX6_faultAs 109 = .ok (.goto 5, 3) := by decide +kernel
theorem dX6_faultAs_112 : decode cX6_faultAs 112 = .ok (.bipush 7, 2) := by decide +kernel
theorem dX6_faultAs_114 : decode cX6_faultAs 114 = .ok (.ireturn, 1) := by decide +kernel
theorem dX6_faultAs_115 : decode cX6_faultAs 115 = .ok (.aload_n 0, 1) := by decide +kernel
theorem dX6_faultAs_116 : decode cX6_faultAs 116 = .ok (.getfield 18, 3) := by decide +kernel
theorem dX6_faultAs_119 : decode cX6_faultAs 119 = .ok (.ifCond .eq 23, 3) := by decide +kernel
theorem dX6_faultAs_122 : decode cX6_faultAs 122 = .ok (.aload_n 0, 1) := by decide +kernel
theorem dX6_faultAs_123 : decode cX6_faultAs 123 = .ok (.getfield 18, 3) := by decide +kernel
theorem dX6_faultAs_126 : decode cX6_faultAs 126 = .ok (.bipush 6, 2) := by decide +kernel
theorem dX6_faultAs_128 : decode cX6_faultAs 128 = .ok (.if_icmp .gt 14, 3) := by decide +kernel
theorem dX6_faultAs_131 : decode cX6_faultAs 131 = .ok (.aload_n 0, 1) := by decide +kernel
theorem dX6_faultAs_132 : decode cX6_faultAs 132 = .ok (.invokevirtual 30, 3) := by decide +kernel
theorem dX6_faultAs_135 : decode cX6_faultAs 135 = .ok (.aload_n 0, 1) := by decide +kernel
theorem dX6_faultAs_136 : decode cX6_faultAs 136 = .ok (.getfield 18, 3) := by decide +kernel
theorem dX6_faultAs_139 : decode cX6_faultAs 139 = .ok (.if_icmp .ge 5, 3) := by decide +kernel
theorem dX6_faultAs_142 : decode cX6_faultAs 142 = .ok (.iconst 4, 1) := by decide +kernel
theorem dX6_faultAs_143 : decode cX6_faultAs 143 = .ok (.ireturn, 1) := by decide +kernel
theorem dX6_faultAs_144 : decode cX6_faultAs 144 = .ok (.aload_n 0, 1) := by decide +kernel
theorem dX6_faultAs_145 : decode cX6_faultAs 145 = .ok (.invokevirtual 33, 3) := by decide +kernel
theorem dX6_faultAs_148 : decode cX6_faultAs 148 = .ok (.iload_n 1, 1) := by decide +kernel
theorem dX6_faultAs_149 : decode cX6_faultAs 149 = .ok (.invokestatic 36, 3) := by decide +kernel
theorem dX6_faultAs_152 : decode cX6_faultAs 152 = .ok (.if_icmp .le 7, 3) := by decide +kernel
theorem dX6_faultAs_155 : decode cX6_faultAs 155 = .ok (.iconst 5, 1) := by decide +kernel
theorem dX6_faultAs_156 : decode cX6_faultAs 156 = .ok (.goto 4, 3) := by decide +kernel
theorem dX6_faultAs_159 : decode cX6_faultAs 159 = .ok (.iconst 0, 1) := by decide +kernel
theorem dX6_faultAs_160 : decode cX6_faultAs 160 = .ok (.ireturn, 1) := by decide +kernel
set_option maxRecDepth 20000 in
theorem ggX6_valueAs_X6_at : GoodIn wsX6_valueAs wsX6_at := goodIn_r _ [5, 6, 7, 12, 13, 14] (by decide +kernel) (by decide +kernel)
set_option maxRecDepth 20000 in
theorem gX6_valueAs_X6_at : GoodIn wsX6_valueAs (wsV RX6 26 RX6 yX6_at wsX6_at) := goodIn_app (goodIn_of _ (by decide +kernel)) ggX6_valueAs_X6_at
set_option maxRecDepth 20000 in
theorem ggX6_valueAs_X6_number : GoodIn wsX6_valueAs wsX6_number := goodIn_r _ [11, 6, 1, 2, 3, 4, 5, 7, 12, 13, 14] (by decide +kernel) (by decide +kernel)
set_option maxRecDepth 20000 in
theorem gX6_valueAs_X6_number : GoodIn wsX6_valueAs (wsV RX6 33 RX6 yX6_number wsX6_number) := goodIn_app (goodIn_of _ (by decide +kernel)) ggX6_valueAs_X6_number
theorem dX6_valueAs_0 : decode cX6_valueAs 0 = .ok (.iload_n 1, 1) := by decide +kernel
theorem dX6_valueAs_1 : decode cX6_valueAs 1 = .ok (.iconst 2, 1) := by decide +kernel
theorem dX6_valueAs_2 : decode cX6_valueAs 2 = .ok (.if_icmp .ne 19, 3) := by decide +kernel
theorem dX6_valueAs_5 : decode cX6_valueAs 5 = .ok (.aload_n 0, 1) := by decide +kernel
theorem dX6_valueAs_6 : decode cX6_valueAs 6 = .ok (.iconst 0, 1) := by decide +kernel
theorem dX6_valueAs_7 : decode cX6_valueAs 7 = .ok (.invokevirtual 26, 3) := by decide +kernel
theorem dX6_valueAs_10 : decode cX6_valueAs 10 = .ok (.bipush 109, 2) := by decide +kernel
theorem dX6_valueAs_12 : decode cX6_valueAs 12 = .ok (.if_icmp .ne 7, 3) := by decide +kernel
theorem dX6_valueAs_15 : decode cX6_valueAs 15 = .ok (.iconst 0, 1) := by decide +kernel
theorem dX6_valueAs_16 : decode cX6_valueAs 16 = .ok (.goto 4, 3) := by decide +kernel
theorem dX6_valueAs_19 : decode cX6_valueAs 19 = .ok (.iconst 1, 1) := by decide +kernel
theorem dX6_valueAs_20 : decode cX6_valueAs 20 = .ok (.ireturn, 1) := by decide +kernel
theorem dX6_valueAs_21 : decode cX6_valueAs 21 = .ok (.aload_n 0, 1) := by decide +kernel
theorem dX6_valueAs_22 : decode cX6_valueAs 22 = .ok (.invokevirtual 33, 3) := by decide +kernel
theorem dX6_valueAs_25 : decode cX6_valueAs 25 = .ok (.ireturn, 1) := by decide +kernel
theorem dX6_mostOf_0 : decode cX6_mostOf 0 = .ok (.iload_n 0, 1) := by decide +kernel
theorem dX6_mostOf_1 : decode cX6_mostOf 1 = .ok (.iconst 4, 1) := by decide +kernel
theorem dX6_mostOf_2 : decode cX6_mostOf 2 = .ok (.if_icmp .ne 7, 3) := by decide +kernel
theorem dX6_mostOf_5 : decode cX6_mostOf 5 = .ok (.sipush 9999, 3) := by decide +kernel
theorem dX6_mostOf_8 : decode cX6_mostOf 8 = .ok (.ireturn, 1) := by decide +kernel
theorem dX6_mostOf_9 : decode cX6_mostOf 9 = .ok (.iload_n 0, 1) := by decide +kernel
theorem dX6_mostOf_10 : decode cX6_mostOf 10 = .ok (.iconst 5, 1) := by decide +kernel
theorem dX6_mostOf_11 : decode cX6_mostOf 11 = .ok (.if_icmp .ne 8, 3) := by decide +kernel
theorem dX6_mostOf_14 : decode cX6_mostOf 14 = .ok (.bipush 99, 2) := by decide +kernel
theorem dX6_mostOf_16 : decode cX6_mostOf 16 = .ok (.goto 5, 3) := by decide +kernel
theorem dX6_mostOf_19 : decode cX6_mostOf 19 = .ok (.bipush 120, 2) := by decide +kernel
theorem dX6_mostOf_21 : decode cX6_mostOf 21 = .ok (.ireturn, 1) := by decide +kernel
set_option maxRecDepth 20000 in
theorem ggX6_firstBadOfName_X6_at : GoodIn wsX6_firstBadOfName wsX6_at := goodIn_r _ [6, 1, 7, 11, 12, 13] (by decide +kernel) (by decide +kernel)
set_option maxRecDepth 20000 in
theorem gX6_firstBadOfName_X6_at : GoodIn wsX6_firstBadOfName (wsV RX6 26 RX6 yX6_at wsX6_at) := goodIn_app (goodIn_of _ (by decide +kernel)) ggX6_firstBadOfName_X6_at
set_option maxRecDepth 20000 in
theorem ggX6_firstBadOfName_X6_isOfNames : GoodIn wsX6_firstBadOfName wsX6_isOfNames := goodIn_r _ [10] (by decide +kernel) (by decide +kernel)
set_option maxRecDepth 20000 in
theorem gX6_firstBadOfName_X6_isOfNames : GoodIn wsX6_firstBadOfName (va_wsS RX6 39 yX6_isOfNames wsX6_isOfNames) := goodIn_app (goodIn_of _ (by decide +kernel)) ggX6_firstBadOfName_X6_isOfNames
theorem dX6_firstBadOfName_0 : decode cX6_firstBadOfName 0 = .ok (.iconst 0, 1) := by decide +kernel
theorem dX6_firstBadOfName_1 : decode cX6_firstBadOfName 1 = .ok (.istore_n 1, 1) := by decide +kernel
theorem dX6_firstBadOfName_2 : decode cX6_firstBadOfName 2 = .ok (.iload_n 1, 1) := by decide +kernel
theorem dX6_firstBadOfName_3 : decode cX6_firstBadOfName 3 = .ok (.aload_n 0, 1) := by decide +kernel
theorem dX6_firstBadOfName_4 : decode cX6_firstBadOfName 4 = .ok (.getfield 18, 3) := by decide +kernel
theorem dX6_firstBadOfName_7 : decode cX6_firstBadOfName 7 = .ok (.if_icmp .ge 28, 3) := by decide +kernel
theorem dX6_firstBadOfName_10 : decode cX6_firstBadOfName 10 = .ok (.iload_n 1, 1) := by decide +kernel
theorem dX6_firstBadOfName_11 : decode cX6_firstBadOfName 11 = .ok (.bipush 30, 2) := by decide +kernel
theorem dX6_firstBadOfName_13 : decode cX6_firstBadOfName 13 = .ok (.if_icmp .ge 14, 3) := by decide +kernel
theorem dX6_firstBadOfName_16 : decode cX6_firstBadOfName 16 = .ok (.aload_n 0, 1) := by decide +kernel
theorem dX6_firstBadOfName_17 : decode cX6_firstBadOfName 17 = .ok (.iload_n 1, 1) := by decide +kernel
theorem dX6_firstBadOfName_18 : decode cX6_firstBadOfName 18 = .ok (.invokevirtual 26, 3) := by decide +kernel
theorem dX6_firstBadOfName_21 : decode cX6_firstBadOfName 21 = .ok (.invokestatic 39, 3) := by decide +kernel
theorem dX6_firstBadOfName_24 : decode cX6_firstBadOfName 24 = .ok (.ifCond .ne 5, 3) := by decide +kernel
theorem dX6_firstBadOfName_27 : decode cX6_firstBadOfName 27 = .ok (.iload_n 1, 1) := by decide +kernel
theorem dX6_firstBadOfName_28 : decode cX6_firstBadOfName 28 = .ok (.ireturn, 1) := by decide +kernel
theorem dX6_firstBadOfName_29 : decode cX6_firstBadOfName 29 = .ok (.iinc 1 1, 3) := by decide +kernel
theorem dX6_firstBadOfName_32 : decode cX6_firstBadOfName 32 = .ok (.goto (-30), 3) := by decide +kernel
theorem dX6_firstBadOfName_35 : decode cX6_firstBadOfName 35 = .ok (.iconst (-1), 1) := by decide +kernel
theorem dX6_firstBadOfName_36 : decode cX6_firstBadOfName 36 = .ok (.ireturn, 1) := by decide +kernel
theorem dX6_isOfNames_0 : decode cX6_isOfNames 0 = .ok (.iload_n 0, 1) := by decide +kernel
theorem dX6_isOfNames_1 : decode cX6_isOfNames 1 = .ok (.bipush 97, 2) := by decide +kernel
theorem dX6_isOfNames_3 : decode cX6_isOfNames 3 = .ok (.if_icmp .lt 9, 3) := by decide +kernel
theorem dX6_isOfNames_6 : decode cX6_isOfNames 6 = .ok (.iload_n 0, 1) := by decide +kernel
theorem dX6_isOfNames_7 : decode cX6_isOfNames 7 = .ok (.bipush 122, 2) := by decide +kernel
theorem dX6_isOfNames_9 : decode cX6_isOfNames 9 = .ok (.if_icmp .le 27, 3) := by decide +kernel
theorem dX6_isOfNames_12 : decode cX6_isOfNames 12 = .ok (.iload_n 0, 1) := by decide +kernel
theorem dX6_isOfNames_13 : decode cX6_isOfNames 13 = .ok (.bipush 65, 2) := by decide +kernel
theorem dX6_isOfNames_15 : decode cX6_isOfNames 15 = .ok (.if_icmp .lt 9, 3) := by decide +kernel
theorem dX6_isOfNames_18 : decode cX6_isOfNames 18 = .ok (.iload_n 0, 1) := by decide +kernel
theorem dX6_isOfNames_19 : decode cX6_isOfNames 19 = .ok (.bipush 90, 2) := by decide +kernel
theorem dX6_isOfNames_21 : decode cX6_isOfNames 21 = .ok (.if_icmp .le 15, 3) := by decide +kernel
theorem dX6_isOfNames_24 : decode cX6_isOfNames 24 = .ok (.iload_n 0, 1) := by decide +kernel
theorem dX6_isOfNames_25 : decode cX6_isOfNames 25 = .ok (.bipush 32, 2) := by decide +kernel
theorem dX6_isOfNames_27 : decode cX6_isOfNames 27 = .ok (.if_icmp .eq 9, 3) := by decide +kernel
theorem dX6_isOfNames_30 : decode cX6_isOfNames 30 = .ok (.iload_n 0, 1) := by decide +kernel
theorem dX6_isOfNames_31 : decode cX6_isOfNames 31 = .ok (.bipush 45, 2) := by decide +kernel
theorem dX6_isOfNames_33 : decode cX6_isOfNames 33 = .ok (.if_icmp .ne 7, 3) := by decide +kernel
theorem dX6_isOfNames_36 : decode cX6_isOfNames 36 = .ok (.iconst 1, 1) := by decide +kernel
theorem dX6_isOfNames_37 : decode cX6_isOfNames 37 = .ok (.goto 4, 3) := by decide +kernel
theorem dX6_isOfNames_40 : decode cX6_isOfNames 40 = .ok (.iconst 0, 1) := by decide +kernel
theorem dX6_isOfNames_41 : decode cX6_isOfNames 41 = .ok (.ireturn, 1) := by decide +kernel
set_option maxRecDepth 20000 in
theorem ggX6_digits_X6_at : GoodIn wsX6_digits wsX6_at := goodIn_r _ [6, 1, 7, 8, 9, 10] (by decide +kernel) (by decide +kernel)
set_option maxRecDepth 20000 in
theorem gX6_digits_X6_at : GoodIn wsX6_digits (wsV RX6 26 RX6 yX6_at wsX6_at) := goodIn_app (goodIn_of _ (by decide +kernel)) ggX6_digits_X6_at
theorem dX6_digits_0 : decode cX6_digits 0 = .ok (.iconst 0, 1) := by decide +kernel
theorem dX6_digits_1 : decode cX6_digits 1 = .ok (.istore_n 1, 1) := by decide +kernel
theorem dX6_digits_2 : decode cX6_digits 2 = .ok (.iconst 0, 1) := by decide +kernel
theorem dX6_digits_3 : decode cX6_digits 3 = .ok (.istore_n 2, 1) := by decide +kernel
theorem dX6_digits_4 : decode cX6_digits 4 = .ok (.iload_n 2, 1) := by decide +kernel
theorem dX6_digits_5 : decode cX6_digits 5 = .ok (.aload_n 0, 1) := by decide +kernel
theorem dX6_digits_6 : decode cX6_digits 6 = .ok (.getfield 18, 3) := by decide +kernel
theorem dX6_digits_9 : decode cX6_digits 9 = .ok (.if_icmp .ge 40, 3) := by decide +kernel
theorem dX6_digits_12 : decode cX6_digits 12 = .ok (.iload_n 2, 1) := by decide +kernel
theorem dX6_digits_13 : decode cX6_digits 13 = .ok (.bipush 6, 2) := by decide +kernel
theorem dX6_digits_15 : decode cX6_digits 15 = .ok (.if_icmp .ge 34, 3) := by decide +kernel
theorem dX6_digits_18 : decode cX6_digits 18 = .ok (.aload_n 0, 1) := by decide +kernel
theorem dX6_digits_19 : decode cX6_digits 19 = .ok (.iload_n 2, 1) := by decide +kernel
theorem dX6_digits_20 : decode cX6_digits 20 = .ok (.invokevirtual 26, 3) := by decide +kernel
theorem dX6_digits_23 : decode cX6_digits 23 = .ok (.bipush 48, 2) := by decide +kernel
theorem dX6_digits_25 : decode cX6_digits 25 = .ok (.if_icmp .lt 13, 3) := by decide +kernel
theorem dX6_digits_28 : decode cX6_digits 28 = .ok (.aload_n 0, 1) := by decide +kernel
theorem dX6_digits_29 : decode cX6_digits 29 = .ok (.iload_n 2, 1) := by decide +kernel
theorem dX6_digits_30 : decode cX6_digits 30 = .ok (.invokevirtual 26, 3) := by decide +kernel
theorem dX6_digits_33 : decode cX6_digits 33 = .ok (.bipush 57, 2) := by decide +kernel
theorem dX6_digits_35 : decode cX6_digits 35 = .ok (.if_icmp .le 5, 3) := by decide +kernel
theorem dX6_digits_38 : decode cX6_digits 38 = .ok (.iload_n 1, 1) := by decide +kernel
theorem dX6_digits_39 : decode cX6_digits 39 = .ok (.ireturn, 1) := by decide +kernel
theorem dX6_digits_40 : decode cX6_digits 40 = .ok (.iinc 1 1, 3) := by decide +kernel
theorem dX6_digits_43 : decode cX6_digits 43 = .ok (.iinc 2 1, 3) := by decide +kernel
theorem dX6_digits_46 : decode cX6_digits 46 = .ok (.goto (-42), 3) := by decide +kernel
theorem dX6_digits_49 : decode cX6_digits 49 = .ok (.iload_n 1, 1) := by decide +kernel
theorem dX6_digits_50 : decode cX6_digits 50 = .ok (.ireturn, 1) := by decide +kernel
set_option maxRecDepth 20000 in
theorem ggX6_number_X6_at : GoodIn wsX6_number wsX6_at := goodIn_r _ [6, 1, 7, 8, 9, 10] (by decide +kernel) (by decide +kernel)
set_option maxRecDepth 20000 in
theorem gX6_number_X6_at : GoodIn wsX6_number (wsV RX6 26 RX6 yX6_at wsX6_at) := goodIn_app (goodIn_of _ (by decide +kernel)) ggX6_number_X6_at
theorem dX6_number_0 : decode cX6_number 0 = .ok (.iconst 0, 1) := by decide +kernel
theorem dX6_number_1 : decode cX6_number 1 = .ok (.istore_n 1, 1) := by decide +kernel
theorem dX6_number_2 : decode cX6_number 2 = .ok (.iconst 0, 1) := by decide +kernel
theorem dX6_number_3 : decode cX6_number 3 = .ok (.istore_n 2, 1) := by decide +kernel
theorem dX6_number_4 : decode cX6_number 4 = .ok (.iload_n 2, 1) := by decide +kernel
theorem dX6_number_5 : decode cX6_number 5 = .ok (.aload_n 0, 1) := by decide +kernel
theorem dX6_number_6 : decode cX6_number 6 = .ok (.getfield 18, 3) := by decide +kernel
theorem dX6_number_9 : decode cX6_number 9 = .ok (.if_icmp .ge 51, 3) := by decide +kernel
theorem dX6_number_12 : decode cX6_number 12 = .ok (.iload_n 2, 1) := by decide +kernel
theorem dX6_number_13 : decode cX6_number 13 = .ok (.bipush 6, 2) := by decide +kernel
theorem dX6_number_15 : decode cX6_number 15 = .ok (.if_icmp .ge 45, 3) := by decide +kernel
theorem dX6_number_18 : decode cX6_number 18 = .ok (.aload_n 0, 1) := by decide +kernel
theorem dX6_number_19 : decode cX6_number 19 = .ok (.iload_n 2, 1) := by decide +kernel
theorem dX6_number_20 : decode cX6_number 20 = .ok (.invokevirtual 26, 3) := by decide +kernel
theorem dX6_number_23 : decode cX6_number 23 = .ok (.bipush 48, 2) := by decide +kernel
theorem dX6_number_25 : decode cX6_number 25 = .ok (.if_icmp .lt 13, 3) := by decide +kernel
theorem dX6_number_28 : decode cX6_number 28 = .ok (.aload_n 0, 1) := by decide +kernel
theorem dX6_number_29 : decode cX6_number 29 = .ok (.iload_n 2, 1) := by decide +kernel
theorem dX6_number_30 : decode cX6_number 30 = .ok (.invokevirtual 26, 3) := by decide +kernel
theorem dX6_number_33 : decode cX6_number 33 = .ok (.bipush 57, 2) := by decide +kernel
theorem dX6_number_35 : decode cX6_number 35 = .ok (.if_icmp .le 5, 3) := by decide +kernel
theorem dX6_number_38 : decode cX6_number 38 = .ok (.iload_n 1, 1) := by decide +kernel
theorem dX6_number_39 : decode cX6_number 39 = .ok (.ireturn, 1) := by decide +kernel
theorem dX6_number_40 : decode cX6_number 40 = .ok (.iload_n 1, 1) := by decide +kernel
theorem dX6_number_41 : decode cX6_number 41 = .ok (.bipush 10, 2) := by decide +kernel
theorem dX6_number_43 : decode cX6_number 43 = .ok (.imul, 1) := by decide +kernel
theorem dX6_number_44 : decode cX6_number 44 = .ok (.aload_n 0, 1) := by decide +kernel
theorem dX6_number_45 : decode cX6_number 45 = .ok (.iload_n 2, 1) := by decide +kernel
theorem dX6_number_46 : decode cX6_number 46 = .ok (.invokevirtual 26, 3) := by decide +kernel
theorem dX6_number_49 : decode cX6_number 49 = .ok (.bipush 48, 2) := by decide +kernel
theorem dX6_number_51 : decode cX6_number 51 = .ok (.isub, 1) := by decide +kernel
theorem dX6_number_52 : decode cX6_number 52 = .ok (.iadd, 1) := by decide +kernel
theorem dX6_number_53 : decode cX6_number 53 = .ok (.istore_n 1, 1) := by decide +kernel
theorem dX6_number_54 : decode cX6_number 54 = .ok (.iinc 2 1, 3) := by decide +kernel
theorem dX6_number_57 : decode cX6_number 57 = .ok (.goto (-53), 3) := by decide +kernel
theorem dX6_number_60 : decode cX6_number 60 = .ok (.iload_n 1, 1) := by decide +kernel
theorem dX6_number_61 : decode cX6_number 61 = .ok (.ireturn, 1) := by decide +kernel
theorem dX7_init_0 : decode cX7_init 0 = .ok (.aload_n 0, 1) := by decide +kernel
theorem dX7_init_1 : decode cX7_init 1 = .ok (.invokespecial 3, 3) := by decide +kernel
theorem dX7_init_4 : decode cX7_init 4 = .ok (.aload_n 0, 1) := by decide +kernel
theorem dX7_init_5 : decode cX7_init 5 = .ok (.sipush 4000, 3) := by decide +kernel
theorem dX7_init_8 : decode cX7_init 8 = .ok (.newarray .byte, 2) := by decide +kernel
theorem dX7_init_10 : decode cX7_init 10 = .ok (.putfield 11, 3) := by decide +kernel
theorem dX7_init_13 : decode cX7_init 13 = .ok (.return_, 1) := by decide +kernel
theorem dX7_hasRoomFor_0 : decode cX7_hasRoomFor 0 = .ok (.aload_n 0, 1) := by decide +kernel
theorem dX7_hasRoomFor_1 : decode cX7_hasRoomFor 1 = .ok (.getfield 15, 3) := by decide +kernel
theorem dX7_hasRoomFor_4 : decode cX7_hasRoomFor 4 = .ok (.iload_n 1, 1) := by decide +kernel
theorem dX7_hasRoomFor_5 : decode cX7_hasRoomFor 5 = .ok (.iadd, 1) := by decide +kernel
theorem dX7_hasRoomFor_6 : decode cX7_hasRoomFor 6 = .ok (.sipush 4000, 3) := by decide +kernel
theorem dX7_hasRoomFor_9 : decode cX7_hasRoomFor 9 = .ok (.if_icmp .gt 7, 3) := by decide +kernel
theorem dX7_hasRoomFor_12 : decode cX7_hasRoomFor 12 = .ok (.iconst 1, 1) := by decide +kernel
theorem dX7_hasRoomFor_13 : decode cX7_hasRoomFor 13 = .ok (.goto 4, 3) := by decide +kernel
theorem dX7_hasRoomFor_16 : decode cX7_hasRoomFor 16 = .ok (.iconst 0, 1) := by decide +kernel
theorem dX7_hasRoomFor_17 : decode cX7_hasRoomFor 17 = .ok (.ireturn, 1) := by decide +kernel
theorem dX7_append_0 : decode cX7_append 0 = .ok (.bipush 24, 2) := by decide +kernel
theorem dX7_append_2 : decode cX7_append 2 = .ok (.istore_n 2, 1) := by decide +kernel
theorem dX7_append_3 : decode cX7_append 3 = .ok (.iload_n 2, 1) := by decide +kernel
theorem dX7_append_4 : decode cX7_append 4 = .ok (.ifCond .lt 42, 3) := by decide +kernel
theorem dX7_append_7 : decode cX7_append 7 = .ok (.aload_n 0, 1) := by decide +kernel
theorem dX7_append_8 : decode cX7_append 8 = .ok (.getfield 15, 3) := by decide +kernel
theorem dX7_append_11 : decode cX7_append 11 = .ok (.sipush 4000, 3) := by decide +kernel
theorem dX7_append_14 : decode cX7_append 14 = .ok (.if_icmp .ge 26, 3) := by decide +kernel
theorem dX7_append_17 : decode cX7_append 17 = .ok (.aload_n 0, 1) := by decide +kernel
theorem dX7_append_18 : decode cX7_append 18 = .ok (.getfield 11, 3) := by decide +kernel
theorem dX7_append_21 : decode cX7_append 21 = .ok (.aload_n 0, 1) := by decide +kernel
theorem dX7_append_22 : decode cX7_append 22 = .ok (.getfield 15, 3) := by decide +kernel
theorem dX7_append_25 : decode cX7_append 25 = .ok (.iload_n 1, 1) := by decide +kernel
theorem dX7_append_26 : decode cX7_append 26 = .ok (.iload_n 2, 1) := by decide +kernel
theorem dX7_append_27 : decode cX7_append 27 = .ok (.iushr, 1) := by decide +kernel
theorem dX7_append_28 : decode cX7_append 28 = .ok (.i2b, 1) := by decide +kernel
theorem dX7_append_29 : decode cX7_append 29 = .ok (.bastore, 1) := by decide +kernel
theorem dX7_append_30 : decode cX7_append 30 = .ok (.aload_n 0, 1) := by decide +kernel
theorem dX7_append_31 : decode cX7_append 31 = .ok (.dup, 1) := by decide +kernel
theorem dX7_append_32 : decode cX7_append 32 = .ok (.getfield 15, 3) := by decide +kernel
theorem dX7_append_35 : decode cX7_append 35 = .ok (.iconst 1, 1) := by decide +kernel
theorem dX7_append_36 : decode cX7_append 36 = .ok (.iadd, 1) := by decide +kernel
theorem dX7_append_37 : decode cX7_append 37 = .ok (.putfield 15, 3) := by decide +kernel
theorem dX7_append_40 : decode cX7_append 40 = .ok (.iinc 2 (-8), 3) := by decide +kernel
theorem dX7_append_43 : decode cX7_append 43 = .ok (.goto (-40), 3) := by decide +kernel
theorem dX7_append_46 : decode cX7_append 46 = .ok (.return_, 1) := by decide +kernel
theorem dX7_keepFirst_0 : decode cX7_keepFirst 0 = .ok (.iload_n 1, 1) := by decide +kernel
theorem dX7_keepFirst_1 : decode cX7_keepFirst 1 = .ok (.ifCond .lt 16, 3) := by decide +kernel
theorem dX7_keepFirst_4 : decode cX7_keepFirst 4 = .ok (.iload_n 1, 1) := by decide +kernel
theorem dX7_keepFirst_5 : decode cX7_keepFirst 5 = .ok (.aload_n 0, 1) := by decide +kernel
theorem dX7_keepFirst_6 : decode cX7_keepFirst 6 = .ok (.getfield 15, 3) := by decide +kernel
theorem dX7_keepFirst_9 : decode cX7_keepFirst 9 = .ok (.if_icmp .gt 8, 3) := by decide +kernel
theorem dX7_keepFirst_12 : decode cX7_keepFirst 12 = .ok (.aload_n 0, 1) := by decide +kernel
theorem dX7_keepFirst_13 : decode cX7_keepFirst 13 = .ok (.iload_n 1, 1) := by decide +kernel
theorem dX7_keepFirst_14 : decode cX7_keepFirst 14 = .ok (.putfield 15, 3) := by decide +kernel
theorem dX7_keepFirst_17 : decode cX7_keepFirst 17 = .ok (.return_, 1) := by decide +kernel
theorem dX7_at_0 : decode cX7_at 0 = .ok (.iload_n 1, 1) := by decide +kernel
theorem dX7_at_1 : decode cX7_at 1 = .ok (.ifCond .lt 24, 3) := by decide +kernel
theorem dX7_at_4 : decode cX7_at 4 = .ok (.iload_n 1, 1) := by decide +kernel
theorem dX7_at_5 : decode cX7_at 5 = .ok (.aload_n 0, 1) := by decide +kernel
theorem dX7_at_6 : decode cX7_at 6 = .ok (.getfield 15, 3) := by decide +kernel
theorem dX7_at_9 : decode cX7_at 9 = .ok (.if_icmp .ge 16, 3) := by decide +kernel
theorem dX7_at_12 : decode cX7_at 12 = .ok (.aload_n 0, 1) := by decide +kernel
theorem dX7_at_13 : decode cX7_at 13 = .ok (.getfield 11, 3) := by decide +kernel
theorem dX7_at_16 : decode cX7_at 16 = .ok (.iload_n 1, 1) := by decide +kernel
theorem dX7_at_17 : decode cX7_at 17 = .ok (.baload, 1) := by decide +kernel
theorem dX7_at_18 : decode cX7_at 18 = .ok (.sipush 255, 3) := by decide +kernel
theorem dX7_at_21 : decode cX7_at 21 = .ok (.iand, 1) := by decide +kernel
theorem dX7_at_22 : decode cX7_at 22 = .ok (.goto 4, 3) := by decide +kernel
theorem dX7_at_25 : decode cX7_at 25 = .ok (.iconst (-1), 1) := by decide +kernel
theorem dX7_at_26 : decode cX7_at 26 = .ok (.ireturn, 1) := by decide +kernel
set_option maxRecDepth 20000 in
theorem ggX7_lineEnd_X7_at : GoodIn wsX7_lineEnd wsX7_at := goodIn_r _ [6, 1, 7, 8, 9] (by decide +kernel) (by decide +kernel)
set_option maxRecDepth 20000 in
theorem gX7_lineEnd_X7_at : GoodIn wsX7_lineEnd (wsV RX7 19 RX7 yX7_at wsX7_at) := goodIn_app (goodIn_of _ (by decide +kernel)) ggX7_lineEnd_X7_at
theorem dX7_lineEnd_0 : decode cX7_lineEnd 0 = .ok (.iload_n 1, 1) := by decide +kernel
theorem dX7_lineEnd_1 : decode cX7_lineEnd 1 = .ok (.istore_n 2, 1) := by decide +kernel
theorem dX7_lineEnd_2 : decode cX7_lineEnd 2 = .ok (.iload_n 2, 1) := by decide +kernel
theorem dX7_lineEnd_3 : decode cX7_lineEnd 3 = .ok (.aload_n 0, 1) := by decide +kernel
theorem dX7_lineEnd_4 : decode cX7_lineEnd 4 = .ok (.getfield 15, 3) := by decide +kernel
theorem dX7_lineEnd_7 : decode cX7_lineEnd 7 = .ok (.if_icmp .ge 21, 3) := by decide +kernel
theorem dX7_lineEnd_10 : decode cX7_lineEnd 10 = .ok (.aload_n 0, 1) := by decide +kernel
theorem dX7_lineEnd_11 : decode cX7_lineEnd 11 = .ok (.iload_n 2, 1) := by decide +kernel
theorem dX7_lineEnd_12 : decode cX7_lineEnd 12 = .ok (.invokevirtual 19, 3) := by decide +kernel
theorem dX7_lineEnd_15 : decode cX7_lineEnd 15 = .ok (.bipush 10, 2) := by decide +kernel
theorem dX7_lineEnd_17 : decode cX7_lineEnd 17 = .ok (.if_icmp .ne 5, 3) := by decide +kernel
theorem dX7_lineEnd_20 : decode cX7_lineEnd 20 = .ok (.iload_n 2, 1) := by decide +kernel
theorem dX7_lineEnd_21 : decode cX7_lineEnd 21 = .ok (.ireturn, 1) := by decide +kernel
theorem dX7_lineEnd_22 : decode cX7_lineEnd 22 = .ok (.iinc 2 1, 3) := by decide +kernel
theorem dX7_lineEnd_25 : decode cX7_lineEnd 25 = .ok (.goto (-23), 3) := by decide +kernel
theorem dX7_lineEnd_28 : decode cX7_lineEnd 28 = .ok (.aload_n 0, 1) := by decide +kernel
theorem dX7_lineEnd_29 : decode cX7_lineEnd 29 = .ok (.getfield 15, 3) := by decide +kernel
theorem dX7_lineEnd_32 : decode cX7_lineEnd 32 = .ok (.ireturn, 1) := by decide +kernel
set_option maxRecDepth 20000 in
theorem ggX7_behindEmptyLines_X7_at : GoodIn wsX7_behindEmptyLines wsX7_at := goodIn_r _ [6, 1, 7, 8, 9] (by decide +kernel) (by decide +kernel)
set_option maxRecDepth 20000 in
theorem gX7_behindEmptyLines_X7_at : GoodIn wsX7_behindEmptyLines (wsV RX7 19 RX7 yX7_at wsX7_at) := goodIn_app (goodIn_of _ (by decide +kernel)) ggX7_behindEmptyLines_X7_at
theorem dX7_behindEmptyLines_0 : decode cX7_behindEmptyLines 0 = .ok (.iload_n 1, 1) := by decide +kernel
theorem dX7_behindEmptyLines_1 : decode cX7_behindEmptyLines 1 = .ok (.istore_n 2, 1) := by decide +kernel
theorem dX7_behindEmptyLines_2 : decode cX7_behindEmptyLines 2 = .ok (.iload_n 2, 1) := by decide +kernel
theorem dX7_behindEmptyLines_3 : decode cX7_behindEmptyLines 3 = .ok (.aload_n 0, 1) := by decide +kernel
theorem dX7_behindEmptyLines_4 : decode cX7_behindEmptyLines 4 = .ok (.getfield 15, 3) := by decide +kernel
theorem dX7_behindEmptyLines_7 : decode cX7_behindEmptyLines 7 = .ok (.if_icmp .ge 21, 3) := by decide +kernel
theorem dX7_behindEmptyLines_10 : decode cX7_behindEmptyLines 10 = .ok (.aload_n 0, 1) := by decide +kernel
theorem dX7_behindEmptyLines_11 : decode cX7_behindEmptyLines 11 = .ok (.iload_n 2, 1) := by decide +kernel
theorem dX7_behindEmptyLines_12 : decode cX7_behindEmptyLines 12 = .ok (.invokevirtual 19, 3) := by decide +kernel
theorem dX7_behindEmptyLines_15 : decode cX7_behindEmptyLines 15 = .ok (.bipush 10, 2) := by decide +kernel
theorem dX7_behindEmptyLines_17 : decode cX7_behindEmptyLines 17 = .ok (.if_icmp .eq 5, 3) := by decide +kernel
theorem dX7_behindEmptyLines_20 : decode cX7_behindEmptyLines 20 = .ok (.iload_n 2, 1) := by decide +kernel
theorem dX7_behindEmptyLines_21 : decode cX7_behindEmptyLines 21 = .ok (.ireturn, 1) := by decide +kernel
theorem dX7_behindEmptyLines_22 : decode cX7_behindEmptyLines 22 = .ok (.iinc 2 1, 3) := by decide +kernel
theorem dX7_behindEmptyLines_25 : decode cX7_behindEmptyLines 25 = .ok (.goto (-23), 3) := by decide +kernel
theorem dX7_behindEmptyLines_28 : decode cX7_behindEmptyLines 28 = .ok (.aload_n 0, 1) := by decide +kernel
theorem dX7_behindEmptyLines_29 : decode cX7_behindEmptyLines 29 = .ok (.getfield 15, 3) := by decide +kernel
theorem dX7_behindEmptyLines_32 : decode cX7_behindEmptyLines 32 = .ok (.ireturn, 1) := by decide +kernel
set_option maxRecDepth 20000 in
theorem ggX8_init_X7_init : GoodIn wsX8_init wsX7_init := goodIn_r _ [25, 26, 2, 3, 27, 28, 96, 97] (by decide +kernel) (by decide +kernel)
set_option maxRecDepth 20000 in
theorem gX8_init_X7_init_n9 : GoodIn wsX8_init (wsX7_init) := ggX8_init_X7_init
set_option maxRecDepth 20000 in
theorem ggX8_init_X5_init : GoodIn wsX8_init wsX5_init := goodIn_r _ [31, 32, 2, 3, 33, 34, 35, 36, 37, 38, 39, 108, 109] (by decide +kernel) (by decide +kernel)
set_option maxRecDepth 20000 in
theorem gX8_init_X5_init : GoodIn wsX8_init (wsX5_init) := ggX8_init_X5_init
set_option maxRecDepth 20000 in
theorem ggX8_init_X1_init : GoodIn wsX8_init wsX1_init := goodIn_r _ [41, 42, 2, 3, 43, 33, 44, 45, 46, 47, 110, 111, 112, 113, 114] (by decide +kernel) (by decide +kernel)
set_option maxRecDepth 20000 in
theorem gX8_init_X1_init_n25 : GoodIn wsX8_init (wsX1_init) := ggX8_init_X1_init
set_option maxRecDepth 20000 in
theorem ggX8_init_X0_init : GoodIn wsX8_init wsX0_init := goodIn_r _ [49, 50, 2, 3, 51, 33, 52, 53, 27, 54, 55, 115, 116, 117, 118, 119, 120, 121, 122, 123, 124] (by decide +kernel) (by decide +kernel)
set_option maxRecDepth 20000 in
theorem gX8_init_X0_init_n32 : GoodIn wsX8_init (wsX0_init) := ggX8_init_X0_init
set_option maxRecDepth 20000 in
theorem ggX8_init_X4_init_1 : GoodIn wsX8_init wsX4_init_r1 := goodIn_r _ [59, 2, 3, 60, 61, 62, 63, 64, 65, 66, 67, 68, 69, 70, 71, 33, 72, 73, 74, 75, 76, 77, 78, 79] (by decide +kernel) (by decide +kernel)
set_option maxRecDepth 20000 in
theorem ggX8_init_X4_init_2 : GoodIn wsX8_init wsX4_init_r2 := goodIn_r _ [80, 81, 82, 83, 84, 85, 86, 87, 88, 89, 90, 91, 92, 93, 94, 27, 95] (by decide +kernel) (by decide +kernel)
set_option maxRecDepth 20000 in
theorem ggX8_init_X4_init_3 : GoodIn wsX8_init wsX30 := goodIn_r _ [144, 145, 146, 147, 148, 149, 150] (by decide +kernel) (by decide +kernel)
set_option maxRecDepth 20000 in
theorem ggX8_init_X4_init_4 : GoodIn wsX8_init wsX40 := goodIn_r _ [125, 126, 127, 128, 129, 130, 131, 132, 133, 134, 135, 136, 137, 138, 139, 140, 141, 142, 143] (by decide +kernel) (by decide +kernel)
set_option maxRecDepth 20000 in
theorem ggX8_init_X4_init_5 : GoodIn wsX8_init wsX60 := goodIn_r _ [151, 152, 153] (by decide +kernel) (by decide +kernel)
set_option maxRecDepth 20000 in
theorem ggX8_init_X4_init_6 : GoodIn wsX8_init wsX20 := goodIn_r _ [154, 155, 156, 157, 158, 159, 160, 161, 162, 163, 164, 165, 166] (by decide +kernel) (by decide +kernel)
set_option maxRecDepth 20000 in
theorem ggX8_init_X4_init_0 : GoodIn wsX8_init [.code yX4_init cX4_init 5 none] := goodIn_r _ [58] (by decide +kernel) (by decide +kernel)
theorem ggX8_init_X4_init : GoodIn wsX8_init wsX4_init := goodIn_k ggX8_init_X4_init_0 (goodIn_app (goodIn_app (goodIn_app (goodIn_app (goodIn_app ggX8_init_X4_init_1 ggX8_init_X4_init_2) ggX8_init_X4_init_3) ggX8_init_X4_init_4) ggX8_init_X4_init_5) ggX8_init_X4_init_6)
set_option maxRecDepth 20000 in
theorem gX8_init_X4_init : GoodIn wsX8_init (wsX4_init) := ggX8_init_X4_init
theorem dX8_init_0 : decode cX8_init 0 = .ok (.aload_n 0, 1) := by decide +kernel
theorem dX8_init_1 : decode cX8_init 1 = .ok (.invokespecial 1, 3) := by decide +kernel
theorem dX8_init_4 : decode cX8_init 4 = .ok (.aload_n 0, 1) := by decide +kernel
theorem dX8_init_5 : decode cX8_init 5 = .ok (.new 7, 3) := by decide +kernel
theorem dX8_init_8 : decode cX8_init 8 = .ok (.dup, 1) := by decide +kernel
theorem dX8_init_9 : decode cX8_init 9 = .ok (.invokespecial 9, 3) := by decide +kernel
theorem dX8_init_12 : decode cX8_init 12 = .ok (.putfield 10, 3) := by decide +kernel
theorem dX8_init_15 : decode cX8_init 15 = .ok (.aload_n 0, 1) := by decide +kernel
theorem dX8_init_16 : decode cX8_init 16 = .ok (.new 16, 3) := by decide +kernel
theorem dX8_init_19 : decode cX8_init 19 = .ok (.dup, 1) := by decide +kernel
theorem dX8_init_20 : decode cX8_init 20 = .ok (.invokespecial 18, 3) := by decide +kernel
theorem dX8_init_23 : decode cX8_init 23 = .ok (.putfield 19, 3) := by decide +kernel
theorem dX8_init_26 : decode cX8_init 26 = .ok (.aload_n 0, 1) := by decide +kernel
theorem dX8_init_27 : decode cX8_init 27 = .ok (.new 23, 3) := by decide +kernel
theorem dX8_init_30 : decode cX8_init 30 = .ok (.dup, 1) := by decide +kernel
theorem dX8_init_31 : decode cX8_init 31 = .ok (.invokespecial 25, 3) := by decide +kernel
theorem dX8_init_34 : decode cX8_init 34 = .ok (.putfield 26, 3) := by decide +kernel
theorem dX8_init_37 : decode cX8_init 37 = .ok (.aload_n 0, 1) := by decide +kernel
theorem dX8_init_38 : decode cX8_init 38 = .ok (.new 30, 3) := by decide +kernel
theorem dX8_init_41 : decode cX8_init 41 = .ok (.dup, 1) := by decide +kernel
theorem dX8_init_42 : decode cX8_init 42 = .ok (.invokespecial 32, 3) := by decide +kernel
theorem dX8_init_45 : decode cX8_init 45 = .ok (.putfield 33, 3) := by decide +kernel
theorem dX8_init_48 : decode cX8_init 48 = .ok (.aload_n 0, 1) := by decide +kernel
theorem dX8_init_49 : decode cX8_init 49 = .ok (.new 37, 3) := by decide +kernel
theorem dX8_init_52 : decode cX8_init 52 = .ok (.dup, 1) := by decide +kernel
theorem dX8_init_53 : decode cX8_init 53 = .ok (.aload_n 0, 1) := by decide +kernel
theorem dX8_init_54 : decode cX8_init 54 = .ok (.getfield 10, 3) := by decide +kernel
theorem dX8_init_57 : decode cX8_init 57 = .ok (.aload_n 0, 1) := by decide +kernel
theorem dX8_init_58 : decode cX8_init 58 = .ok (.getfield 19, 3) := by decide +kernel
theorem dX8_init_61 : decode cX8_init 61 = .ok (.aload_n 0, 1) := by decide +kernel
theorem dX8_init_62 : decode cX8_init 62 = .ok (.getfield 26, 3) := by decide +kernel
theorem dX8_init_65 : decode cX8_init 65 = .ok (.aload_n 0, 1) := by decide +kernel
theorem dX8_init_66 : decode cX8_init 66 = .ok (.getfield 33, 3) := by decide +kernel
theorem dX8_init_69 : decode cX8_init 69 = .ok (.invokespecial 39, 3) := by decide +kernel
theorem dX8_init_72 : decode cX8_init 72 = .ok (.putfield 42, 3) := by decide +kernel
theorem dX8_init_75 : decode cX8_init 75 = .ok (.return_, 1) := by decide +kernel
set_option maxRecDepth 20000 in
theorem ggX8_feed_X7_hasRoomFor : GoodIn wsX8_feed wsX7_hasRoomFor := goodIn_r _ [7, 8, 24, 25] (by decide +kernel) (by decide +kernel)
set_option maxRecDepth 20000 in
theorem gX8_feed_X7_hasRoomFor : GoodIn wsX8_feed (wsV RX8 46 RX7 yX7_hasRoomFor wsX7_hasRoomFor) := goodIn_app (goodIn_of _ (by decide +kernel)) ggX8_feed_X7_hasRoomFor
set_option maxRecDepth 20000 in
theorem ggX8_feed_X7_append : GoodIn wsX8_feed wsX7_append := goodIn_r _ [12, 8, 13, 24, 25] (by decide +kernel) (by decide +kernel)
set_option maxRecDepth 20000 in
theorem gX8_feed_X7_append : GoodIn wsX8_feed (wsV RX8 54 RX7 yX7_append wsX7_append) := goodIn_app (goodIn_of _ (by decide +kernel)) ggX8_feed_X7_append
theorem dX8_feed_0 : decode cX8_feed 0 = .ok (.aload_n 0, 1) := by decide +kernel
theorem dX8_feed_1 : decode cX8_feed 1 = .ok (.getfield 10, 3) := by decide +kernel
theorem dX8_feed_4 : decode cX8_feed 4 = .ok (.bipush 20, 2) := by decide +kernel
theorem dX8_feed_6 : decode cX8_feed 6 = .ok (.invokevirtual 46, 3) := by decide +kernel
theorem dX8_feed_9 : decode cX8_feed 9 = .ok (.ifCond .ne 5, 3) := by decide +kernel
theorem dX8_feed_12 : decode cX8_feed 12 = .ok (.iconst (-1), 1) := by decide +kernel
theorem dX8_feed_13 : decode cX8_feed 13 = .ok (.ireturn, 1) := by decide +kernel
theorem dX8_feed_14 : decode cX8_feed 14 = .ok (.aload_n 0, 1) := by decide +kernel
theorem dX8_feed_15 : decode cX8_feed 15 = .ok (.getfield 50, 3) := by decide +kernel
theorem dX8_feed_18 : decode cX8_feed 18 = .ok (.ifCond .eq 6, 3) := by decide +kernel
theorem dX8_feed_21 : decode cX8_feed 21 = .ok (.bipush (-2), 2) := by decide +kernel
theorem dX8_feed_23 : decode cX8_feed 23 = .ok (.ireturn, 1) := by decide +kernel
theorem dX8_feed_24 : decode cX8_feed 24 = .ok (.aload_n 0, 1) := by decide +kernel
theorem dX8_feed_25 : decode cX8_feed 25 = .ok (.getfield 10, 3) := by decide +kernel
theorem dX8_feed_28 : decode cX8_feed 28 = .ok (.iload_n 1, 1) := by decide +kernel
theorem dX8_feed_29 : decode cX8_feed 29 = .ok (.invokevirtual 54, 3) := by decide +kernel
theorem dX8_feed_32 : decode cX8_feed 32 = .ok (.aload_n 0, 1) := by decide +kernel
theorem dX8_feed_33 : decode cX8_feed 33 = .ok (.getfield 10, 3) := by decide +kernel
theorem dX8_feed_36 : decode cX8_feed 36 = .ok (.iload_n 2, 1) := by decide +kernel
theorem dX8_feed_37 : decode cX8_feed 37 = .ok (.invokevirtual 54, 3) := by decide +kernel
theorem dX8_feed_40 : decode cX8_feed 40 = .ok (.aload_n 0, 1) := by decide +kernel
theorem dX8_feed_41 : decode cX8_feed 41 = .ok (.getfield 10, 3) := by decide +kernel
theorem dX8_feed_44 : decode cX8_feed 44 = .ok (.iload_n 3, 1) := by decide +kernel
theorem dX8_feed_45 : decode cX8_feed 45 = .ok (.invokevirtual 54, 3) := by decide +kernel
theorem dX8_feed_48 : decode cX8_feed 48 = .ok (.aload_n 0, 1) := by decide +kernel
theorem dX8_feed_49 : decode cX8_feed 49 = .ok (.getfield 10, 3) := by decide +kernel
theorem dX8_feed_52 : decode cX8_feed 52 = .ok (.iload 4, 2) := by decide +kernel
theorem dX8_feed_54 : decode cX8_feed 54 = .ok (.invokevirtual 54, 3) := by decide +kernel
theorem dX8_feed_57 : decode cX8_feed 57 = .ok (.aload_n 0, 1) := by decide +kernel
theorem dX8_feed_58 : decode cX8_feed 58 = .ok (.getfield 10, 3) := by decide +kernel
theorem dX8_feed_61 : decode cX8_feed 61 = .ok (.iload 5, 2) := by decide +kernel
theorem dX8_feed_63 : decode cX8_feed 63 = .ok (.invokevirtual 54, 3) := by decide +kernel
theorem dX8_feed_66 : decode cX8_feed 66 = .ok (.aload_n 0, 1) := by decide +kernel
theorem dX8_feed_67 : decode cX8_feed 67 = .ok (.getfield 10, 3) := by decide +kernel
theorem dX8_feed_70 : decode cX8_feed 70 = .ok (.getfield 58, 3) := by decide +kernel
theorem dX8_feed_73 : decode cX8_feed 73 = .ok (.ireturn, 1) := by decide +kernel
set_option maxRecDepth 20000 in
theorem ggX8_end_X7_keepFirst : GoodIn wsX8_end wsX7_keepFirst := goodIn_r _ [7, 8, 19, 20] (by decide +kernel) (by decide +kernel)
set_option maxRecDepth 20000 in
theorem gX8_end_X7_keepFirst : GoodIn wsX8_end (wsV RX8 62 RX7 yX7_keepFirst wsX7_keepFirst) := goodIn_app (goodIn_of _ (by decide +kernel)) ggX8_end_X7_keepFirst
theorem dX8_end_0 : decode cX8_end 0 = .ok (.iload_n 1, 1) := by decide +kernel
theorem dX8_end_1 : decode cX8_end 1 = .ok (.ifCond .lt 14, 3) := by decide +kernel
theorem dX8_end_4 : decode cX8_end 4 = .ok (.iload_n 1, 1) := by decide +kernel
theorem dX8_end_5 : decode cX8_end 5 = .ok (.aload_n 0, 1) := by decide +kernel
theorem dX8_end_6 : decode cX8_end 6 = .ok (.getfield 10, 3) := by decide +kernel
theorem dX8_end_9 : decode cX8_end 9 = .ok (.getfield 58, 3) := by decide +kernel
theorem dX8_end_12 : decode cX8_end 12 = .ok (.if_icmp .le 5, 3) := by decide +kernel
theorem dX8_end_15 : decode cX8_end 15 = .ok (.iconst (-1), 1) := by decide +kernel
theorem dX8_end_16 : decode cX8_end 16 = .ok (.ireturn, 1) := by decide +kernel
theorem dX8_end_17 : decode cX8_end 17 = .ok (.aload_n 0, 1) := by decide +kernel
theorem dX8_end_18 : decode cX8_end 18 = .ok (.getfield 50, 3) := by decide +kernel
theorem dX8_end_21 : decode cX8_end 21 = .ok (.ifCond .eq 6, 3) := by decide +kernel
theorem dX8_end_24 : decode cX8_end 24 = .ok (.bipush (-2), 2) := by decide +kernel
theorem dX8_end_26 : decode cX8_end 26 = .ok (.ireturn, 1) := by decide +kernel
theorem dX8_end_27 : decode cX8_end 27 = .ok (.aload_n 0, 1) := by decide +kernel
theorem dX8_end_28 : decode cX8_end 28 = .ok (.getfield 10, 3) := by decide +kernel
theorem dX8_end_31 : decode cX8_end 31 = .ok (.iload_n 1, 1) := by decide +kernel
theorem dX8_end_32 : decode cX8_end 32 = .ok (.invokevirtual 62, 3) := by decide +kernel
theorem dX8_end_35 : decode cX8_end 35 = .ok (.iload_n 1, 1) := by decide +kernel
theorem dX8_end_36 : decode cX8_end 36 = .ok (.ireturn, 1) := by decide +kernel
set_option maxRecDepth 20000 in
theorem ggX8_rule_X5_change : GoodIn wsX8_rule wsX5_change := goodIn_r _ [8, 9, 10, 21, 22] (by decide +kernel) (by decide +kernel)
set_option maxRecDepth 20000 in
theorem gX8_rule_X5_change : GoodIn wsX8_rule (wsV RX8 66 RX5 yX5_change wsX5_change) := goodIn_app (goodIn_of _ (by decide +kernel)) ggX8_rule_X5_change
theorem dX8_rule_0 : decode cX8_rule 0 = .ok (.iload_n 1, 1) := by decide +kernel
theorem dX8_rule_1 : decode cX8_rule 1 = .ok (.iconst 1, 1) := by decide +kernel
theorem dX8_rule_2 : decode cX8_rule 2 = .ok (.if_icmp .lt 9, 3) := by decide +kernel
theorem dX8_rule_5 : decode cX8_rule 5 = .ok (.iload_n 1, 1) := by decide +kernel
theorem dX8_rule_6 : decode cX8_rule 6 = .ok (.bipush 29, 2) := by decide +kernel
theorem dX8_rule_8 : decode cX8_rule 8 = .ok (.if_icmp .le 6, 3) := by decide +kernel
theorem dX8_rule_11 : decode cX8_rule 11 = .ok (.bipush (-3), 2) := by decide +kernel
theorem dX8_rule_13 : decode cX8_rule 13 = .ok (.ireturn, 1) := by decide +kernel
theorem dX8_rule_14 : decode cX8_rule 14 = .ok (.iload_n 2, 1) := by decide +kernel
theorem dX8_rule_15 : decode cX8_rule 15 = .ok (.iconst (-1), 1) := by decide +kernel
theorem dX8_rule_16 : decode cX8_rule 16 = .ok (.if_icmp .lt 8, 3) := by decide +kernel
theorem dX8_rule_19 : decode cX8_rule 19 = .ok (.iload_n 2, 1) := by decide +kernel
theorem dX8_rule_20 : decode cX8_rule 20 = .ok (.iconst 4, 1) := by decide +kernel
theorem dX8_rule_21 : decode cX8_rule 21 = .ok (.if_icmp .le 6, 3) := by decide +kernel
theorem dX8_rule_24 : decode cX8_rule 24 = .ok (.bipush (-3), 2) := by decide +kernel
theorem dX8_rule_26 : decode cX8_rule 26 = .ok (.ireturn, 1) := by decide +kernel
theorem dX8_rule_27 : decode cX8_rule 27 = .ok (.iload_n 3, 1) := by decide +kernel
theorem dX8_rule_28 : decode cX8_rule 28 = .ok (.iconst (-1), 1) := by decide +kernel
theorem dX8_rule_29 : decode cX8_rule 29 = .ok (.if_icmp .lt 9, 3) := by decide +kernel
theorem dX8_rule_32 : decode cX8_rule 32 = .ok (.iload_n 3, 1) := by decide +kernel
theorem dX8_rule_33 : decode cX8_rule 33 = .ok (.ldc 65, 2) := by decide +kernel
theorem dX8_rule_35 : decode cX8_rule 35 = .ok (.if_icmp .le 6, 3) := by decide +kernel
theorem dX8_rule_38 : decode cX8_rule 38 = .ok (.bipush (-3), 2) := by decide +kernel
theorem dX8_rule_40 : decode cX8_rule 40 = .ok (.ireturn, 1) := by decide +kernel
theorem dX8_rule_41 : decode cX8_rule 41 = .ok (.aload_n 0, 1) := by decide +kernel
theorem dX8_rule_42 : decode cX8_rule 42 = .ok (.getfield 50, 3) := by decide +kernel
theorem dX8_rule_45 : decode cX8_rule 45 = .ok (.ifCond .eq 6, 3) := by decide +kernel
theorem dX8_rule_48 : decode cX8_rule 48 = .ok (.bipush (-2), 2) := by decide +kernel
theorem dX8_rule_50 : decode cX8_rule 50 = .ok (.ireturn, 1) := by decide +kernel
theorem dX8_rule_51 : decode cX8_rule 51 = .ok (.aload_n 0, 1) := by decide +kernel
theorem dX8_rule_52 : decode cX8_rule 52 = .ok (.getfield 19, 3) := by decide +kernel
theorem dX8_rule_55 : decode cX8_rule 55 = .ok (.iload_n 1, 1) := by decide +kernel
theorem dX8_rule_56 : decode cX8_rule 56 = .ok (.iload_n 2, 1) := by decide +kernel
theorem dX8_rule_57 : decode cX8_rule 57 = .ok (.iload_n 3, 1) := by decide +kernel
theorem dX8_rule_58 : decode cX8_rule 58 = .ok (.invokevirtual 66, 3) := by decide +kernel
theorem dX8_rule_61 : decode cX8_rule 61 = .ok (.ireturn, 1) := by decide +kernel
set_option maxRecDepth 20000 in
theorem ggX8_receive_X1_forget : GoodIn wsX8_receive wsX1_forget := goodIn_r _ [9, 10, 11, 12, 13, 14, 15, 16, 17, 18, 19, 8, 20, 21, 343, 344, 345, 346, 347] (by decide +kernel) (by decide +kernel)
set_option maxRecDepth 20000 in
theorem gX8_receive_X1_forget : GoodIn wsX8_receive (wsV RX8 73 RX1 yX1_forget wsX1_forget) := goodIn_app (goodIn_of _ (by decide +kernel)) ggX8_receive_X1_forget
set_option maxRecDepth 20000 in
theorem ggX8_receive_X4_begin : GoodIn wsX8_receive wsX4_begin := goodIn_r _ [26, 27, 28, 29, 30, 31, 32, 33, 34, 35, 36, 348, 349, 350, 351, 352, 353, 354, 355, 356, 357, 358, 359, 360, 361, 362, 363, 364, 365, 366, 367, 368, 369, 370, 371, 372, 373, 374, 375, 376, 377, 378, 379] (by decide +kernel) (by decide +kernel)
set_option maxRecDepth 20000 in
theorem gX8_receive_X4_begin : GoodIn wsX8_receive (wsV RX8 76 RX4 yX4_begin wsX4_begin) := goodIn_app (goodIn_of _ (by decide +kernel)) ggX8_receive_X4_begin
set_option maxRecDepth 20000 in
theorem ggX8_receive_X4_readOn_1 : GoodIn wsX8_receive wsX4_readOn_r1 := goodIn_r _ [41, 31, 36, 33, 34, 42, 43, 44, 45, 46, 47, 48, 49, 50, 51, 52, 53, 54, 55, 25, 56, 57, 58, 59] (by decide +kernel) (by decide +kernel)
set_option maxRecDepth 20000 in
theorem ggX8_receive_X4_readOn_2 : GoodIn wsX8_receive wsX4_readOn_r2 := goodIn_r _ [60, 61, 35, 62, 63, 64, 65, 32, 66, 67, 68, 69, 70, 71, 72, 73, 74, 75, 76, 77, 78, 79, 80, 81] (by decide +kernel) (by decide +kernel)
set_option maxRecDepth 20000 in
theorem ggX8_receive_X4_readOn_3 : GoodIn wsX8_receive wsX4_readOn_r3 := goodIn_r _ [82, 83, 84, 85, 86, 87, 88, 89, 90, 91, 92, 8, 93, 94, 21, 12, 10, 95, 11, 96, 97, 98, 99, 100] (by decide +kernel) (by decide +kernel)
set_option maxRecDepth 20000 in
theorem ggX8_receive_X4_readOn_4 : GoodIn wsX8_receive wsX4_readOn_r4 := goodIn_r _ [101, 102, 103, 29, 104, 105, 106, 107, 108, 28, 30, 109, 110, 111, 112, 113, 114, 115, 116, 117, 118, 119, 120, 121] (by decide +kernel) (by decide +kernel)
set_option maxRecDepth 20000 in
theorem ggX8_receive_X4_readOn_5 : GoodIn wsX8_receive wsX4_readOn_r5 := goodIn_r _ [122, 123, 124, 125, 126, 127, 128, 129, 130, 131, 132, 133, 134, 135, 27, 136, 137, 138, 139, 140, 141, 142, 143, 144] (by decide +kernel) (by decide +kernel)
set_option maxRecDepth 20000 in
theorem ggX8_receive_X4_readOn_6 : GoodIn wsX8_receive wsX4_readOn_r6 := goodIn_r _ [145, 146, 147, 148, 149, 150, 151, 152, 153, 154, 155, 156, 157, 158, 159, 160, 161, 162, 163, 164, 165, 166, 167, 168] (by decide +kernel) (by decide +kernel)
set_option maxRecDepth 20000 in
theorem ggX8_receive_X4_readOn_7 : GoodIn wsX8_receive wsX4_readOn_r7 := goodIn_r _ [18, 19, 20, 13, 14, 15, 16, 169, 170, 171, 172, 173, 174, 175, 176, 177, 178, 179, 180, 181, 182, 183, 184, 185] (by decide +kernel) (by decide +kernel)
set_option maxRecDepth 20000 in
theorem ggX8_receive_X4_readOn_8 : GoodIn wsX8_receive wsX4_readOn_r8 := goodIn_r _ [186, 187, 188, 189, 190, 191, 192, 193, 194, 195, 196, 197, 198, 199, 200, 201, 202, 203, 204, 205, 206, 207, 208, 209] (by decide +kernel) (by decide +kernel)
set_option maxRecDepth 20000 in
theorem ggX8_receive_X4_readOn_9 : GoodIn wsX8_receive wsX4_readOn_r9 := goodIn_r _ [210, 211, 212, 213, 214, 215, 216, 217, 218, 219, 220, 221, 222, 223, 224, 225, 226, 227, 228, 229, 230, 231, 232, 233] (by decide +kernel) (by decide +kernel)
set_option maxRecDepth 20000 in
theorem ggX8_receive_X4_readOn_10 : GoodIn wsX8_receive wsX4_readOn_r10 := goodIn_r _ [234, 235, 236, 237, 238, 239, 240, 241, 242, 243, 244, 245, 246, 247, 248, 249, 250, 251, 252, 253, 254, 255, 256, 257] (by decide +kernel) (by decide +kernel)
set_option maxRecDepth 20000 in
theorem ggX8_receive_X4_readOn_11 : GoodIn wsX8_receive wsX4_readOn_r11 := goodIn_r _ [258, 259, 260, 261, 262, 263, 264, 265, 266, 267, 268, 269, 270, 271, 272, 273, 274, 275, 276, 277, 278, 279, 280, 281] (by decide +kernel) (by decide +kernel)
set_option maxRecDepth 20000 in
theorem ggX8_receive_X4_readOn_12 : GoodIn wsX8_receive wsX4_readOn_r12 := goodIn_r _ [282, 283, 284, 285, 286, 287, 288, 289, 290, 291, 292, 293, 294, 295, 296, 297, 298, 299, 300, 301, 302, 303, 304, 305] (by decide +kernel) (by decide +kernel)
set_option maxRecDepth 20000 in
theorem ggX8_receive_X4_readOn_13 : GoodIn wsX8_receive wsX4_readOn_r13 := goodIn_r _ [306, 307, 308, 309, 310, 311] (by decide +kernel) (by decide +kernel)
set_option maxRecDepth 20000 in
theorem ggX8_receive_X4_readOn_14 : GoodIn wsX8_receive wsX40 := goodIn_r _ [348, 349, 350, 351, 352, 353, 354, 355, 356, 357, 358, 359, 360, 361, 362, 363, 364, 365, 366] (by decide +kernel) (by decide +kernel)
set_option maxRecDepth 20000 in
theorem ggX8_receive_X4_readOn_15 : GoodIn wsX8_receive wsX20 := goodIn_r _ [367, 368, 369, 370, 371, 372, 373, 374, 375, 376, 377, 378, 379] (by decide +kernel) (by decide +kernel)
set_option maxRecDepth 20000 in
theorem ggX8_receive_X4_readOn_16 : GoodIn wsX8_receive wsX70 := goodIn_r _ [380, 381] (by decide +kernel) (by decide +kernel)
set_option maxRecDepth 20000 in
theorem ggX8_receive_X4_readOn_17 : GoodIn wsX8_receive wsX50 := goodIn_r _ [382, 383] (by decide +kernel) (by decide +kernel)
set_option maxRecDepth 20000 in
theorem ggX8_receive_X4_readOn_18 : GoodIn wsX8_receive wsX10 := goodIn_r _ [343, 344, 345, 346, 347] (by decide +kernel) (by decide +kernel)
set_option maxRecDepth 20000 in
theorem ggX8_receive_X4_readOn_19 : GoodIn wsX8_receive wsX00 := goodIn_r _ [384, 385, 386, 387, 388, 389, 390, 391, 392, 393] (by decide +kernel) (by decide +kernel)
set_option maxRecDepth 20000 in
theorem ggX8_receive_X4_readOn_20 : GoodIn wsX8_receive wsX30 := goodIn_r _ [394, 395, 396, 397, 398, 399, 400] (by decide +kernel) (by decide +kernel)
set_option maxRecDepth 20000 in
theorem ggX8_receive_X4_readOn_21 : GoodIn wsX8_receive wsX60 := goodIn_r _ [401, 402, 403] (by decide +kernel) (by decide +kernel)
set_option maxRecDepth 20000 in
theorem ggX8_receive_X4_readOn_0 : GoodIn wsX8_receive [.code yX4_readOn cX4_readOn 2 (some .int)] := goodIn_r _ [40] (by decide +kernel) (by decide +kernel)
theorem ggX8_receive_X4_readOn : GoodIn wsX8_receive wsX4_readOn := goodIn_k ggX8_receive_X4_readOn_0 (goodIn_app (goodIn_app (goodIn_app (goodIn_app (goodIn_app (goodIn_app (goodIn_app (goodIn_app (goodIn_app ggX8_receive_X4_readOn_1 (goodIn_app ggX8_receive_X4_readOn_2 (goodIn_app ggX8_receive_X4_readOn_3 (goodIn_app ggX8_receive_X4_readOn_4 (goodIn_app ggX8_receive_X4_readOn_5 (goodIn_app ggX8_receive_X4_readOn_6 (goodIn_app ggX8_receive_X4_readOn_7 (goodIn_app ggX8_receive_X4_readOn_8 (goodIn_app ggX8_receive_X4_readOn_9 (goodIn_app ggX8_receive_X4_readOn_10 (goodIn_app ggX8_receive_X4_readOn_11 (goodIn_app ggX8_receive_X4_readOn_12 ggX8_receive_X4_readOn_13)))))))))))) ggX8_receive_X4_readOn_14) ggX8_receive_X4_readOn_15) ggX8_receive_X4_readOn_16) ggX8_receive_X4_readOn_17) ggX8_receive_X4_readOn_18) ggX8_receive_X4_readOn_19) ggX8_receive_X4_readOn_20) ggX8_receive_X4_readOn_21)
set_option maxRecDepth 20000 in
theorem gX8_receive_X4_readOn : GoodIn wsX8_receive (wsV RX8 79 RX4 yX4_readOn wsX4_readOn) := goodIn_app (goodIn_of _ (by decide +kernel)) ggX8_receive_X4_readOn
set_option maxRecDepth 20000 in
theorem ggX8_receive_X8_conclude : GoodIn wsX8_receive wsX8_conclude := goodIn_r _ [316, 1, 317, 318, 4, 2, 319, 320, 321, 322, 323, 112, 324, 114, 115, 116, 121, 325, 326, 327, 328, 329, 330, 331, 332, 333, 334, 335, 336, 337, 338, 339, 340, 341, 342, 348, 349, 350, 351, 352, 353, 354, 355, 356, 357, 358, 359, 360, 361, 362, 363, 364, 365, 366, 384, 385, 386, 387, 388, 389, 390, 391, 392, 393] (by decide +kernel) (by decide +kernel)
set_option maxRecDepth 20000 in
theorem gX8_receive_X8_conclude : GoodIn wsX8_receive (wsV RX8 83 RX8 yX8_conclude wsX8_conclude) := goodIn_app (goodIn_of _ (by decide +kernel)) ggX8_receive_X8_conclude
theorem dX8_receive_0 : decode cX8_receive 0 = .ok (.aload_n 0, 1) := by decide +kernel
theorem dX8_receive_1 : decode cX8_receive 1 = .ok (.getfield 50, 3) := by decide +kernel
theorem dX8_receive_4 : decode cX8_receive 4 = .ok (.ifCond .eq 6, 3) := by decide +kernel
theorem dX8_receive_7 : decode cX8_receive 7 = .ok (.bipush (-2), 2) := by decide +kernel
theorem dX8_receive_9 : decode cX8_receive 9 = .ok (.ireturn, 1) := by decide +kernel
theorem dX8_receive_10 : decode cX8_receive 10 = .ok (.aload_n 0, 1) := by decide +kernel
theorem dX8_receive_11 : decode cX8_receive 11 = .ok (.dup, 1) := by decide +kernel
theorem dX8_receive_12 : decode cX8_receive 12 = .ok (.getfield 70, 3) := by decide +kernel
theorem dX8_receive_15 : decode cX8_receive 15 = .ok (.iconst 1, 1) := by decide +kernel
theorem dX8_receive_16 : decode cX8_receive 16 = .ok (.iadd, 1) := by decide +kernel
theorem dX8_receive_17 : decode cX8_receive 17 = .ok (.putfield 70, 3) := by decide +kernel
theorem dX8_receive_20 : decode cX8_receive 20 = .ok (.aload_n 0, 1) := by decide +kernel
theorem dX8_receive_21 : decode cX8_receive 21 = .ok (.getfield 26, 3) := by decide +kernel
theorem dX8_receive_24 : decode cX8_receive 24 = .ok (.invokevirtual 73, 3) := by decide +kernel
theorem dX8_receive_27 : decode cX8_receive 27 = .ok (.aload_n 0, 1) := by decide +kernel
theorem dX8_receive_28 : decode cX8_receive 28 = .ok (.getfield 42, 3) := by decide +kernel
theorem dX8_receive_31 : decode cX8_receive 31 = .ok (.invokevirtual 76, 3) := by decide +kernel
theorem dX8_receive_34 : decode cX8_receive 34 = .ok (.aload_n 0, 1) := by decide +kernel
theorem dX8_receive_35 : decode cX8_receive 35 = .ok (.aload_n 0, 1) := by decide +kernel
theorem dX8_receive_36 : decode cX8_receive 36 = .ok (.getfield 42, 3) := by decide +kernel
theorem dX8_receive_39 : decode cX8_receive 39 = .ok (.invokevirtual 79, 3) := by decide +kernel
theorem dX8_receive_42 : decode cX8_receive 42 = .ok (.invokevirtual 83, 3) := by decide +kernel
theorem dX8_receive_45 : decode cX8_receive 45 = .ok (.ireturn, 1) := by decide +kernel
set_option maxRecDepth 20000 in
theorem ggX8_resume_X4_readOn_1 : GoodIn wsX8_resume wsX4_readOn_r1 := goodIn_r _ [8, 9, 10, 11, 12, 13, 14, 15, 16, 17, 18, 19, 20, 21, 22, 23, 24, 25, 26, 6, 27, 28, 29, 30] (by decide +kernel) (by decide +kernel)
set_option maxRecDepth 20000 in
theorem ggX8_resume_X4_readOn_2 : GoodIn wsX8_resume wsX4_readOn_r2 := goodIn_r _ [31, 32, 33, 34, 35, 36, 37, 38, 39, 40, 41, 42, 43, 44, 45, 46, 47, 48, 49, 50, 51, 52, 53, 54] (by decide +kernel) (by decide +kernel)
set_option maxRecDepth 20000 in
theorem ggX8_resume_X4_readOn_3 : GoodIn wsX8_resume wsX4_readOn_r3 := goodIn_r _ [55, 56, 57, 58, 59, 60, 61, 62, 63, 64, 65, 66, 67, 68, 69, 70, 71, 72, 73, 74, 75, 76, 77, 78] (by decide +kernel) (by decide +kernel)
set_option maxRecDepth 20000 in
theorem ggX8_resume_X4_readOn_4 : GoodIn wsX8_resume wsX4_readOn_r4 := goodIn_r _ [79, 80, 81, 82, 83, 84, 85, 86, 87, 88, 89, 90, 91, 92, 93, 94, 95, 96, 97, 98, 99, 100, 101, 102] (by decide +kernel) (by decide +kernel)
set_option maxRecDepth 20000 in
theorem ggX8_resume_X4_readOn_5 : GoodIn wsX8_resume wsX4_readOn_r5 := goodIn_r _ [103, 104, 105, 106, 107, 108, 109, 110, 111, 112, 113, 114, 115, 116, 117, 118, 119, 120, 121, 122, 123, 124, 125, 126] (by decide +kernel) (by decide +kernel)
set_option maxRecDepth 20000 in
theorem ggX8_resume_X4_readOn_6 : GoodIn wsX8_resume wsX4_readOn_r6 := goodIn_r _ [127, 128, 129, 130, 131, 132, 133, 134, 135, 136, 137, 138, 139, 140, 141, 142, 143, 144, 145, 146, 147, 148, 149, 150] (by decide +kernel) (by decide +kernel)
set_option maxRecDepth 20000 in
theorem ggX8_resume_X4_readOn_7 : GoodIn wsX8_resume wsX4_readOn_r7 := goodIn_r _ [151, 152, 153, 154, 155, 156, 157, 158, 159, 160, 161, 162, 163, 164, 165, 166, 167, 168, 169, 170, 171, 172, 173, 174] (by decide +kernel) (by decide +kernel)
set_option maxRecDepth 20000 in
theorem ggX8_resume_X4_readOn_8 : GoodIn wsX8_resume wsX4_readOn_r8 := goodIn_r _ [175, 176, 177, 178, 179, 180, 181, 182, 183, 184, 185, 186, 187, 188, 189, 190, 191, 192, 193, 194, 195, 196, 197, 198] (by decide +kernel) (by decide +kernel)
set_option maxRecDepth 20000 in
theorem ggX8_resume_X4_readOn_9 : GoodIn wsX8_resume wsX4_readOn_r9 := goodIn_r _ [199, 200, 201, 202, 203, 204, 205, 206, 207, 208, 209, 210, 211, 212, 213, 214, 215, 216, 217, 218, 219, 220, 221, 222] (by decide +kernel) (by decide +kernel)
set_option maxRecDepth 20000 in
theorem ggX8_resume_X4_readOn_10 : GoodIn wsX8_resume wsX4_readOn_r10 := goodIn_r _ [223, 224, 225, 226, 227, 228, 229, 230, 231, 232, 233, 234, 235, 236, 237, 238, 239, 240, 241, 242, 243, 244, 245, 246] (by decide +kernel) (by decide +kernel)
set_option maxRecDepth 20000 in
theorem ggX8_resume_X4_readOn_11 : GoodIn wsX8_resume wsX4_readOn_r11 := goodIn_r _ [247, 248, 249, 250, 251, 252, 253, 254, 255, 256, 257, 258, 259, 260, 261, 262, 263, 264, 265, 266, 267, 268, 269, 270] (by decide +kernel) (by decide +kernel)
set_option maxRecDepth 20000 in
theorem ggX8_resume_X4_readOn_12 : GoodIn wsX8_resume wsX4_readOn_r12 := goodIn_r _ [271, 272, 273, 274, 275, 276, 277, 278, 279, 280, 281, 282, 283, 284, 285, 286, 287, 288, 289, 290, 291, 292, 293, 294] (by decide +kernel) (by decide +kernel)
set_option maxRecDepth 20000 in
theorem ggX8_resume_X4_readOn_13 : GoodIn wsX8_resume wsX4_readOn_r13 := goodIn_r _ [295, 296, 297, 298, 299, 300] (by decide +kernel) (by decide +kernel)
set_option maxRecDepth 20000 in
theorem ggX8_resume_X4_readOn_14 : GoodIn wsX8_resume wsX40 := goodIn_r _ [333, 334, 335, 336, 337, 338, 339, 340, 341, 342, 343, 344, 345, 346, 347, 348, 349, 350, 351] (by decide +kernel) (by decide +kernel)
set_option maxRecDepth 20000 in
theorem ggX8_resume_X4_readOn_15 : GoodIn wsX8_resume wsX20 := goodIn_r _ [352, 353, 354, 355, 356, 357, 358, 359, 360, 361, 362, 363, 364] (by decide +kernel) (by decide +kernel)
set_option maxRecDepth 20000 in
theorem ggX8_resume_X4_readOn_16 : GoodIn wsX8_resume wsX70 := goodIn_r _ [365, 366] (by decide +kernel) (by decide +kernel)
set_option maxRecDepth 20000 in
theorem ggX8_resume_X4_readOn_17 : GoodIn wsX8_resume wsX50 := goodIn_r _ [367, 368] (by decide +kernel) (by decide +kernel)
set_option maxRecDepth 20000 in
theorem ggX8_resume_X4_readOn_18 : GoodIn wsX8_resume wsX10 := goodIn_r _ [369, 370, 371, 372, 373] (by decide +kernel) (by decide +kernel)
set_option maxRecDepth 20000 in
theorem ggX8_resume_X4_readOn_19 : GoodIn wsX8_resume wsX00 := goodIn_r _ [374, 375, 376, 377, 378, 379, 380, 381, 382, 383] (by decide +kernel) (by decide +kernel)
set_option maxRecDepth 20000 in
theorem ggX8_resume_X4_readOn_20 : GoodIn wsX8_resume wsX30 := goodIn_r _ [384, 385, 386, 387, 388, 389, 390] (by decide +kernel) (by decide +kernel)
set_option maxRecDepth 20000 in
theorem ggX8_resume_X4_readOn_21 : GoodIn wsX8_resume wsX60 := goodIn_r _ [391, 392, 393] (by decide +kernel) (by decide +kernel)
set_option maxRecDepth 20000 in
theorem ggX8_resume_X4_readOn_0 : GoodIn wsX8_resume [.code yX4_readOn cX4_readOn 2 (some .int)] := goodIn_r _ [7] (by decide +kernel) (by decide +kernel)
theorem ggX8_resume_X4_readOn : GoodIn wsX8_resume wsX4_readOn := goodIn_k ggX8_resume_X4_readOn_0 (goodIn_app (goodIn_app (goodIn_app (goodIn_app (goodIn_app (goodIn_app (goodIn_app (goodIn_app (goodIn_app ggX8_resume_X4_readOn_1 (goodIn_app ggX8_resume_X4_readOn_2 (goodIn_app ggX8_resume_X4_readOn_3 (goodIn_app ggX8_resume_X4_readOn_4 (goodIn_app ggX8_resume_X4_readOn_5 (goodIn_app ggX8_resume_X4_readOn_6 (goodIn_app ggX8_resume_X4_readOn_7 (goodIn_app ggX8_resume_X4_readOn_8 (goodIn_app ggX8_resume_X4_readOn_9 (goodIn_app ggX8_resume_X4_readOn_10 (goodIn_app ggX8_resume_X4_readOn_11 (goodIn_app ggX8_resume_X4_readOn_12 ggX8_resume_X4_readOn_13)))))))))))) ggX8_resume_X4_readOn_14) ggX8_resume_X4_readOn_15) ggX8_resume_X4_readOn_16) ggX8_resume_X4_readOn_17) ggX8_resume_X4_readOn_18) ggX8_resume_X4_readOn_19) ggX8_resume_X4_readOn_20) ggX8_resume_X4_readOn_21)
set_option maxRecDepth 20000 in
theorem gX8_resume_X4_readOn : GoodIn wsX8_resume (wsV RX8 79 RX4 yX4_readOn wsX4_readOn) := goodIn_app (goodIn_of _ (by decide +kernel)) ggX8_resume_X4_readOn
set_option maxRecDepth 20000 in
theorem ggX8_resume_X8_conclude : GoodIn wsX8_resume wsX8_conclude := goodIn_r _ [305, 1, 306, 307, 2, 308, 309, 310, 311, 312, 313, 93, 314, 95, 96, 97, 102, 315, 316, 317, 318, 319, 320, 321, 322, 323, 324, 325, 326, 327, 328, 329, 330, 331, 332, 333, 334, 335, 336, 337, 338, 339, 340, 341, 342, 343, 344, 345, 346, 347, 348, 349, 350, 351, 374, 375, 376, 377, 378, 379, 380, 381, 382, 383] (by decide +kernel) (by decide +kernel)
set_option maxRecDepth 20000 in
theorem gX8_resume_X8_conclude : GoodIn wsX8_resume (wsV RX8 83 RX8 yX8_conclude wsX8_conclude) := goodIn_app (goodIn_of _ (by decide +kernel)) ggX8_resume_X8_conclude
