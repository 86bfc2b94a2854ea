theorem goodIn_k {big l : List Cond} {c : Cond} (h0 : GoodIn big [c]) (h : GoodIn big l) : GoodIn big (c :: l) := fun w hw => (List.mem_cons.mp hw).elim (fun e => h0 w (by rw [e]; exact List.mem_cons_self)) (h w)
theorem dX4_isWorkingChild_39 : decode cX4_isWorkingChild 39 = .ok (.iload_n 2, 1) := by decide +kernel
theorem dX4_isWorkingChild_40 : decode cX4_isWorkingChild 40 = .ok (.iconst (-1), 1) := by decide +kernel
theorem dX4_isWorkingChild_41 : decode cX4_isWorkingChild 41 = .ok (.if_icmp .eq 11, 3) := by decide +kernel
theorem dX4_isWorkingChild_44 : decode cX4_isWorkingChild 44 = .ok (.iload_n 2, 1) := by decide +kernel
theorem dX4_isWorkingChild_45 : decode cX4_isWorkingChild 45 = .ok (.ifCond .le 7, 3) := by decide +kernel
theorem dX4_isWorkingChild_48 : decode cX4_isWorkingChild 48 = .ok (.iconst 1, 1) := by decide +kernel
theorem dX4_isWorkingChild_49 : decode cX4_isWorkingChild 49 = .ok (.goto 4, 3) := by decide +kernel
theorem dX4_isWorkingChild_52 : decode cX4_isWorkingChild 52 = .ok (.iconst 0, 1) := by decide +kernel
theorem dX4_isWorkingChild_53 : decode cX4_isWorkingChild 53 = .ok (.ireturn, 1) := by decide +kernel
set_option maxRecDepth 20000 in
theorem ggX4_readSigns_X6_clear : GoodIn wsX4_readSigns wsX6_clear := goodIn_r _ [7, 8, 105, 106, 107] (by decide +kernel) (by decide +kernel)
set_option maxRecDepth 20000 in
theorem gX4_readSigns_X6_clear : GoodIn wsX4_readSigns (wsV RX4 166 RX6 yX6_clear wsX6_clear) := goodIn_app (goodIn_of _ (by decide +kernel)) ggX4_readSigns_X6_clear
set_option maxRecDepth 20000 in
theorem ggX4_readSigns_X3_startOf : GoodIn wsX4_readSigns wsX3_startOf := goodIn_r _ [13, 14, 15, 108, 109, 110, 111, 112, 113, 114] (by decide +kernel) (by decide +kernel)
set_option maxRecDepth 20000 in
theorem gX4_readSigns_X3_startOf : GoodIn wsX4_readSigns (wsV RX4 169 RX3 yX3_startOf wsX3_startOf) := goodIn_app (goodIn_of _ (by decide +kernel)) ggX4_readSigns_X3_startOf
set_option maxRecDepth 20000 in
theorem ggX4_readSigns_X3_endOf : GoodIn wsX4_readSigns wsX3_endOf := goodIn_r _ [19, 20, 15, 108, 109, 110, 111, 112, 113, 114] (by decide +kernel) (by decide +kernel)
set_option maxRecDepth 20000 in
theorem gX4_readSigns_X3_endOf : GoodIn wsX4_readSigns (wsV RX4 172 RX3 yX3_endOf wsX3_endOf) := goodIn_app (goodIn_of _ (by decide +kernel)) ggX4_readSigns_X3_endOf
set_option maxRecDepth 20000 in
theorem ggX4_readSigns_X4_readSign_1 : GoodIn wsX4_readSigns wsX4_readSign_r1 := goodIn_r _ [26, 27, 28, 1, 29, 30, 31, 32, 33, 34, 35, 36, 37, 24, 38, 39, 40, 41, 42, 43, 44, 45, 46, 47] (by decide +kernel) (by decide +kernel)
set_option maxRecDepth 20000 in
theorem ggX4_readSigns_X4_readSign_2 : GoodIn wsX4_readSigns wsX4_readSign_r2 := goodIn_r _ [48, 49, 50, 51, 52, 53, 54, 55, 56, 57, 58, 59, 60, 61, 62, 63, 64, 65, 66, 67, 68, 69, 70, 71] (by decide +kernel) (by decide +kernel)
set_option maxRecDepth 20000 in
theorem ggX4_readSigns_X4_readSign_3 : GoodIn wsX4_readSigns wsX4_readSign_r3 := goodIn_r _ [72, 73, 74, 75, 76, 77, 78, 79, 80, 81, 82, 6, 83, 8, 84, 85] (by decide +kernel) (by decide +kernel)
set_option maxRecDepth 20000 in
theorem ggX4_readSigns_X4_readSign_4 : GoodIn wsX4_readSigns wsX40 := goodIn_r _ [86, 87, 88, 89, 90, 91, 92, 93, 94, 95, 96, 97, 98, 99, 100, 101, 102, 103, 104] (by decide +kernel) (by decide +kernel)
set_option maxRecDepth 20000 in
theorem ggX4_readSigns_X4_readSign_5 : GoodIn wsX4_readSigns wsX70 := goodIn_r _ [115, 116] (by decide +kernel) (by decide +kernel)
set_option maxRecDepth 20000 in
theorem ggX4_readSigns_X4_readSign_6 : GoodIn wsX4_readSigns wsX20 := goodIn_r _ [117, 118, 119, 120, 121, 122, 123, 124, 125, 126, 127, 128, 129] (by decide +kernel) (by decide +kernel)
set_option maxRecDepth 20000 in
theorem ggX4_readSigns_X4_readSign_7 : GoodIn wsX4_readSigns wsX50 := goodIn_r _ [130, 131] (by decide +kernel) (by decide +kernel)
set_option maxRecDepth 20000 in
theorem ggX4_readSigns_X4_readSign_8 : GoodIn wsX4_readSigns wsX10 := goodIn_r _ [132, 133, 134, 135, 136] (by decide +kernel) (by decide +kernel)
set_option maxRecDepth 20000 in
theorem ggX4_readSigns_X4_readSign_9 : GoodIn wsX4_readSigns wsX60 := goodIn_r _ [105, 106, 107] (by decide +kernel) (by decide +kernel)
set_option maxRecDepth 20000 in
theorem ggX4_readSigns_X4_readSign_0 : GoodIn wsX4_readSigns [.code yX4_readSign cX4_readSign 4 (some .int)] := goodIn_r _ [25] (by decide +kernel) (by decide +kernel)
theorem ggX4_readSigns_X4_readSign : GoodIn wsX4_readSigns wsX4_readSign := goodIn_k ggX4_readSigns_X4_readSign_0 (goodIn_app (goodIn_app (goodIn_app (goodIn_app (goodIn_app (goodIn_app (goodIn_app ggX4_readSigns_X4_readSign_1 (goodIn_app ggX4_readSigns_X4_readSign_2 ggX4_readSigns_X4_readSign_3)) ggX4_readSigns_X4_readSign_4) ggX4_readSigns_X4_readSign_5) ggX4_readSigns_X4_readSign_6) ggX4_readSigns_X4_readSign_7) ggX4_readSigns_X4_readSign_8) ggX4_readSigns_X4_readSign_9)
set_option maxRecDepth 20000 in
theorem gX4_readSigns_X4_readSign : GoodIn wsX4_readSigns (wsV RX4 175 RX4 yX4_readSign wsX4_readSign) := goodIn_app (goodIn_of _ (by decide +kernel)) ggX4_readSigns_X4_readSign
set_option maxRecDepth 20000 in
theorem ggX4_readSigns_X4_fail_1 : GoodIn wsX4_readSigns wsX4_fail_r1 := goodIn_r _ [43, 27, 28, 44, 45, 46, 47, 48, 49, 50, 51, 52, 53, 54, 55, 56, 57, 58, 59, 60, 61, 62, 63, 64] (by decide +kernel) (by decide +kernel)
set_option maxRecDepth 20000 in
theorem ggX4_readSigns_X4_fail_2 : GoodIn wsX4_readSigns wsX4_fail_r2 := goodIn_r _ [65, 66, 67, 68, 69, 70, 71, 72, 73, 74, 75, 76, 24, 77, 78, 79] (by decide +kernel) (by decide +kernel)
set_option maxRecDepth 20000 in
theorem ggX4_readSigns_X4_fail_3 : GoodIn wsX4_readSigns wsX40 := goodIn_r _ [86, 87, 88, 89, 90, 91, 92, 93, 94, 95, 96, 97, 98, 99, 100, 101, 102, 103, 104] (by decide +kernel) (by decide +kernel)
set_option maxRecDepth 20000 in
theorem ggX4_readSigns_X4_fail_4 : GoodIn wsX4_readSigns wsX20 := goodIn_r _ [117, 118, 119, 120, 121, 122, 123, 124, 125, 126, 127, 128, 129] (by decide +kernel) (by decide +kernel)
set_option maxRecDepth 20000 in
theorem ggX4_readSigns_X4_fail_5 : GoodIn wsX4_readSigns wsX50 := goodIn_r _ [130, 131] (by decide +kernel) (by decide +kernel)
set_option maxRecDepth 20000 in
theorem ggX4_readSigns_X4_fail_6 : GoodIn wsX4_readSigns wsX10 := goodIn_r _ [132, 133, 134, 135, 136] (by decide +kernel) (by decide +kernel)
set_option maxRecDepth 20000 in
theorem ggX4_readSigns_X4_fail_0 : GoodIn wsX4_readSigns [.code yX4_fail cX4_fail 6 (some .int)] := goodIn_r _ [42] (by decide +kernel) (by decide +kernel)
theorem ggX4_readSigns_X4_fail : GoodIn wsX4_readSigns wsX4_fail := goodIn_k ggX4_readSigns_X4_fail_0 (goodIn_app (goodIn_app (goodIn_app (goodIn_app (goodIn_app ggX4_readSigns_X4_fail_1 ggX4_readSigns_X4_fail_2) ggX4_readSigns_X4_fail_3) ggX4_readSigns_X4_fail_4) ggX4_readSigns_X4_fail_5) ggX4_readSigns_X4_fail_6)
set_option maxRecDepth 20000 in
theorem gX4_readSigns_X4_fail : GoodIn wsX4_readSigns (wsV RX4 152 RX4 yX4_fail wsX4_fail) := goodIn_app (goodIn_of _ (by decide +kernel)) ggX4_readSigns_X4_fail
theorem dX4_readSigns_0 : decode cX4_readSigns 0 = .ok (.aload_n 0, 1) := by decide +kernel
theorem dX4_readSigns_1 : decode cX4_readSigns 1 = .ok (.getfield 21, 3) := by decide +kernel
theorem dX4_readSigns_4 : decode cX4_readSigns 4 = .ok (.invokevirtual 166, 3) := by decide +kernel
theorem dX4_readSigns_7 : decode cX4_readSigns 7 = .ok (.aload_n 0, 1) := by decide +kernel
theorem dX4_readSigns_8 : decode cX4_readSigns 8 = .ok (.getfield 12, 3) := by decide +kernel
theorem dX4_readSigns_11 : decode cX4_readSigns 11 = .ok (.iload_n 1, 1) := by decide +kernel
theorem dX4_readSigns_12 : decode cX4_readSigns 12 = .ok (.invokevirtual 169, 3) := by decide +kernel
theorem dX4_readSigns_15 : decode cX4_readSigns 15 = .ok (.istore_n 2, 1) := by decide +kernel
theorem dX4_readSigns_16 : decode cX4_readSigns 16 = .ok (.aload_n 0, 1) := by decide +kernel
theorem dX4_readSigns_17 : decode cX4_readSigns 17 = .ok (.getfield 12, 3) := by decide +kernel
theorem dX4_readSigns_20 : decode cX4_readSigns 20 = .ok (.iload_n 1, 1) := by decide +kernel
theorem dX4_readSigns_21 : decode cX4_readSigns 21 = .ok (.invokevirtual 172, 3) := by decide +kernel
theorem dX4_readSigns_24 : decode cX4_readSigns 24 = .ok (.istore_n 3, 1) := by decide +kernel
theorem dX4_readSigns_25 : decode cX4_readSigns 25 = .ok (.iconst (-1), 1) := by decide +kernel
theorem dX4_readSigns_26 : decode cX4_readSigns 26 = .ok (.istore 4, 2) := by decide +kernel
theorem dX4_readSigns_28 : decode cX4_readSigns 28 = .ok (.iload_n 2, 1) := by decide +kernel
theorem dX4_readSigns_29 : decode cX4_readSigns 29 = .ok (.istore 5, 2) := by decide +kernel
theorem dX4_readSigns_31 : decode cX4_readSigns 31 = .ok (.iload 5, 2) := by decide +kernel
theorem dX4_readSigns_33 : decode cX4_readSigns 33 = .ok (.iload_n 3, 1) := by decide +kernel
theorem dX4_readSigns_34 : decode cX4_readSigns 34 = .ok (.if_icmp .ge 39, 3) := by decide +kernel
theorem dX4_readSigns_37 : decode cX4_readSigns 37 = .ok (.iload 4, 2) := by decide +kernel
theorem dX4_readSigns_39 : decode cX4_readSigns 39 = .ok (.iconst (-1), 1) := by decide +kernel
theorem dX4_readSigns_40 : decode cX4_readSigns 40 = .ok (.if_icmp .ne 33, 3) := by decide +kernel
theorem dX4_readSigns_43 : decode cX4_readSigns 43 = .ok (.aload_n 0, 1) := by decide +kernel
theorem dX4_readSigns_44 : decode cX4_readSigns 44 = .ok (.iload 5, 2) := by decide +kernel
theorem dX4_readSigns_46 : decode cX4_readSigns 46 = .ok (.invokevirtual 175, 3) := by decide +kernel
theorem dX4_readSigns_49 : decode cX4_readSigns 49 = .ok (.istore 6, 2) := by decide +kernel
theorem dX4_readSigns_51 : decode cX4_readSigns 51 = .ok (.iload 6, 2) := by decide +kernel
theorem dX4_readSigns_53 : decode cX4_readSigns 53 = .ok (.ifCond .lt 14, 3) := by decide +kernel
theorem dX4_readSigns_56 : decode cX4_readSigns 56 = .ok (.aload_n 0, 1) := by decide +kernel
theorem dX4_readSigns_57 : decode cX4_readSigns 57 = .ok (.bipush 8, 2) := by decide +kernel
theorem dX4_readSigns_59 : decode cX4_readSigns 59 = .ok (.iload_n 2, 1) := by decide +kernel
theorem dX4_readSigns_60 : decode cX4_readSigns 60 = .ok (.iload 6, 2) := by decide +kernel
theorem dX4_readSigns_62 : decode cX4_readSigns 62 = .ok (.invokevirtual 152, 3) := by decide +kernel
theorem dX4_readSigns_65 : decode cX4_readSigns 65 = .ok (.istore 4, 2) := by decide +kernel
theorem dX4_readSigns_67 : decode cX4_readSigns 67 = .ok (.iinc 5 1, 3) := by decide +kernel
theorem dX4_readSigns_70 : decode cX4_readSigns 70 = .ok (.goto (-39), 3) := by decide +kernel
theorem dX4_readSigns_73 : decode cX4_readSigns 73 = .ok (.iload 4, 2) := by decide +kernel
theorem dX4_readSigns_75 : decode cX4_readSigns 75 = .ok (.ireturn, 1) := by decide +kernel
set_option maxRecDepth 20000 in
theorem ggX4_readSign_X7_at : GoodIn wsX4_readSign wsX7_at := goodIn_r _ [9, 10, 11, 84, 85] (by decide +kernel) (by decide +kernel)
set_option maxRecDepth 20000 in
theorem gX4_readSign_X7_at : GoodIn wsX4_readSign (wsV RX4 111 RX7 yX7_at wsX7_at) := goodIn_app (goodIn_of _ (by decide +kernel)) ggX4_readSign_X7_at
set_option maxRecDepth 20000 in
theorem ggX4_readSign_X4_isOwn : GoodIn wsX4_readSign wsX4_isOwn := goodIn_r _ [15] (by decide +kernel) (by decide +kernel)
set_option maxRecDepth 20000 in
theorem gX4_readSign_X4_isOwn : GoodIn wsX4_readSign (va_wsS RX4 178 yX4_isOwn wsX4_isOwn) := goodIn_app (goodIn_of _ (by decide +kernel)) ggX4_readSign_X4_isOwn
set_option maxRecDepth 20000 in
theorem ggX4_readSign_X4_fail_1 : GoodIn wsX4_readSign wsX4_fail_r1 := goodIn_r _ [20, 2, 3, 21, 22, 23, 24, 25, 26, 27, 28, 29, 30, 31, 32, 33, 34, 35, 36, 37, 38, 39, 40, 41] (by decide +kernel) (by decide +kernel)
set_option maxRecDepth 20000 in
theorem ggX4_readSign_X4_fail_2 : GoodIn wsX4_readSign wsX4_fail_r2 := goodIn_r _ [42, 43, 44, 45, 46, 47, 48, 49, 50, 51, 52, 53, 14, 54, 55, 56] (by decide +kernel) (by decide +kernel)
set_option maxRecDepth 20000 in
theorem ggX4_readSign_X4_fail_3 : GoodIn wsX4_readSign wsX40 := goodIn_r _ [65, 66, 67, 68, 69, 70, 71, 72, 73, 74, 75, 76, 77, 78, 79, 80, 81, 82, 83] (by decide +kernel) (by decide +kernel)
set_option maxRecDepth 20000 in
theorem ggX4_readSign_X4_fail_4 : GoodIn wsX4_readSign wsX20 := goodIn_r _ [86, 87, 88, 89, 90, 91, 92, 93, 94, 95, 96, 97, 98] (by decide +kernel) (by decide +kernel)
set_option maxRecDepth 20000 in
theorem ggX4_readSign_X4_fail_5 : GoodIn wsX4_readSign wsX50 := goodIn_r _ [99, 100] (by decide +kernel) (by decide +kernel)
set_option maxRecDepth 20000 in
theorem ggX4_readSign_X4_fail_6 : GoodIn wsX4_readSign wsX10 := goodIn_r _ [101, 102, 103, 104, 105] (by decide +kernel) (by decide +kernel)
set_option maxRecDepth 20000 in
theorem ggX4_readSign_X4_fail_0 : GoodIn wsX4_readSign [.code yX4_fail cX4_fail 6 (some .int)] := goodIn_r _ [19] (by decide +kernel) (by decide +kernel)
theorem ggX4_readSign_X4_fail : GoodIn wsX4_readSign wsX4_fail := goodIn_k ggX4_readSign_X4_fail_0 (goodIn_app (goodIn_app (goodIn_app (goodIn_app (goodIn_app ggX4_readSign_X4_fail_1 ggX4_readSign_X4_fail_2) ggX4_readSign_X4_fail_3) ggX4_readSign_X4_fail_4) ggX4_readSign_X4_fail_5) ggX4_readSign_X4_fail_6)
set_option maxRecDepth 20000 in
theorem gX4_readSign_X4_fail : GoodIn wsX4_readSign (wsV RX4 152 RX4 yX4_fail wsX4_fail) := goodIn_app (goodIn_of _ (by decide +kernel)) ggX4_readSign_X4_fail
set_option maxRecDepth 20000 in
theorem ggX4_readSign_X6_add : GoodIn wsX4_readSign wsX6_add := goodIn_r _ [61, 62, 63, 64, 106, 107, 108] (by decide +kernel) (by decide +kernel)
set_option maxRecDepth 20000 in
theorem gX4_readSign_X6_add : GoodIn wsX4_readSign (wsV RX4 188 RX6 yX6_add wsX6_add) := goodIn_app (goodIn_of _ (by decide +kernel)) ggX4_readSign_X6_add
theorem dX4_readSign_0 : decode cX4_readSign 0 = .ok (.aload_n 0, 1) := by decide +kernel
theorem dX4_readSign_1 : decode cX4_readSign 1 = .ok (.getfield 36, 3) := by decide +kernel
theorem dX4_readSign_4 : decode cX4_readSign 4 = .ok (.iload_n 1, 1) := by decide +kernel
theorem dX4_readSign_5 : decode cX4_readSign 5 = .ok (.invokevirtual 111, 3) := by decide +kernel
theorem dX4_readSign_8 : decode cX4_readSign 8 = .ok (.istore_n 2, 1) := by decide +kernel
theorem dX4_readSign_9 : decode cX4_readSign 9 = .ok (.iconst (-1), 1) := by decide +kernel
theorem dX4_readSign_10 : decode cX4_readSign 10 = .ok (.istore_n 3, 1) := by decide +kernel
theorem dX4_readSign_11 : decode cX4_readSign 11 = .ok (.iload_n 2, 1) := by decide +kernel
theorem dX4_readSign_12 : decode cX4_readSign 12 = .ok (.invokestatic 178, 3) := by decide +kernel
theorem dX4_readSign_15 : decode cX4_readSign 15 = .ok (.ifCond .ne 39, 3) := by decide +kernel
theorem dX4_readSign_18 : decode cX4_readSign 18 = .ok (.aload_n 0, 1) := by decide +kernel
theorem dX4_readSign_19 : decode cX4_readSign 19 = .ok (.iconst 1, 1) := by decide +kernel
theorem dX4_readSign_20 : decode cX4_readSign 20 = .ok (.iload_n 1, 1) := by decide +kernel
theorem dX4_readSign_21 : decode cX4_readSign 21 = .ok (.iconst (-1), 1) := by decide +kernel
theorem dX4_readSign_22 : decode cX4_readSign 22 = .ok (.invokevirtual 152, 3) := by decide +kernel
theorem dX4_readSign_25 : decode cX4_readSign 25 = .ok (.istore_n 3, 1) := by decide +kernel
theorem dX4_readSign_26 : decode cX4_readSign 26 = .ok (.aload_n 0, 1) := by decide +kernel
theorem dX4_readSign_27 : decode cX4_readSign 27 = .ok (.getfield 182, 3) := by decide +kernel
theorem dX4_readSign_30 : decode cX4_readSign 30 = .ok (.iconst 2, 1) := by decide +kernel
theorem dX4_readSign_31 : decode cX4_readSign 31 = .ok (.if_icmp .ne 23, 3) := by decide +kernel
theorem dX4_readSign_34 : decode cX4_readSign 34 = .ok (.aload_n 0, 1) := by decide +kernel
theorem dX4_readSign_35 : decode cX4_readSign 35 = .ok (.getfield 185, 3) := by decide +kernel
theorem dX4_readSign_38 : decode cX4_readSign 38 = .ok (.invokestatic 178, 3) := by decide +kernel
theorem dX4_readSign_41 : decode cX4_readSign 41 = .ok (.ifCond .eq 10, 3) := by decide +kernel
theorem dX4_readSign_44 : decode cX4_readSign 44 = .ok (.aload_n 0, 1) := by decide +kernel
theorem dX4_readSign_45 : decode cX4_readSign 45 = .ok (.getfield 185, 3) := by decide +kernel
theorem dX4_readSign_48 : decode cX4_readSign 48 = .ok (.goto 5, 3) := by decide +kernel
theorem dX4_readSign_51 : decode cX4_readSign 51 = .ok (.bipush 63, 2) := by decide +kernel
theorem dX4_readSign_53 : decode cX4_readSign 53 = .ok (.istore_n 2, 1) := by decide +kernel
theorem dX4_readSign_54 : decode cX4_readSign 54 = .ok (.iload_n 3, 1) := by decide +kernel
theorem dX4_readSign_55 : decode cX4_readSign 55 = .ok (.iconst (-1), 1) := by decide +kernel
theorem dX4_readSign_56 : decode cX4_readSign 56 = .ok (.if_icmp .ne 12, 3) := by decide +kernel
theorem dX4_readSign_59 : decode cX4_readSign 59 = .ok (.aload_n 0, 1) := by decide +kernel
theorem dX4_readSign_60 : decode cX4_readSign 60 = .ok (.getfield 21, 3) := by decide +kernel
theorem dX4_readSign_63 : decode cX4_readSign 63 = .ok (.iload_n 2, 1) := by decide +kernel
theorem dX4_readSign_64 : decode cX4_readSign 64 = .ok (.iload_n 1, 1) := by decide +kernel
theorem dX4_readSign_65 : decode cX4_readSign 65 = .ok (.invokevirtual 188, 3) := by decide +kernel
theorem dX4_readSign_68 : decode cX4_readSign 68 = .ok (.iload_n 3, 1) := by decide +kernel
theorem dX4_readSign_69 : decode cX4_readSign 69 = .ok (.ireturn, 1) := by decide +kernel
theorem dX4_isOwn_0 : decode cX4_isOwn 0 = .ok (.iload_n 0, 1) := by decide +kernel
theorem dX4_isOwn_1 : decode cX4_isOwn 1 = .ok (.bipush 32, 2) := by decide +kernel
theorem dX4_isOwn_3 : decode cX4_isOwn 3 = .ok (.if_icmp .lt 13, 3) := by decide +kernel
theorem dX4_isOwn_6 : decode cX4_isOwn 6 = .ok (.iload_n 0, 1) := by decide +kernel
theorem dX4_isOwn_7 : decode cX4_isOwn 7 = .ok (.bipush 126, 2) := by decide +kernel
theorem dX4_isOwn_9 : decode cX4_isOwn 9 = .ok (.if_icmp .gt 7, 3) := by decide +kernel
theorem dX4_isOwn_12 : decode cX4_isOwn 12 = .ok (.iconst 1, 1) := by decide +kernel
theorem dX4_isOwn_13 : decode cX4_isOwn 13 = .ok (.goto 4, 3) := by decide +kernel
theorem dX4_isOwn_16 : decode cX4_isOwn 16 = .ok (.iconst 0, 1) := by decide +kernel
theorem dX4_isOwn_17 : decode cX4_isOwn 17 = .ok (.ireturn, 1) := by decide +kernel
set_option maxRecDepth 20000 in
theorem ggX4_readValue_X3_fieldIn : GoodIn wsX4_readValue wsX3_fieldIn := goodIn_r _ [9, 10, 133, 134, 135, 136, 137, 138, 139] (by decide +kernel) (by decide +kernel)
set_option maxRecDepth 20000 in
theorem gX4_readValue_X3_fieldIn : GoodIn wsX4_readValue (wsV RX4 192 RX3 yX3_fieldIn wsX3_fieldIn) := goodIn_app (goodIn_of _ (by decide +kernel)) ggX4_readValue_X3_fieldIn
set_option maxRecDepth 20000 in
theorem ggX4_readValue_X6_faultAs : GoodIn wsX4_readValue wsX6_faultAs := goodIn_r _ [15, 16, 17, 18, 19, 14, 20, 21, 22, 23, 24, 25, 26, 27, 28, 29, 30, 31, 32, 33, 34, 35, 36, 37, 38, 39, 140, 141, 142] (by decide +kernel) (by decide +kernel)
set_option maxRecDepth 20000 in
theorem gX4_readValue_X6_faultAs : GoodIn wsX4_readValue (wsV RX4 195 RX6 yX6_faultAs wsX6_faultAs) := goodIn_app (goodIn_of _ (by decide +kernel)) ggX4_readValue_X6_faultAs
set_option maxRecDepth 20000 in
theorem ggX4_readValue_X6_firstBadOfName : GoodIn wsX4_readValue wsX6_firstBadOfName := goodIn_r _ [20, 16, 21, 22, 23, 14, 24, 25, 26, 27, 28, 140, 141, 142] (by decide +kernel) (by decide +kernel)
set_option maxRecDepth 20000 in
theorem gX4_readValue_X6_firstBadOfName : GoodIn wsX4_readValue (wsV RX4 198 RX6 yX6_firstBadOfName wsX6_firstBadOfName) := goodIn_app (goodIn_of _ (by decide +kernel)) ggX4_readValue_X6_firstBadOfName
set_option maxRecDepth 20000 in
theorem ggX4_readValue_X6_placeOf : GoodIn wsX4_readValue wsX6_placeOf := goodIn_r _ [44, 16, 45, 140, 141, 142] (by decide +kernel) (by decide +kernel)
set_option maxRecDepth 20000 in
theorem gX4_readValue_X6_placeOf : GoodIn wsX4_readValue (wsV RX4 201 RX6 yX6_placeOf wsX6_placeOf) := goodIn_app (goodIn_of _ (by decide +kernel)) ggX4_readValue_X6_placeOf
set_option maxRecDepth 20000 in
theorem ggX4_readValue_X3_startOf : GoodIn wsX4_readValue wsX3_startOf := goodIn_r _ [49, 50, 51, 133, 134, 135, 136, 137, 138, 139] (by decide +kernel) (by decide +kernel)
set_option maxRecDepth 20000 in
theorem gX4_readValue_X3_startOf : GoodIn wsX4_readValue (wsV RX4 169 RX3 yX3_startOf wsX3_startOf) := goodIn_app (goodIn_of _ (by decide +kernel)) ggX4_readValue_X3_startOf
set_option maxRecDepth 20000 in
theorem ggX4_readValue_X4_fail_1 : GoodIn wsX4_readValue wsX4_fail_r1 := goodIn_r _ [57, 58, 59, 60, 3, 61, 62, 63, 64, 65, 66, 67, 68, 69, 70, 71, 72, 73, 74, 75, 76, 77, 78, 79] (by decide +kernel) (by decide +kernel)
set_option maxRecDepth 20000 in
theorem ggX4_readValue_X4_fail_2 : GoodIn wsX4_readValue wsX4_fail_r2 := goodIn_r _ [80, 81, 82, 83, 84, 85, 86, 87, 88, 89, 90, 91, 55, 92, 93, 94] (by decide +kernel) (by decide +kernel)
set_option maxRecDepth 20000 in
theorem ggX4_readValue_X4_fail_3 : GoodIn wsX4_readValue wsX40 := goodIn_r _ [114, 115, 116, 117, 118, 119, 120, 121, 122, 123, 124, 125, 126, 127, 128, 129, 130, 131, 132] (by decide +kernel) (by decide +kernel)
set_option maxRecDepth 20000 in
theorem ggX4_readValue_X4_fail_4 : GoodIn wsX4_readValue wsX20 := goodIn_r _ [143, 144, 145, 146, 147, 148, 149, 150, 151, 152, 153, 154, 155] (by decide +kernel) (by decide +kernel)
set_option maxRecDepth 20000 in
theorem ggX4_readValue_X4_fail_5 : GoodIn wsX4_readValue wsX50 := goodIn_r _ [156, 157] (by decide +kernel) (by decide +kernel)
set_option maxRecDepth 20000 in
theorem ggX4_readValue_X4_fail_6 : GoodIn wsX4_readValue wsX10 := goodIn_r _ [158, 159, 160, 161, 162] (by decide +kernel) (by decide +kernel)
set_option maxRecDepth 20000 in
theorem ggX4_readValue_X4_fail_0 : GoodIn wsX4_readValue [.code yX4_fail cX4_fail 6 (some .int)] := goodIn_r _ [56] (by decide +kernel) (by decide +kernel)
theorem ggX4_readValue_X4_fail : GoodIn wsX4_readValue wsX4_fail := goodIn_k ggX4_readValue_X4_fail_0 (goodIn_app (goodIn_app (goodIn_app (goodIn_app (goodIn_app ggX4_readValue_X4_fail_1 ggX4_readValue_X4_fail_2) ggX4_readValue_X4_fail_3) ggX4_readValue_X4_fail_4) ggX4_readValue_X4_fail_5) ggX4_readValue_X4_fail_6)
set_option maxRecDepth 20000 in
theorem gX4_readValue_X4_fail : GoodIn wsX4_readValue (wsV RX4 152 RX4 yX4_fail wsX4_fail) := goodIn_app (goodIn_of _ (by decide +kernel)) ggX4_readValue_X4_fail
set_option maxRecDepth 20000 in
theorem ggX4_readValue_X2_nameNewcomer : GoodIn wsX4_readValue wsX2_nameNewcomer := goodIn_r _ [99, 100, 101, 102, 103, 104, 22, 23, 14, 24, 16, 25, 143, 144, 145, 146, 147, 148, 149, 150, 151, 152, 153, 154, 155, 140, 141, 142] (by decide +kernel) (by decide +kernel)
set_option maxRecDepth 20000 in
theorem gX4_readValue_X2_nameNewcomer : GoodIn wsX4_readValue (wsV RX4 204 RX2 yX2_nameNewcomer wsX2_nameNewcomer) := goodIn_app (goodIn_of _ (by decide +kernel)) ggX4_readValue_X2_nameNewcomer
set_option maxRecDepth 20000 in
theorem ggX4_readValue_X6_valueAs : GoodIn wsX4_readValue wsX6_valueAs := goodIn_r _ [108, 21, 22, 23, 14, 24, 16, 25, 33, 34, 35, 36, 140, 141, 142] (by decide +kernel) (by decide +kernel)
set_option maxRecDepth 20000 in
theorem gX4_readValue_X6_valueAs : GoodIn wsX4_readValue (wsV RX4 208 RX6 yX6_valueAs wsX6_valueAs) := goodIn_app (goodIn_of _ (by decide +kernel)) ggX4_readValue_X6_valueAs
set_option maxRecDepth 20000 in
theorem ggX4_readValue_X4_mended : GoodIn wsX4_readValue wsX4_mended := goodIn_r _ [112, 58, 59, 2, 113, 34, 35, 14, 36, 16, 21, 22, 23, 24, 25, 114, 115, 116, 117, 118, 119, 120, 121, 122, 123, 124, 125, 126, 127, 128, 129, 130, 131, 132, 140, 141, 142] (by decide +kernel) (by decide +kernel)
set_option maxRecDepth 20000 in
theorem gX4_readValue_X4_mended : GoodIn wsX4_readValue (wsV RX4 211 RX4 yX4_mended wsX4_mended) := goodIn_app (goodIn_of _ (by decide +kernel)) ggX4_readValue_X4_mended
theorem dX4_readValue_0 : decode cX4_readValue 0 = .ok (.iload_n 1, 1) := by decide +kernel
theorem dX4_readValue_1 : decode cX4_readValue 1 = .ok (.ifCond .lt 8, 3) := by decide +kernel
theorem dX4_readValue_4 : decode cX4_readValue 4 = .ok (.iload_n 1, 1) := by decide +kernel
theorem dX4_readValue_5 : decode cX4_readValue 5 = .ok (.iconst 5, 1) := by decide +kernel
theorem dX4_readValue_6 : decode cX4_readValue 6 = .ok (.if_icmp .lt 5, 3) := by decide +kernel
theorem dX4_readValue_9 : decode cX4_readValue 9 = .ok (.iconst (-1), 1) := by decide +kernel
theorem dX4_readValue_10 : decode cX4_readValue 10 = .ok (.ireturn, 1) := by decide +kernel
theorem dX4_readValue_11 : decode cX4_readValue 11 = .ok (.aload_n 0, 1) := by decide +kernel
theorem dX4_readValue_12 : decode cX4_readValue 12 = .ok (.getfield 12, 3) := by decide +kernel
theorem dX4_readValue_15 : decode cX4_readValue 15 = .ok (.iload_n 1, 1) := by decide +kernel
theorem dX4_readValue_16 : decode cX4_readValue 16 = .ok (.invokevirtual 192, 3) := by decide +kernel
theorem dX4_readValue_19 : decode cX4_readValue 19 = .ok (.istore_n 2, 1) := by decide +kernel
theorem dX4_readValue_20 : decode cX4_readValue 20 = .ok (.aload_n 0, 1) := by decide +kernel
theorem dX4_readValue_21 : decode cX4_readValue 21 = .ok (.getfield 21, 3) := by decide +kernel
theorem dX4_readValue_24 : decode cX4_readValue 24 = .ok (.iload_n 2, 1) := by decide +kernel
theorem dX4_readValue_25 : decode cX4_readValue 25 = .ok (.invokevirtual 195, 3) := by decide +kernel
theorem dX4_readValue_28 : decode cX4_readValue 28 = .ok (.istore_n 3, 1) := by decide +kernel
theorem dX4_readValue_29 : decode cX4_readValue 29 = .ok (.iconst (-1), 1) := by decide +kernel
theorem dX4_readValue_30 : decode cX4_readValue 30 = .ok (.istore 4, 2) := by decide +kernel
theorem dX4_readValue_32 : decode cX4_readValue 32 = .ok (.iload_n 3, 1) := by decide +kernel
theorem dX4_readValue_33 : decode cX4_readValue 33 = .ok (.ifCond .eq 45, 3) := by decide +kernel
theorem dX4_readValue_36 : decode cX4_readValue 36 = .ok (.iload_n 3, 1) := by decide +kernel
theorem dX4_readValue_37 : decode cX4_readValue 37 = .ok (.iconst 3, 1) := by decide +kernel
theorem dX4_readValue_38 : decode cX4_readValue 38 = .ok (.if_icmp .ne 20, 3) := by decide +kernel
theorem dX4_readValue_41 : decode cX4_readValue 41 = .ok (.aload_n 0, 1) := by decide +kernel
theorem dX4_readValue_42 : decode cX4_readValue 42 = .ok (.getfield 21, 3) := by decide +kernel
theorem dX4_readValue_45 : decode cX4_readValue 45 = .ok (.aload_n 0, 1) := by decide +kernel
theorem dX4_readValue_46 : decode cX4_readValue 46 = .ok (.getfield 21, 3) := by decide +kernel
theorem dX4_readValue_49 : decode cX4_readValue 49 = .ok (.invokevirtual 198, 3) := by decide +kernel
theorem dX4_readValue_52 : decode cX4_readValue 52 = .ok (.invokevirtual 201, 3) := by decide +kernel
theorem dX4_readValue_55 : decode cX4_readValue 55 = .ok (.goto 11, 3) := by decide +kernel
theorem dX4_readValue_58 : decode cX4_readValue 58 = .ok (.aload_n 0, 1) := by decide +kernel
theorem dX4_readValue_59 : decode cX4_readValue 59 = .ok (.getfield 12, 3) := by decide +kernel
theorem dX4_readValue_62 : decode cX4_readValue 62 = .ok (.iload_n 1, 1) := by decide +kernel
theorem dX4_readValue_63 : decode cX4_readValue 63 = .ok (.invokevirtual 169, 3) := by decide +kernel
theorem dX4_readValue_66 : decode cX4_readValue 66 = .ok (.istore 5, 2) := by decide +kernel
theorem dX4_readValue_68 : decode cX4_readValue 68 = .ok (.aload_n 0, 1) := by decide +kernel
theorem dX4_readValue_69 : decode cX4_readValue 69 = .ok (.iload_n 3, 1) := by decide +kernel
theorem dX4_readValue_70 : decode cX4_readValue 70 = .ok (.iload 5, 2) := by decide +kernel
theorem dX4_readValue_72 : decode cX4_readValue 72 = .ok (.iconst (-1), 1) := by decide +kernel
theorem dX4_readValue_73 : decode cX4_readValue 73 = .ok (.invokevirtual 152, 3) := by decide +kernel
theorem dX4_readValue_76 : decode cX4_readValue 76 = .ok (.istore 4, 2) := by decide +kernel
theorem dX4_readValue_78 : decode cX4_readValue 78 = .ok (.iload 4, 2) := by decide +kernel
theorem dX4_readValue_80 : decode cX4_readValue 80 = .ok (.iconst (-1), 1) := by decide +kernel
theorem dX4_readValue_81 : decode cX4_readValue 81 = .ok (.if_icmp .eq 6, 3) := by decide +kernel
theorem dX4_readValue_84 : decode cX4_readValue 84 = .ok (.iload 4, 2) := by decide +kernel
theorem dX4_readValue_86 : decode cX4_readValue 86 = .ok (.ireturn, 1) := by decide +kernel
theorem dX4_readValue_87 : decode cX4_readValue 87 = .ok (.iload_n 2, 1) := by decide +kernel
theorem dX4_readValue_88 : decode cX4_readValue 88 = .ok (.iconst 1, 1) := by decide +kernel
theorem dX4_readValue_89 : decode cX4_readValue 89 = .ok (.if_icmp .ne 17, 3) := by decide +kernel
theorem dX4_readValue_92 : decode cX4_readValue 92 = .ok (.aload_n 0, 1) := by decide +kernel
theorem dX4_readValue_93 : decode cX4_readValue 93 = .ok (.getfield 28, 3) := by decide +kernel
theorem dX4_readValue_96 : decode cX4_readValue 96 = .ok (.aload_n 0, 1) := by decide +kernel
theorem dX4_readValue_97 : decode cX4_readValue 97 = .ok (.getfield 21, 3) := by decide +kernel
theorem dX4_readValue_100 : decode cX4_readValue 100 = .ok (.invokevirtual 204, 3) := by decide +kernel
theorem dX4_readValue_103 : decode cX4_readValue 103 = .ok (.goto 29, 3) := by decide +kernel
theorem dX4_readValue_106 : decode cX4_readValue 106 = .ok (.aload_n 0, 1) := by decide +kernel
theorem dX4_readValue_107 : decode cX4_readValue 107 = .ok (.getfield 32, 3) := by decide +kernel
theorem dX4_readValue_110 : decode cX4_readValue 110 = .ok (.iload_n 1, 1) := by decide +kernel
theorem dX4_readValue_111 : decode cX4_readValue 111 = .ok (.iload_n 3, 1) := by decide +kernel
theorem dX4_readValue_112 : decode cX4_readValue 112 = .ok (.ifCond .ne 14, 3) := by decide +kernel
theorem dX4_readValue_115 : decode cX4_readValue 115 = .ok (.aload_n 0, 1) := by decide +kernel
theorem dX4_readValue_116 : decode cX4_readValue 116 = .ok (.getfield 21, 3) := by decide +kernel
theorem dX4_readValue_119 : decode cX4_readValue 119 = .ok (.iload_n 2, 1) := by decide +kernel
theorem dX4_readValue_120 : decode cX4_readValue 120 = .ok (.invokevirtual 208, 3) := by decide +kernel
theorem dX4_readValue_123 : decode cX4_readValue 123 = .ok (.goto 8, 3) := by decide +kernel
theorem dX4_readValue_126 : decode cX4_readValue 126 = .ok (.aload_n 0, 1) := by decide +kernel
theorem dX4_readValue_127 : decode cX4_readValue 127 = .ok (.iload_n 3, 1) := by decide +kernel
theorem dX4_readValue_128 : decode cX4_readValue 128 = .ok (.invokevirtual 211, 3) := by decide +kernel
theorem dX4_readValue_131 : decode cX4_readValue 131 = .ok (.iastore, 1) := by decide +kernel
theorem dX4_readValue_132 : decode cX4_readValue 132 = .ok (.iconst (-1), 1) := by decide +kernel
theorem dX4_readValue_133 : decode cX4_readValue 133 = .ok (.ireturn, 1) := by decide +kernel
set_option maxRecDepth 20000 in
theorem ggX4_mended_X6_number : GoodIn wsX4_mended wsX6_number := goodIn_r _ [8, 9, 10, 11, 12, 7, 13, 14, 34, 35, 36] (by decide +kernel) (by decide +kernel)
set_option maxRecDepth 20000 in
theorem gX4_mended_X6_number : GoodIn wsX4_mended (wsV RX4 214 RX6 yX6_number wsX6_number) := goodIn_app (goodIn_of _ (by decide +kernel)) ggX4_mended_X6_number
theorem dX4_mended_0 : decode cX4_mended 0 = .ok (.iload_n 1, 1) := by decide +kernel
theorem dX4_mended_1 : decode cX4_mended 1 = .ok (.bipush 6, 2) := by decide +kernel
theorem dX4_mended_3 : decode cX4_mended 3 = .ok (.if_icmp .ne 35, 3) := by decide +kernel
theorem dX4_mended_6 : decode cX4_mended 6 = .ok (.aload_n 0, 1) := by decide +kernel
theorem dX4_mended_7 : decode cX4_mended 7 = .ok (.getfield 182, 3) := by decide +kernel
theorem dX4_mended_10 : decode cX4_mended 10 = .ok (.iconst 2, 1) := by decide +kernel
theorem dX4_mended_11 : decode cX4_mended 11 = .ok (.if_icmp .ne 25, 3) := by decide +kernel
theorem dX4_mended_14 : decode cX4_mended 14 = .ok (.aload_n 0, 1) := by decide +kernel
theorem dX4_mended_15 : decode cX4_mended 15 = .ok (.getfield 185, 3) := by decide +kernel
theorem dX4_mended_18 : decode cX4_mended 18 = .ok (.ifCond .eq 11, 3) := by decide +kernel
theorem dX4_mended_21 : decode cX4_mended 21 = .ok (.aload_n 0, 1) := by decide +kernel
theorem dX4_mended_22 : decode cX4_mended 22 = .ok (.getfield 185, 3) := by decide +kernel
theorem dX4_mended_25 : decode cX4_mended 25 = .ok (.iconst 1, 1) := by decide +kernel
theorem dX4_mended_26 : decode cX4_mended 26 = .ok (.if_icmp .ne 10, 3) := by decide +kernel
theorem dX4_mended_29 : decode cX4_mended 29 = .ok (.aload_n 0, 1) := by decide +kernel
theorem dX4_mended_30 : decode cX4_mended 30 = .ok (.getfield 185, 3) := by decide +kernel
theorem dX4_mended_33 : decode cX4_mended 33 = .ok (.goto 4, 3) := by decide +kernel
theorem dX4_mended_36 : decode cX4_mended 36 = .ok (.iconst (-1), 1) := by decide +kernel
theorem dX4_mended_37 : decode cX4_mended 37 = .ok (.ireturn, 1) := by decide +kernel
theorem dX4_mended_38 : decode cX4_mended 38 = .ok (.aload_n 0, 1) := by decide +kernel
theorem dX4_mended_39 : decode cX4_mended 39 = .ok (.getfield 182, 3) := by decide +kernel
theorem dX4_mended_42 : decode cX4_mended 42 = .ok (.iconst 2, 1) := by decide +kernel
theorem dX4_mended_43 : decode cX4_mended 43 = .ok (.if_icmp .ne 8, 3) := by decide +kernel
theorem dX4_mended_46 : decode cX4_mended 46 = .ok (.aload_n 0, 1) := by decide +kernel
theorem dX4_mended_47 : decode cX4_mended 47 = .ok (.getfield 185, 3) := by decide +kernel
theorem dX4_mended_50 : decode cX4_mended 50 = .ok (.ireturn, 1) := by decide +kernel
theorem dX4_mended_51 : decode cX4_mended 51 = .ok (.iload_n 1, 1) := by decide +kernel
theorem dX4_mended_52 : decode cX4_mended 52 = .ok (.bipush 7, 2) := by decide +kernel
theorem dX4_mended_54 : decode cX4_mended 54 = .ok (.if_icmp .ne 7, 3) := by decide +kernel
theorem dX4_mended_57 : decode cX4_mended 57 = .ok (.iconst (-1), 1) := by decide +kernel
theorem dX4_mended_58 : decode cX4_mended 58 = .ok (.goto 10, 3) := by decide +kernel
theorem dX4_mended_61 : decode cX4_mended 61 = .ok (.aload_n 0, 1) := by decide +kernel
theorem dX4_mended_62 : decode cX4_mended 62 = .ok (.getfield 21, 3) := by decide +kernel
theorem dX4_mended_65 : decode cX4_mended 65 = .ok (.invokevirtual 214, 3) := by decide +kernel
theorem dX4_mended_68 : decode cX4_mended 68 = .ok (.ireturn, 1) := by decide +kernel
set_option maxRecDepth 20000 in
theorem ggX4_placeLine_X4_settleOutside_1 : GoodIn wsX4_placeLine wsX4_settleOutside_r1 := goodIn_r _ [2, 3, 9, 10, 11, 12, 7, 13, 14, 15, 16, 17, 1, 18, 19, 20, 21, 22, 23, 24, 25, 26, 27, 28] (by decide +kernel) (by decide +kernel)
set_option maxRecDepth 20000 in
theorem ggX4_placeLine_X4_settleOutside_2 : GoodIn wsX4_placeLine wsX4_settleOutside_r2 := goodIn_r _ [29, 30, 31, 32, 33, 34, 35, 36, 37, 38, 39, 40, 41, 42, 43, 44, 45, 46, 47, 48, 49, 50, 51] (by decide +kernel) (by decide +kernel)
set_option maxRecDepth 20000 in
theorem ggX4_placeLine_X4_settleOutside_3 : GoodIn wsX4_placeLine wsX40 := goodIn_r _ [90, 91, 92, 93, 94, 95, 96, 97, 98, 99, 100, 101, 102, 103, 104, 105, 106, 107, 108] (by decide +kernel) (by decide +kernel)
set_option maxRecDepth 20000 in
theorem ggX4_placeLine_X4_settleOutside_4 : GoodIn wsX4_placeLine wsX30 := goodIn_r _ [122, 123, 124, 125, 126, 127, 128] (by decide +kernel) (by decide +kernel)
set_option maxRecDepth 20000 in
theorem ggX4_placeLine_X4_settleOutside_5 : GoodIn wsX4_placeLine wsX20 := goodIn_r _ [109, 110, 111, 112, 113, 114, 115, 116, 117, 118, 119, 120, 121] (by decide +kernel) (by decide +kernel)
set_option maxRecDepth 20000 in
theorem ggX4_placeLine_X4_settleOutside_6 : GoodIn wsX4_placeLine wsX50 := goodIn_r _ [129, 130] (by decide +kernel) (by decide +kernel)
set_option maxRecDepth 20000 in
theorem ggX4_placeLine_X4_settleOutside_7 : GoodIn wsX4_placeLine wsX10 := goodIn_r _ [131, 132, 133, 134, 135] (by decide +kernel) (by decide +kernel)
set_option maxRecDepth 20000 in
theorem ggX4_placeLine_X4_settleOutside_0 : GoodIn wsX4_placeLine [.code yX4_settleOutside cX4_settleOutside 2 none] := goodIn_r _ [8] (by decide +kernel) (by decide +kernel)
theorem ggX4_placeLine_X4_settleOutside : GoodIn wsX4_placeLine wsX4_settleOutside := goodIn_k ggX4_placeLine_X4_settleOutside_0 (goodIn_app (goodIn_app (goodIn_app (goodIn_app (goodIn_app (goodIn_app ggX4_placeLine_X4_settleOutside_1 ggX4_placeLine_X4_settleOutside_2) ggX4_placeLine_X4_settleOutside_3) ggX4_placeLine_X4_settleOutside_4) ggX4_placeLine_X4_settleOutside_5) ggX4_placeLine_X4_settleOutside_6) ggX4_placeLine_X4_settleOutside_7)
set_option maxRecDepth 20000 in
theorem gX4_placeLine_X4_settleOutside : GoodIn wsX4_placeLine (wsV RX4 216 RX4 yX4_settleOutside wsX4_settleOutside) := goodIn_app (goodIn_of _ (by decide +kernel)) ggX4_placeLine_X4_settleOutside
set_option maxRecDepth 20000 in
theorem ggX4_placeLine_X4_fail_1 : GoodIn wsX4_placeLine wsX4_fail_r1 := goodIn_r _ [14, 15, 16, 17, 1, 18, 19, 20, 21, 22, 23, 24, 25, 26, 27, 28, 29, 30, 31, 32, 33, 34, 35, 36] (by decide +kernel) (by decide +kernel)
set_option maxRecDepth 20000 in
theorem ggX4_placeLine_X4_fail_2 : GoodIn wsX4_placeLine wsX4_fail_r2 := goodIn_r _ [37, 38, 39, 40, 41, 42, 43, 44, 45, 46, 47, 48, 7, 49, 50, 51] (by decide +kernel) (by decide +kernel)
set_option maxRecDepth 20000 in
theorem ggX4_placeLine_X4_fail_3 : GoodIn wsX4_placeLine wsX40 := goodIn_r _ [90, 91, 92, 93, 94, 95, 96, 97, 98, 99, 100, 101, 102, 103, 104, 105, 106, 107, 108] (by decide +kernel) (by decide +kernel)
set_option maxRecDepth 20000 in
theorem ggX4_placeLine_X4_fail_4 : GoodIn wsX4_placeLine wsX20 := goodIn_r _ [109, 110, 111, 112, 113, 114, 115, 116, 117, 118, 119, 120, 121] (by decide +kernel) (by decide +kernel)
set_option maxRecDepth 20000 in
theorem ggX4_placeLine_X4_fail_5 : GoodIn wsX4_placeLine wsX50 := goodIn_r _ [129, 130] (by decide +kernel) (by decide +kernel)
set_option maxRecDepth 20000 in
theorem ggX4_placeLine_X4_fail_6 : GoodIn wsX4_placeLine wsX10 := goodIn_r _ [131, 132, 133, 134, 135] (by decide +kernel) (by decide +kernel)
set_option maxRecDepth 20000 in
theorem ggX4_placeLine_X4_fail_0 : GoodIn wsX4_placeLine [.code yX4_fail cX4_fail 6 (some .int)] := goodIn_r _ [13] (by decide +kernel) (by decide +kernel)
theorem ggX4_placeLine_X4_fail : GoodIn wsX4_placeLine wsX4_fail := goodIn_k ggX4_placeLine_X4_fail_0 (goodIn_app (goodIn_app (goodIn_app (goodIn_app (goodIn_app ggX4_placeLine_X4_fail_1 ggX4_placeLine_X4_fail_2) ggX4_placeLine_X4_fail_3) ggX4_placeLine_X4_fail_4) ggX4_placeLine_X4_fail_5) ggX4_placeLine_X4_fail_6)
set_option maxRecDepth 20000 in
theorem gX4_placeLine_X4_fail : GoodIn wsX4_placeLine (wsV RX4 152 RX4 yX4_fail wsX4_fail) := goodIn_app (goodIn_of _ (by decide +kernel)) ggX4_placeLine_X4_fail
set_option maxRecDepth 20000 in
theorem ggX4_placeLine_X4_loseHousehold_1 : GoodIn wsX4_placeLine wsX4_loseHousehold_r1 := goodIn_r _ [1, 56, 10, 11, 12, 7, 13, 14, 15, 16, 17, 18, 19, 20, 21, 22, 23, 24, 25, 26, 27, 28, 29, 30] (by decide +kernel) (by decide +kernel)
set_option maxRecDepth 20000 in
theorem ggX4_placeLine_X4_loseHousehold_2 : GoodIn wsX4_placeLine wsX4_loseHousehold_r2 := goodIn_r _ [31, 32, 33, 34, 35, 36, 37, 38, 39, 40, 41, 42, 43, 44, 45, 46, 47, 48, 49, 50, 51] (by decide +kernel) (by decide +kernel)
set_option maxRecDepth 20000 in
theorem ggX4_placeLine_X4_loseHousehold_3 : GoodIn wsX4_placeLine wsX40 := goodIn_r _ [90, 91, 92, 93, 94, 95, 96, 97, 98, 99, 100, 101, 102, 103, 104, 105, 106, 107, 108] (by decide +kernel) (by decide +kernel)
set_option maxRecDepth 20000 in
theorem ggX4_placeLine_X4_loseHousehold_4 : GoodIn wsX4_placeLine wsX20 := goodIn_r _ [109, 110, 111, 112, 113, 114, 115, 116, 117, 118, 119, 120, 121] (by decide +kernel) (by decide +kernel)
set_option maxRecDepth 20000 in
theorem ggX4_placeLine_X4_loseHousehold_5 : GoodIn wsX4_placeLine wsX50 := goodIn_r _ [129, 130] (by decide +kernel) (by decide +kernel)
set_option maxRecDepth 20000 in
theorem ggX4_placeLine_X4_loseHousehold_6 : GoodIn wsX4_placeLine wsX10 := goodIn_r _ [131, 132, 133, 134, 135] (by decide +kernel) (by decide +kernel)
set_option maxRecDepth 20000 in
theorem ggX4_placeLine_X4_loseHousehold_0 : GoodIn wsX4_placeLine [.code yX4_loseHousehold cX4_loseHousehold 2 none] := goodIn_r _ [55] (by decide +kernel) (by decide +kernel)
theorem ggX4_placeLine_X4_loseHousehold : GoodIn wsX4_placeLine wsX4_loseHousehold := goodIn_k ggX4_placeLine_X4_loseHousehold_0 (goodIn_app (goodIn_app (goodIn_app (goodIn_app (goodIn_app ggX4_placeLine_X4_loseHousehold_1 ggX4_placeLine_X4_loseHousehold_2) ggX4_placeLine_X4_loseHousehold_3) ggX4_placeLine_X4_loseHousehold_4) ggX4_placeLine_X4_loseHousehold_5) ggX4_placeLine_X4_loseHousehold_6)
set_option maxRecDepth 20000 in
theorem gX4_placeLine_X4_loseHousehold : GoodIn wsX4_placeLine (wsV RX4 219 RX4 yX4_loseHousehold wsX4_loseHousehold) := goodIn_app (goodIn_of _ (by decide +kernel)) ggX4_placeLine_X4_loseHousehold
set_option maxRecDepth 20000 in
theorem ggX4_placeLine_X4_takePerson_1 : GoodIn wsX4_placeLine wsX4_takePerson_r1 := goodIn_r _ [1, 3, 2, 61, 62, 63, 64, 65, 66, 67, 68, 69, 70, 71, 72, 73, 74, 75, 76, 77, 78, 79, 80, 81] (by decide +kernel) (by decide +kernel)
set_option maxRecDepth 20000 in
theorem ggX4_placeLine_X4_takePerson_2 : GoodIn wsX4_placeLine wsX4_takePerson_r2 := goodIn_r _ [82, 83, 84, 10, 11, 12, 7, 13, 14, 15, 16, 17, 18, 19, 20, 21, 22, 23, 24, 25, 26, 27, 28, 29] (by decide +kernel) (by decide +kernel)
set_option maxRecDepth 20000 in
theorem ggX4_placeLine_X4_takePerson_3 : GoodIn wsX4_placeLine wsX4_takePerson_r3 := goodIn_r _ [30, 31, 32, 33, 34, 35, 36, 37, 38, 39, 40, 41, 42, 43, 44, 45, 46, 47, 48, 49, 50, 51, 85, 86] (by decide +kernel) (by decide +kernel)
set_option maxRecDepth 20000 in
theorem ggX4_placeLine_X4_takePerson_4 : GoodIn wsX4_placeLine wsX4_takePerson_r4 := goodIn_r _ [87, 88, 89, 52, 53, 54, 55, 56] (by decide +kernel) (by decide +kernel)
set_option maxRecDepth 20000 in
theorem ggX4_placeLine_X4_takePerson_5 : GoodIn wsX4_placeLine wsX40 := goodIn_r _ [90, 91, 92, 93, 94, 95, 96, 97, 98, 99, 100, 101, 102, 103, 104, 105, 106, 107, 108] (by decide +kernel) (by decide +kernel)
set_option maxRecDepth 20000 in
theorem ggX4_placeLine_X4_takePerson_6 : GoodIn wsX4_placeLine wsX30 := goodIn_r _ [122, 123, 124, 125, 126, 127, 128] (by decide +kernel) (by decide +kernel)
set_option maxRecDepth 20000 in
theorem ggX4_placeLine_X4_takePerson_7 : GoodIn wsX4_placeLine wsX20 := goodIn_r _ [109, 110, 111, 112, 113, 114, 115, 116, 117, 118, 119, 120, 121] (by decide +kernel) (by decide +kernel)
set_option maxRecDepth 20000 in
theorem ggX4_placeLine_X4_takePerson_8 : GoodIn wsX4_placeLine wsX50 := goodIn_r _ [129, 130] (by decide +kernel) (by decide +kernel)
set_option maxRecDepth 20000 in
theorem ggX4_placeLine_X4_takePerson_9 : GoodIn wsX4_placeLine wsX10 := goodIn_r _ [131, 132, 133, 134, 135] (by decide +kernel) (by decide +kernel)
set_option maxRecDepth 20000 in
theorem ggX4_placeLine_X4_takePerson_0 : GoodIn wsX4_placeLine [.code yX4_takePerson cX4_takePerson 2 none] := goodIn_r _ [60] (by decide +kernel) (by decide +kernel)
theorem ggX4_placeLine_X4_takePerson : GoodIn wsX4_placeLine wsX4_takePerson := goodIn_k ggX4_placeLine_X4_takePerson_0 (goodIn_app (goodIn_app (goodIn_app (goodIn_app (goodIn_app (goodIn_app ggX4_placeLine_X4_takePerson_1 (goodIn_app ggX4_placeLine_X4_takePerson_2 (goodIn_app ggX4_placeLine_X4_takePerson_3 ggX4_placeLine_X4_takePerson_4))) ggX4_placeLine_X4_takePerson_5) ggX4_placeLine_X4_takePerson_6) ggX4_placeLine_X4_takePerson_7) ggX4_placeLine_X4_takePerson_8) ggX4_placeLine_X4_takePerson_9)
set_option maxRecDepth 20000 in
theorem gX4_placeLine_X4_takePerson : GoodIn wsX4_placeLine (wsV RX4 226 RX4 yX4_takePerson wsX4_takePerson) := goodIn_app (goodIn_of _ (by decide +kernel)) ggX4_placeLine_X4_takePerson
theorem dX4_placeLine_0 : decode cX4_placeLine 0 = .ok (.aload_n 0, 1) := by decide +kernel
theorem dX4_placeLine_1 : decode cX4_placeLine 1 = .ok (.getfield 28, 3) := by decide +kernel
theorem dX4_placeLine_4 : decode cX4_placeLine 4 = .ok (.getfield 81, 3) := by decide +kernel
theorem dX4_placeLine_7 : decode cX4_placeLine 7 = .ok (.ifCond .ne 11, 3) := by decide +kernel
theorem dX4_placeLine_10 : decode cX4_placeLine 10 = .ok (.aload_n 0, 1) := by decide +kernel
theorem dX4_placeLine_11 : decode cX4_placeLine 11 = .ok (.iload_n 1, 1) := by decide +kernel
theorem dX4_placeLine_12 : decode cX4_placeLine 12 = .ok (.invokevirtual 216, 3) := by decide +kernel
theorem dX4_placeLine_15 : decode cX4_placeLine 15 = .ok (.goto 83, 3) := by decide +kernel
theorem dX4_placeLine_18 : decode cX4_placeLine 18 = .ok (.iload_n 1, 1) := by decide +kernel
theorem dX4_placeLine_19 : decode cX4_placeLine 19 = .ok (.ifCond .lt 24, 3) := by decide +kernel
theorem dX4_placeLine_22 : decode cX4_placeLine 22 = .ok (.aload_n 0, 1) := by decide +kernel
theorem dX4_placeLine_23 : decode cX4_placeLine 23 = .ok (.aload_n 0, 1) := by decide +kernel
theorem dX4_placeLine_24 : decode cX4_placeLine 24 = .ok (.bipush 18, 2) := by decide +kernel
theorem dX4_placeLine_26 : decode cX4_placeLine 26 = .ok (.aload_n 0, 1) := by decide +kernel
theorem dX4_placeLine_27 : decode cX4_placeLine 27 = .ok (.getfield 12, 3) := by decide +kernel
theorem dX4_placeLine_30 : decode cX4_placeLine 30 = .ok (.getfield 124, 3) := by decide +kernel
theorem dX4_placeLine_33 : decode cX4_placeLine 33 = .ok (.iload_n 1, 1) := by decide +kernel
theorem dX4_placeLine_34 : decode cX4_placeLine 34 = .ok (.invokevirtual 152, 3) := by decide +kernel
theorem dX4_placeLine_37 : decode cX4_placeLine 37 = .ok (.invokevirtual 219, 3) := by decide +kernel
theorem dX4_placeLine_40 : decode cX4_placeLine 40 = .ok (.goto 58, 3) := by decide +kernel
theorem dX4_placeLine_43 : decode cX4_placeLine 43 = .ok (.iload_n 1, 1) := by decide +kernel
theorem dX4_placeLine_44 : decode cX4_placeLine 44 = .ok (.iconst (-1), 1) := by decide +kernel
theorem dX4_placeLine_45 : decode cX4_placeLine 45 = .ok (.if_icmp .ne 44, 3) := by decide +kernel
theorem dX4_placeLine_48 : decode cX4_placeLine 48 = .ok (.aload_n 0, 1) := by decide +kernel
theorem dX4_placeLine_49 : decode cX4_placeLine 49 = .ok (.getfield 12, 3) := by decide +kernel
theorem dX4_placeLine_52 : decode cX4_placeLine 52 = .ok (.getfield 121, 3) := by decide +kernel
theorem dX4_placeLine_55 : decode cX4_placeLine 55 = .ok (.bipush 72, 2) := by decide +kernel
theorem dX4_placeLine_57 : decode cX4_placeLine 57 = .ok (.if_icmp .ne 32, 3) := by decide +kernel
theorem dX4_placeLine_60 : decode cX4_placeLine 60 = .ok (.aload_n 0, 1) := by decide +kernel
theorem dX4_placeLine_61 : decode cX4_placeLine 61 = .ok (.getfield 28, 3) := by decide +kernel
theorem dX4_placeLine_64 : decode cX4_placeLine 64 = .ok (.aload_n 0, 1) := by decide +kernel
theorem dX4_placeLine_65 : decode cX4_placeLine 65 = .ok (.getfield 32, 3) := by decide +kernel
theorem dX4_placeLine_68 : decode cX4_placeLine 68 = .ok (.iconst 1, 1) := by decide +kernel
theorem dX4_placeLine_69 : decode cX4_placeLine 69 = .ok (.iaload, 1) := by decide +kernel
theorem dX4_placeLine_70 : decode cX4_placeLine 70 = .ok (.putfield 222, 3) := by decide +kernel
theorem dX4_placeLine_73 : decode cX4_placeLine 73 = .ok (.aload_n 0, 1) := by decide +kernel
theorem dX4_placeLine_74 : decode cX4_placeLine 74 = .ok (.getfield 28, 3) := by decide +kernel
theorem dX4_placeLine_77 : decode cX4_placeLine 77 = .ok (.aload_n 0, 1) := by decide +kernel
theorem dX4_placeLine_78 : decode cX4_placeLine 78 = .ok (.getfield 32, 3) := by decide +kernel
theorem dX4_placeLine_81 : decode cX4_placeLine 81 = .ok (.iconst 2, 1) := by decide +kernel
theorem dX4_placeLine_82 : decode cX4_placeLine 82 = .ok (.iaload, 1) := by decide +kernel
theorem dX4_placeLine_83 : decode cX4_placeLine 83 = .ok (.putfield 223, 3) := by decide +kernel
theorem dX4_placeLine_86 : decode cX4_placeLine 86 = .ok (.goto 12, 3) := by decide +kernel
theorem dX4_placeLine_89 : decode cX4_placeLine 89 = .ok (.iload_n 1, 1) := by decide +kernel
theorem dX4_placeLine_90 : decode cX4_placeLine 90 = .ok (.iconst (-1), 1) := by decide +kernel
theorem dX4_placeLine_91 : decode cX4_placeLine 91 = .ok (.if_icmp .ne 7, 3) := by decide +kernel
theorem dX4_placeLine_94 : decode cX4_placeLine 94 = .ok (.aload_n 0, 1) := by decide +kernel
theorem dX4_placeLine_95 : decode cX4_placeLine 95 = .ok (.invokevirtual 226, 3) := by decide +kernel
theorem dX4_placeLine_98 : decode cX4_placeLine 98 = .ok (.return_, 1) := by decide +kernel
set_option maxRecDepth 20000 in
theorem ggX4_takePerson_X2_describeNewcomer : GoodIn wsX4_takePerson wsX2_describeNewcomer := goodIn_r _ [8, 9, 10, 11, 12, 107, 108, 109, 110, 111, 112, 113, 114, 115, 116, 117, 118, 119] (by decide +kernel) (by decide +kernel)
set_option maxRecDepth 20000 in
theorem gX4_takePerson_X2_describeNewcomer : GoodIn wsX4_takePerson (wsV RX4 229 RX2 yX2_describeNewcomer wsX2_describeNewcomer) := goodIn_app (goodIn_of _ (by decide +kernel)) ggX4_takePerson_X2_describeNewcomer
set_option maxRecDepth 20000 in
theorem ggX4_takePerson_X2_hasLikeOfNewcomer : GoodIn wsX4_takePerson wsX2_hasLikeOfNewcomer := goodIn_r _ [16, 9, 17, 11, 18, 19, 20, 7, 21, 22, 23, 24, 25, 26, 27, 107, 108, 109, 110, 111, 112, 113, 114, 115, 116, 117, 118, 119] (by decide +kernel) (by decide +kernel)
set_option maxRecDepth 20000 in
theorem gX4_takePerson_X2_hasLikeOfNewcomer : GoodIn wsX4_takePerson (wsV RX4 233 RX2 yX2_hasLikeOfNewcomer wsX2_hasLikeOfNewcomer) := goodIn_app (goodIn_of _ (by decide +kernel)) ggX4_takePerson_X2_hasLikeOfNewcomer
set_option maxRecDepth 20000 in
theorem ggX4_takePerson_X4_fail_1 : GoodIn wsX4_takePerson wsX4_fail_r1 := goodIn_r _ [33, 34, 35, 36, 1, 37, 38, 39, 40, 41, 42, 43, 44, 45, 46, 47, 48, 49, 50, 51, 52, 53, 54, 55] (by decide +kernel) (by decide +kernel)
set_option maxRecDepth 20000 in
theorem ggX4_takePerson_X4_fail_2 : GoodIn wsX4_takePerson wsX4_fail_r2 := goodIn_r _ [56, 57, 58, 59, 60, 61, 62, 63, 64, 65, 66, 67, 31, 68, 69, 70] (by decide +kernel) (by decide +kernel)
set_option maxRecDepth 20000 in
theorem ggX4_takePerson_X4_fail_3 : GoodIn wsX4_takePerson wsX40 := goodIn_r _ [81, 82, 83, 84, 85, 86, 87, 88, 89, 90, 91, 92, 93, 94, 95, 96, 97, 98, 99] (by decide +kernel) (by decide +kernel)
set_option maxRecDepth 20000 in
theorem ggX4_takePerson_X4_fail_4 : GoodIn wsX4_takePerson wsX20 := goodIn_r _ [107, 108, 109, 110, 111, 112, 113, 114, 115, 116, 117, 118, 119] (by decide +kernel) (by decide +kernel)
set_option maxRecDepth 20000 in
theorem ggX4_takePerson_X4_fail_5 : GoodIn wsX4_takePerson wsX50 := goodIn_r _ [120, 121] (by decide +kernel) (by decide +kernel)
set_option maxRecDepth 20000 in
theorem ggX4_takePerson_X4_fail_6 : GoodIn wsX4_takePerson wsX10 := goodIn_r _ [122, 123, 124, 125, 126] (by decide +kernel) (by decide +kernel)
set_option maxRecDepth 20000 in
theorem ggX4_takePerson_X4_fail_0 : GoodIn wsX4_takePerson [.code yX4_fail cX4_fail 6 (some .int)] := goodIn_r _ [32] (by decide +kernel) (by decide +kernel)
theorem ggX4_takePerson_X4_fail : GoodIn wsX4_takePerson wsX4_fail := goodIn_k ggX4_takePerson_X4_fail_0 (goodIn_app (goodIn_app (goodIn_app (goodIn_app (goodIn_app ggX4_takePerson_X4_fail_1 ggX4_takePerson_X4_fail_2) ggX4_takePerson_X4_fail_3) ggX4_takePerson_X4_fail_4) ggX4_takePerson_X4_fail_5) ggX4_takePerson_X4_fail_6)
set_option maxRecDepth 20000 in
theorem gX4_takePerson_X4_fail : GoodIn wsX4_takePerson (wsV RX4 152 RX4 yX4_fail wsX4_fail) := goodIn_app (goodIn_of _ (by decide +kernel)) ggX4_takePerson_X4_fail
set_option maxRecDepth 20000 in
theorem ggX4_takePerson_X2_takeNewcomer : GoodIn wsX4_takePerson wsX2_takeNewcomer := goodIn_r _ [74, 9, 75, 17, 107, 108, 109, 110, 111, 112, 113, 114, 115, 116, 117, 118, 119] (by decide +kernel) (by decide +kernel)
set_option maxRecDepth 20000 in
theorem gX4_takePerson_X2_takeNewcomer : GoodIn wsX4_takePerson (wsV RX4 236 RX2 yX2_takeNewcomer wsX2_takeNewcomer) := goodIn_app (goodIn_of _ (by decide +kernel)) ggX4_takePerson_X2_takeNewcomer
set_option maxRecDepth 20000 in
theorem ggX4_takePerson_X4_loseHousehold_1 : GoodIn wsX4_takePerson wsX4_loseHousehold_r1 := goodIn_r _ [1, 80, 28, 29, 30, 31, 32, 33, 34, 35, 36, 37, 38, 39, 40, 41, 42, 43, 44, 45, 46, 47, 48, 49] (by decide +kernel) (by decide +kernel)
set_option maxRecDepth 20000 in
theorem ggX4_takePerson_X4_loseHousehold_2 : GoodIn wsX4_takePerson wsX4_loseHousehold_r2 := goodIn_r _ [50, 51, 52, 53, 54, 55, 56, 57, 58, 59, 60, 61, 62, 63, 64, 65, 66, 67, 68, 69, 70] (by decide +kernel) (by decide +kernel)
set_option maxRecDepth 20000 in
theorem ggX4_takePerson_X4_loseHousehold_3 : GoodIn wsX4_takePerson wsX40 := goodIn_r _ [81, 82, 83, 84, 85, 86, 87, 88, 89, 90, 91, 92, 93, 94, 95, 96, 97, 98, 99] (by decide +kernel) (by decide +kernel)
set_option maxRecDepth 20000 in
theorem ggX4_takePerson_X4_loseHousehold_4 : GoodIn wsX4_takePerson wsX20 := goodIn_r _ [107, 108, 109, 110, 111, 112, 113, 114, 115, 116, 117, 118, 119] (by decide +kernel) (by decide +kernel)
set_option maxRecDepth 20000 in
theorem ggX4_takePerson_X4_loseHousehold_5 : GoodIn wsX4_takePerson wsX50 := goodIn_r _ [120, 121] (by decide +kernel) (by decide +kernel)
set_option maxRecDepth 20000 in
theorem ggX4_takePerson_X4_loseHousehold_6 : GoodIn wsX4_takePerson wsX10 := goodIn_r _ [122, 123, 124, 125, 126] (by decide +kernel) (by decide +kernel)
set_option maxRecDepth 20000 in
theorem ggX4_takePerson_X4_loseHousehold_0 : GoodIn wsX4_takePerson [.code yX4_loseHousehold cX4_loseHousehold 2 none] := goodIn_r _ [79] (by decide +kernel) (by decide +kernel)
theorem ggX4_takePerson_X4_loseHousehold : GoodIn wsX4_takePerson wsX4_loseHousehold := goodIn_k ggX4_takePerson_X4_loseHousehold_0 (goodIn_app (goodIn_app (goodIn_app (goodIn_app (goodIn_app ggX4_takePerson_X4_loseHousehold_1 ggX4_takePerson_X4_loseHousehold_2) ggX4_takePerson_X4_loseHousehold_3) ggX4_takePerson_X4_loseHousehold_4) ggX4_takePerson_X4_loseHousehold_5) ggX4_takePerson_X4_loseHousehold_6)
set_option maxRecDepth 20000 in
theorem gX4_takePerson_X4_loseHousehold : GoodIn wsX4_takePerson (wsV RX4 219 RX4 yX4_loseHousehold wsX4_loseHousehold) := goodIn_app (goodIn_of _ (by decide +kernel)) ggX4_takePerson_X4_loseHousehold
theorem dX4_takePerson_0 : decode cX4_takePerson 0 = .ok (.aload_n 0, 1) := by decide +kernel
theorem dX4_takePerson_1 : decode cX4_takePerson 1 = .ok (.getfield 28, 3) := by decide +kernel
theorem dX4_takePerson_4 : decode cX4_takePerson 4 = .ok (.aload_n 0, 1) := by decide +kernel
theorem dX4_takePerson_5 : decode cX4_takePerson 5 = .ok (.getfield 32, 3) := by decide +kernel
theorem dX4_takePerson_8 : decode cX4_takePerson 8 = .ok (.iconst 2, 1) := by decide +kernel
theorem dX4_takePerson_9 : decode cX4_takePerson 9 = .ok (.iaload, 1) := by decide +kernel
theorem dX4_takePerson_10 : decode cX4_takePerson 10 = .ok (.aload_n 0, 1) := by decide +kernel
theorem dX4_takePerson_11 : decode cX4_takePerson 11 = .ok (.getfield 32, 3) := by decide +kernel
theorem dX4_takePerson_14 : decode cX4_takePerson 14 = .ok (.iconst 3, 1) := by decide +kernel
theorem dX4_takePerson_15 : decode cX4_takePerson 15 = .ok (.iaload, 1) := by decide +kernel
theorem dX4_takePerson_16 : decode cX4_takePerson 16 = .ok (.aload_n 0, 1) := by decide +kernel
theorem dX4_takePerson_17 : decode cX4_takePerson 17 = .ok (.getfield 32, 3) := by decide +kernel
theorem dX4_takePerson_20 : decode cX4_takePerson 20 = .ok (.iconst 4, 1) := by decide +kernel
theorem dX4_takePerson_21 : decode cX4_takePerson 21 = .ok (.iaload, 1) := by decide +kernel
theorem dX4_takePerson_22 : decode cX4_takePerson 22 = .ok (.invokevirtual 229, 3) := by decide +kernel
theorem dX4_takePerson_25 : decode cX4_takePerson 25 = .ok (.iconst (-1), 1) := by decide +kernel
theorem dX4_takePerson_26 : decode cX4_takePerson 26 = .ok (.istore_n 1, 1) := by decide +kernel
theorem dX4_takePerson_27 : decode cX4_takePerson 27 = .ok (.aload_n 0, 1) := by decide +kernel
theorem dX4_takePerson_28 : decode cX4_takePerson 28 = .ok (.getfield 28, 3) := by decide +kernel
theorem dX4_takePerson_31 : decode cX4_takePerson 31 = .ok (.invokevirtual 233, 3) := by decide +kernel
theorem dX4_takePerson_34 : decode cX4_takePerson 34 = .ok (.ifCond .eq 18, 3) := by decide +kernel
theorem dX4_takePerson_37 : decode cX4_takePerson 37 = .ok (.aload_n 0, 1) := by decide +kernel
theorem dX4_takePerson_38 : decode cX4_takePerson 38 = .ok (.bipush 17, 2) := by decide +kernel
theorem dX4_takePerson_40 : decode cX4_takePerson 40 = .ok (.aload_n 0, 1) := by decide +kernel
theorem dX4_takePerson_41 : decode cX4_takePerson 41 = .ok (.getfield 12, 3) := by decide +kernel
theorem dX4_takePerson_44 : decode cX4_takePerson 44 = .ok (.getfield 124, 3) := by decide +kernel
theorem dX4_takePerson_47 : decode cX4_takePerson 47 = .ok (.iconst (-1), 1) := by decide +kernel
theorem dX4_takePerson_48 : decode cX4_takePerson 48 = .ok (.invokevirtual 152, 3) := by decide +kernel
theorem dX4_takePerson_51 : decode cX4_takePerson 51 = .ok (.istore_n 1, 1) := by decide +kernel
theorem dX4_takePerson_52 : decode cX4_takePerson 52 = .ok (.iload_n 1, 1) := by decide +kernel
theorem dX4_takePerson_53 : decode cX4_takePerson 53 = .ok (.iconst (-1), 1) := by decide +kernel
theorem dX4_takePerson_54 : decode cX4_takePerson 54 = .ok (.if_icmp .ne 10, 3) := by decide +kernel
theorem dX4_takePerson_57 : decode cX4_takePerson 57 = .ok (.aload_n 0, 1) := by decide +kernel
theorem dX4_takePerson_58 : decode cX4_takePerson 58 = .ok (.getfield 28, 3) := by decide +kernel
theorem dX4_takePerson_61 : decode cX4_takePerson 61 = .ok (.invokevirtual 236, 3) := by decide +kernel
theorem dX4_takePerson_64 : decode cX4_takePerson 64 = .ok (.iload_n 1, 1) := by decide +kernel
theorem dX4_takePerson_65 : decode cX4_takePerson 65 = .ok (.ifCond .lt 21, 3) := by decide +kernel
theorem dX4_takePerson_68 : decode cX4_takePerson 68 = .ok (.aload_n 0, 1) := by decide +kernel
theorem dX4_takePerson_69 : decode cX4_takePerson 69 = .ok (.aload_n 0, 1) := by decide +kernel
theorem dX4_takePerson_70 : decode cX4_takePerson 70 = .ok (.bipush 18, 2) := by decide +kernel
theorem dX4_takePerson_72 : decode cX4_takePerson 72 = .ok (.aload_n 0, 1) := by decide +kernel
theorem dX4_takePerson_73 : decode cX4_takePerson 73 = .ok (.getfield 12, 3) := by decide +kernel
theorem dX4_takePerson_76 : decode cX4_takePerson 76 = .ok (.getfield 124, 3) := by decide +kernel
theorem dX4_takePerson_79 : decode cX4_takePerson 79 = .ok (.iload_n 1, 1) := by decide +kernel
theorem dX4_takePerson_80 : decode cX4_takePerson 80 = .ok (.invokevirtual 152, 3) := by decide +kernel
theorem dX4_takePerson_83 : decode cX4_takePerson 83 = .ok (.invokevirtual 219, 3) := by decide +kernel
theorem dX4_takePerson_86 : decode cX4_takePerson 86 = .ok (.return_, 1) := by decide +kernel
set_option maxRecDepth 20000 in
theorem ggX4_loseHousehold_X4_fail_1 : GoodIn wsX4_loseHousehold wsX4_fail_r1 := goodIn_r _ [8, 9, 10, 11, 1, 12, 13, 14, 15, 16, 17, 18, 19, 20, 21, 22, 23, 24, 25, 26, 27, 28, 29, 30] (by decide +kernel) (by decide +kernel)
set_option maxRecDepth 20000 in
theorem ggX4_loseHousehold_X4_fail_2 : GoodIn wsX4_loseHousehold wsX4_fail_r2 := goodIn_r _ [31, 32, 33, 34, 35, 36, 37, 38, 39, 40, 41, 42, 6, 43, 44, 45] (by decide +kernel) (by decide +kernel)
set_option maxRecDepth 20000 in
theorem ggX4_loseHousehold_X4_fail_3 : GoodIn wsX4_loseHousehold wsX40 := goodIn_r _ [46, 47, 48, 49, 50, 51, 52, 53, 54, 55, 56, 57, 58, 59, 60, 61, 62, 63, 64] (by decide +kernel) (by decide +kernel)
set_option maxRecDepth 20000 in
theorem ggX4_loseHousehold_X4_fail_4 : GoodIn wsX4_loseHousehold wsX20 := goodIn_r _ [65, 66, 67, 68, 69, 70, 71, 72, 73, 74, 75, 76, 77] (by decide +kernel) (by decide +kernel)
set_option maxRecDepth 20000 in
theorem ggX4_loseHousehold_X4_fail_5 : GoodIn wsX4_loseHousehold wsX50 := goodIn_r _ [78, 79] (by decide +kernel) (by decide +kernel)
set_option maxRecDepth 20000 in
theorem ggX4_loseHousehold_X4_fail_6 : GoodIn wsX4_loseHousehold wsX10 := goodIn_r _ [80, 81, 82, 83, 84] (by decide +kernel) (by decide +kernel)
set_option maxRecDepth 20000 in
theorem ggX4_loseHousehold_X4_fail_0 : GoodIn wsX4_loseHousehold [.code yX4_fail cX4_fail 6 (some .int)] := goodIn_r _ [7] (by decide +kernel) (by decide +kernel)
theorem ggX4_loseHousehold_X4_fail : GoodIn wsX4_loseHousehold wsX4_fail := goodIn_k ggX4_loseHousehold_X4_fail_0 (goodIn_app (goodIn_app (goodIn_app (goodIn_app (goodIn_app ggX4_loseHousehold_X4_fail_1 ggX4_loseHousehold_X4_fail_2) ggX4_loseHousehold_X4_fail_3) ggX4_loseHousehold_X4_fail_4) ggX4_loseHousehold_X4_fail_5) ggX4_loseHousehold_X4_fail_6)
set_option maxRecDepth 20000 in
theorem gX4_loseHousehold_X4_fail : GoodIn wsX4_loseHousehold (wsV RX4 152 RX4 yX4_fail wsX4_fail) := goodIn_app (goodIn_of _ (by decide +kernel)) ggX4_loseHousehold_X4_fail
theorem dX4_loseHousehold_0 : decode cX4_loseHousehold 0 = .ok (.iload_n 1, 1) := by decide +kernel
theorem dX4_loseHousehold_1 : decode cX4_loseHousehold 1 = .ok (.iconst (-1), 1) := by decide +kernel
theorem dX4_loseHousehold_2 : decode cX4_loseHousehold 2 = .ok (.if_icmp .ne 4, 3) := by decide +kernel
theorem dX4_loseHousehold_5 : decode cX4_loseHousehold 5 = .ok (.return_, 1) := by decide +kernel
theorem dX4_loseHousehold_6 : decode cX4_loseHousehold 6 = .ok (.aload_n 0, 1) := by decide +kernel
theorem dX4_loseHousehold_7 : decode cX4_loseHousehold 7 = .ok (.getfield 28, 3) := by decide +kernel
theorem dX4_loseHousehold_10 : decode cX4_loseHousehold 10 = .ok (.iconst 1, 1) := by decide +kernel
theorem dX4_loseHousehold_11 : decode cX4_loseHousehold 11 = .ok (.putfield 135, 3) := by decide +kernel
theorem dX4_loseHousehold_14 : decode cX4_loseHousehold 14 = .ok (.aload_n 0, 1) := by decide +kernel
theorem dX4_loseHousehold_15 : decode cX4_loseHousehold 15 = .ok (.dup, 1) := by decide +kernel
theorem dX4_loseHousehold_16 : decode cX4_loseHousehold 16 = .ok (.getfield 59, 3) := by decide +kernel
theorem dX4_loseHousehold_19 : decode cX4_loseHousehold 19 = .ok (.iconst 1, 1) := by decide +kernel
theorem dX4_loseHousehold_20 : decode cX4_loseHousehold 20 = .ok (.iadd, 1) := by decide +kernel
theorem dX4_loseHousehold_21 : decode cX4_loseHousehold 21 = .ok (.putfield 59, 3) := by decide +kernel
theorem dX4_loseHousehold_24 : decode cX4_loseHousehold 24 = .ok (.iload_n 1, 1) := by decide +kernel
theorem dX4_loseHousehold_25 : decode cX4_loseHousehold 25 = .ok (.ifCond .lt 18, 3) := by decide +kernel
theorem dX4_loseHousehold_28 : decode cX4_loseHousehold 28 = .ok (.aload_n 0, 1) := by decide +kernel
theorem dX4_loseHousehold_29 : decode cX4_loseHousehold 29 = .ok (.bipush 21, 2) := by decide +kernel
theorem dX4_loseHousehold_31 : decode cX4_loseHousehold 31 = .ok (.aload_n 0, 1) := by decide +kernel
theorem dX4_loseHousehold_32 : decode cX4_loseHousehold 32 = .ok (.getfield 28, 3) := by decide +kernel
theorem dX4_loseHousehold_35 : decode cX4_loseHousehold 35 = .ok (.getfield 239, 3) := by decide +kernel
theorem dX4_loseHousehold_38 : decode cX4_loseHousehold 38 = .ok (.iload_n 1, 1) := by decide +kernel
theorem dX4_loseHousehold_39 : decode cX4_loseHousehold 39 = .ok (.invokevirtual 152, 3) := by decide +kernel
theorem dX4_loseHousehold_42 : decode cX4_loseHousehold 42 = .ok (.pop, 1) := by decide +kernel
theorem dX4_loseHousehold_43 : decode cX4_loseHousehold 43 = .ok (.return_, 1) := by decide +kernel
set_option maxRecDepth 20000 in
theorem ggX4_settleOutside_X4_fail_1 : GoodIn wsX4_settleOutside wsX4_fail_r1 := goodIn_r _ [9, 10, 11, 12, 13, 14, 15, 16, 17, 18, 19, 20, 21, 22, 23, 24, 25, 26, 27, 28, 29, 30, 31, 32] (by decide +kernel) (by decide +kernel)
set_option maxRecDepth 20000 in
theorem ggX4_settleOutside_X4_fail_2 : GoodIn wsX4_settleOutside wsX4_fail_r2 := goodIn_r _ [33, 34, 35, 36, 37, 38, 39, 40, 41, 42, 43, 44, 7, 45, 46, 47] (by decide +kernel) (by decide +kernel)
set_option maxRecDepth 20000 in
theorem ggX4_settleOutside_X4_fail_3 : GoodIn wsX4_settleOutside wsX40 := goodIn_r _ [48, 49, 50, 51, 52, 53, 54, 55, 56, 57, 58, 59, 60, 61, 62, 63, 64, 65, 66] (by decide +kernel) (by decide +kernel)
set_option maxRecDepth 20000 in
theorem ggX4_settleOutside_X4_fail_4 : GoodIn wsX4_settleOutside wsX20 := goodIn_r _ [74, 75, 76, 77, 78, 79, 80, 81, 82, 83, 84, 85, 86] (by decide +kernel) (by decide +kernel)
set_option maxRecDepth 20000 in
theorem ggX4_settleOutside_X4_fail_5 : GoodIn wsX4_settleOutside wsX50 := goodIn_r _ [87, 88] (by decide +kernel) (by decide +kernel)
set_option maxRecDepth 20000 in
theorem ggX4_settleOutside_X4_fail_6 : GoodIn wsX4_settleOutside wsX10 := goodIn_r _ [89, 90, 91, 92, 93] (by decide +kernel) (by decide +kernel)
set_option maxRecDepth 20000 in
theorem ggX4_settleOutside_X4_fail_0 : GoodIn wsX4_settleOutside [.code yX4_fail cX4_fail 6 (some .int)] := goodIn_r _ [8] (by decide +kernel) (by decide +kernel)
theorem ggX4_settleOutside_X4_fail : GoodIn wsX4_settleOutside wsX4_fail := goodIn_k ggX4_settleOutside_X4_fail_0 (goodIn_app (goodIn_app (goodIn_app (goodIn_app (goodIn_app ggX4_settleOutside_X4_fail_1 ggX4_settleOutside_X4_fail_2) ggX4_settleOutside_X4_fail_3) ggX4_settleOutside_X4_fail_4) ggX4_settleOutside_X4_fail_5) ggX4_settleOutside_X4_fail_6)
set_option maxRecDepth 20000 in
theorem gX4_settleOutside_X4_fail : GoodIn wsX4_settleOutside (wsV RX4 152 RX4 yX4_fail wsX4_fail) := goodIn_app (goodIn_of _ (by decide +kernel)) ggX4_settleOutside_X4_fail
theorem dX4_settleOutside_0 : decode cX4_settleOutside 0 = .ok (.iload_n 1, 1) := by decide +kernel
theorem dX4_settleOutside_1 : decode cX4_settleOutside 1 = .ok (.ifCond .lt 18, 3) := by decide +kernel
theorem dX4_settleOutside_4 : decode cX4_settleOutside 4 = .ok (.aload_n 0, 1) := by decide +kernel
theorem dX4_settleOutside_5 : decode cX4_settleOutside 5 = .ok (.bipush 21, 2) := by decide +kernel
theorem dX4_settleOutside_7 : decode cX4_settleOutside 7 = .ok (.aload_n 0, 1) := by decide +kernel
theorem dX4_settleOutside_8 : decode cX4_settleOutside 8 = .ok (.getfield 12, 3) := by decide +kernel
theorem dX4_settleOutside_11 : decode cX4_settleOutside 11 = .ok (.getfield 124, 3) := by decide +kernel
theorem dX4_settleOutside_14 : decode cX4_settleOutside 14 = .ok (.iload_n 1, 1) := by decide +kernel
theorem dX4_settleOutside_15 : decode cX4_settleOutside 15 = .ok (.invokevirtual 152, 3) := by decide +kernel
theorem dX4_settleOutside_18 : decode cX4_settleOutside 18 = .ok (.pop, 1) := by decide +kernel
theorem dX4_settleOutside_19 : decode cX4_settleOutside 19 = .ok (.iload_n 1, 1) := by decide +kernel
theorem dX4_settleOutside_20 : decode cX4_settleOutside 20 = .ok (.iconst (-1), 1) := by decide +kernel
theorem dX4_settleOutside_21 : decode cX4_settleOutside 21 = .ok (.if_icmp .eq 4, 3) := by decide +kernel
theorem dX4_settleOutside_24 : decode cX4_settleOutside 24 = .ok (.return_, 1) := by decide +kernel
theorem dX4_settleOutside_25 : decode cX4_settleOutside 25 = .ok (.aload_n 0, 1) := by decide +kernel
theorem dX4_settleOutside_26 : decode cX4_settleOutside 26 = .ok (.getfield 32, 3) := by decide +kernel
theorem dX4_settleOutside_29 : decode cX4_settleOutside 29 = .ok (.iconst 1, 1) := by decide +kernel
theorem dX4_settleOutside_30 : decode cX4_settleOutside 30 = .ok (.iaload, 1) := by decide +kernel
theorem dX4_settleOutside_31 : decode cX4_settleOutside 31 = .ok (.iconst (-1), 1) := by decide +kernel
theorem dX4_settleOutside_32 : decode cX4_settleOutside 32 = .ok (.if_icmp .eq 31, 3) := by decide +kernel
theorem dX4_settleOutside_35 : decode cX4_settleOutside 35 = .ok (.aload_n 0, 1) := by decide +kernel
theorem dX4_settleOutside_36 : decode cX4_settleOutside 36 = .ok (.getfield 32, 3) := by decide +kernel
theorem dX4_settleOutside_39 : decode cX4_settleOutside 39 = .ok (.iconst 1, 1) := by decide +kernel
theorem dX4_settleOutside_40 : decode cX4_settleOutside 40 = .ok (.iaload, 1) := by decide +kernel
theorem dX4_settleOutside_41 : decode cX4_settleOutside 41 = .ok (.aload_n 0, 1) := by decide +kernel
theorem dX4_settleOutside_42 : decode cX4_settleOutside 42 = .ok (.getfield 56, 3) := by decide +kernel
theorem dX4_settleOutside_45 : decode cX4_settleOutside 45 = .ok (.if_icmp .eq 18, 3) := by decide +kernel
theorem dX4_settleOutside_48 : decode cX4_settleOutside 48 = .ok (.aload_n 0, 1) := by decide +kernel
theorem dX4_settleOutside_49 : decode cX4_settleOutside 49 = .ok (.bipush 20, 2) := by decide +kernel
theorem dX4_settleOutside_51 : decode cX4_settleOutside 51 = .ok (.aload_n 0, 1) := by decide +kernel
theorem dX4_settleOutside_52 : decode cX4_settleOutside 52 = .ok (.getfield 12, 3) := by decide +kernel
theorem dX4_settleOutside_55 : decode cX4_settleOutside 55 = .ok (.getfield 124, 3) := by decide +kernel
theorem dX4_settleOutside_58 : decode cX4_settleOutside 58 = .ok (.iconst (-1), 1) := by decide +kernel
theorem dX4_settleOutside_59 : decode cX4_settleOutside 59 = .ok (.invokevirtual 152, 3) := by decide +kernel
theorem dX4_settleOutside_62 : decode cX4_settleOutside 62 = .ok (.pop, 1) := by decide +kernel
theorem dX4_settleOutside_63 : decode cX4_settleOutside 63 = .ok (.return_, 1) := by decide +kernel
set_option maxRecDepth 20000 in
theorem ggX4_closeHousehold_X4_askOfHousehold_1 : GoodIn wsX4_closeHousehold wsX4_askOfHousehold_r1 := goodIn_r _ [1, 9, 10, 11, 12, 7, 13, 14, 15, 16, 17, 18, 19, 20, 21, 22, 23, 24, 25, 26, 27, 28, 29, 30] (by decide +kernel) (by decide +kernel)
set_option maxRecDepth 20000 in
theorem ggX4_closeHousehold_X4_askOfHousehold_2 : GoodIn wsX4_closeHousehold wsX4_askOfHousehold_r2 := goodIn_r _ [31, 32, 33, 34, 35, 36, 37, 38, 39, 40, 41, 42, 43, 44, 45, 46, 47, 48, 49, 3, 2, 50, 51, 52] (by decide +kernel) (by decide +kernel)
set_option maxRecDepth 20000 in
theorem ggX4_closeHousehold_X4_askOfHousehold_3 : GoodIn wsX4_closeHousehold wsX4_askOfHousehold_r3 := goodIn_r _ [53, 54] (by decide +kernel) (by decide +kernel)
set_option maxRecDepth 20000 in
theorem ggX4_closeHousehold_X4_askOfHousehold_4 : GoodIn wsX4_closeHousehold wsX40 := goodIn_r _ [84, 85, 86, 87, 88, 89, 90, 91, 92, 93, 94, 95, 96, 97, 98, 99, 100, 101, 102] (by decide +kernel) (by decide +kernel)
set_option maxRecDepth 20000 in
theorem ggX4_closeHousehold_X4_askOfHousehold_5 : GoodIn wsX4_closeHousehold wsX20 := goodIn_r _ [103, 104, 105, 106, 107, 108, 109, 110, 111, 112, 113, 114, 115] (by decide +kernel) (by decide +kernel)
set_option maxRecDepth 20000 in
theorem ggX4_closeHousehold_X4_askOfHousehold_6 : GoodIn wsX4_closeHousehold wsX50 := goodIn_r _ [116, 117] (by decide +kernel) (by decide +kernel)
set_option maxRecDepth 20000 in
theorem ggX4_closeHousehold_X4_askOfHousehold_7 : GoodIn wsX4_closeHousehold wsX10 := goodIn_r _ [118, 119, 120, 121, 122] (by decide +kernel) (by decide +kernel)
set_option maxRecDepth 20000 in
theorem ggX4_closeHousehold_X4_askOfHousehold_0 : GoodIn wsX4_closeHousehold [.code yX4_askOfHousehold cX4_askOfHousehold 4 none] := goodIn_r _ [8] (by decide +kernel) (by decide +kernel)
theorem ggX4_closeHousehold_X4_askOfHousehold : GoodIn wsX4_closeHousehold wsX4_askOfHousehold := goodIn_k ggX4_closeHousehold_X4_askOfHousehold_0 (goodIn_app (goodIn_app (goodIn_app (goodIn_app (goodIn_app ggX4_closeHousehold_X4_askOfHousehold_1 (goodIn_app ggX4_closeHousehold_X4_askOfHousehold_2 ggX4_closeHousehold_X4_askOfHousehold_3)) ggX4_closeHousehold_X4_askOfHousehold_4) ggX4_closeHousehold_X4_askOfHousehold_5) ggX4_closeHousehold_X4_askOfHousehold_6) ggX4_closeHousehold_X4_askOfHousehold_7)
set_option maxRecDepth 20000 in
theorem gX4_closeHousehold_X4_askOfHousehold : GoodIn wsX4_closeHousehold (wsV RX4 240 RX4 yX4_askOfHousehold wsX4_askOfHousehold) := goodIn_app (goodIn_of _ (by decide +kernel)) ggX4_closeHousehold_X4_askOfHousehold
set_option maxRecDepth 20000 in
theorem ggX4_closeHousehold_X4_takeHousehold : GoodIn wsX4_closeHousehold wsX4_takeHousehold := goodIn_r _ [58, 59, 1, 60, 61, 9, 62, 63, 64, 65, 66, 67, 68, 69, 70, 71, 72, 73, 74, 75, 76, 77, 78, 79, 80, 81, 82, 83, 84, 85, 86, 87, 88, 89, 90, 91, 92, 93, 94, 95, 96, 97, 98, 99, 100, 101, 102, 103, 104, 105, 106, 107, 108, 109, 110, 111, 112, 113, 114, 115, 123, 124, 125, 126, 127, 128, 129, 130, 131, 132] (by decide +kernel) (by decide +kernel)
set_option maxRecDepth 20000 in
theorem gX4_closeHousehold_X4_takeHousehold : GoodIn wsX4_closeHousehold (wsV RX4 243 RX4 yX4_takeHousehold wsX4_takeHousehold) := goodIn_app (goodIn_of _ (by decide +kernel)) ggX4_closeHousehold_X4_takeHousehold
theorem dX4_closeHousehold_0 : decode cX4_closeHousehold 0 = .ok (.aload_n 0, 1) := by decide +kernel
theorem dX4_closeHousehold_1 : decode cX4_closeHousehold 1 = .ok (.getfield 28, 3) := by decide +kernel
theorem dX4_closeHousehold_4 : decode cX4_closeHousehold 4 = .ok (.getfield 135, 3) := by decide +kernel
theorem dX4_closeHousehold_7 : decode cX4_closeHousehold 7 = .ok (.ifCond .ne 7, 3) := by decide +kernel
theorem dX4_closeHousehold_10 : decode cX4_closeHousehold 10 = .ok (.aload_n 0, 1) := by decide +kernel
theorem dX4_closeHousehold_11 : decode cX4_closeHousehold 11 = .ok (.invokevirtual 240, 3) := by decide +kernel
theorem dX4_closeHousehold_14 : decode cX4_closeHousehold 14 = .ok (.aload_n 0, 1) := by decide +kernel
theorem dX4_closeHousehold_15 : decode cX4_closeHousehold 15 = .ok (.getfield 28, 3) := by decide +kernel
theorem dX4_closeHousehold_18 : decode cX4_closeHousehold 18 = .ok (.getfield 135, 3) := by decide +kernel
theorem dX4_closeHousehold_21 : decode cX4_closeHousehold 21 = .ok (.ifCond .ne 7, 3) := by decide +kernel
theorem dX4_closeHousehold_24 : decode cX4_closeHousehold 24 = .ok (.aload_n 0, 1) := by decide +kernel
theorem dX4_closeHousehold_25 : decode cX4_closeHousehold 25 = .ok (.invokevirtual 243, 3) := by decide +kernel
theorem dX4_closeHousehold_28 : decode cX4_closeHousehold 28 = .ok (.aload_n 0, 1) := by decide +kernel
theorem dX4_closeHousehold_29 : decode cX4_closeHousehold 29 = .ok (.getfield 28, 3) := by decide +kernel
theorem dX4_closeHousehold_32 : decode cX4_closeHousehold 32 = .ok (.iconst 0, 1) := by decide +kernel
theorem dX4_closeHousehold_33 : decode cX4_closeHousehold 33 = .ok (.putfield 81, 3) := by decide +kernel
theorem dX4_closeHousehold_36 : decode cX4_closeHousehold 36 = .ok (.aload_n 0, 1) := by decide +kernel
theorem dX4_closeHousehold_37 : decode cX4_closeHousehold 37 = .ok (.getfield 78, 3) := by decide +kernel
theorem dX4_closeHousehold_40 : decode cX4_closeHousehold 40 = .ok (.ifCond .eq 8, 3) := by decide +kernel
theorem dX4_closeHousehold_43 : decode cX4_closeHousehold 43 = .ok (.aload_n 0, 1) := by decide +kernel
theorem dX4_closeHousehold_44 : decode cX4_closeHousehold 44 = .ok (.iconst 1, 1) := by decide +kernel
theorem dX4_closeHousehold_45 : decode cX4_closeHousehold 45 = .ok (.putfield 75, 3) := by decide +kernel
theorem dX4_closeHousehold_48 : decode cX4_closeHousehold 48 = .ok (.aload_n 0, 1) := by decide +kernel
theorem dX4_closeHousehold_49 : decode cX4_closeHousehold 49 = .ok (.iconst 0, 1) := by decide +kernel
theorem dX4_closeHousehold_50 : decode cX4_closeHousehold 50 = .ok (.putfield 78, 3) := by decide +kernel
theorem dX4_closeHousehold_53 : decode cX4_closeHousehold 53 = .ok (.return_, 1) := by decide +kernel
set_option maxRecDepth 20000 in
theorem ggX4_askOfHousehold_X4_fail_1 : GoodIn wsX4_askOfHousehold wsX4_fail_r1 := goodIn_r _ [8, 9, 10, 11, 1, 12, 13, 14, 15, 16, 17, 18, 19, 20, 21, 22, 23, 24, 25, 26, 27, 28, 29, 30] (by decide +kernel) (by decide +kernel)
set_option maxRecDepth 20000 in
theorem ggX4_askOfHousehold_X4_fail_2 : GoodIn wsX4_askOfHousehold wsX4_fail_r2 := goodIn_r _ [31, 32, 33, 34, 35, 36, 37, 38, 39, 40, 41, 42, 6, 43, 44, 45] (by decide +kernel) (by decide +kernel)
set_option maxRecDepth 20000 in
theorem ggX4_askOfHousehold_X4_fail_3 : GoodIn wsX4_askOfHousehold wsX40 := goodIn_r _ [51, 52, 53, 54, 55, 56, 57, 58, 59, 60, 61, 62, 63, 64, 65, 66, 67, 68, 69] (by decide +kernel) (by decide +kernel)
set_option maxRecDepth 20000 in
theorem ggX4_askOfHousehold_X4_fail_4 : GoodIn wsX4_askOfHousehold wsX20 := goodIn_r _ [70, 71, 72, 73, 74, 75, 76, 77, 78, 79, 80, 81, 82] (by decide +kernel) (by decide +kernel)
set_option maxRecDepth 20000 in
theorem ggX4_askOfHousehold_X4_fail_5 : GoodIn wsX4_askOfHousehold wsX50 := goodIn_r _ [83, 84] (by decide +kernel) (by decide +kernel)
set_option maxRecDepth 20000 in
theorem ggX4_askOfHousehold_X4_fail_6 : GoodIn wsX4_askOfHousehold wsX10 := goodIn_r _ [85, 86, 87, 88, 89] (by decide +kernel) (by decide +kernel)
set_option maxRecDepth 20000 in
theorem ggX4_askOfHousehold_X4_fail_0 : GoodIn wsX4_askOfHousehold [.code yX4_fail cX4_fail 6 (some .int)] := goodIn_r _ [7] (by decide +kernel) (by decide +kernel)
theorem ggX4_askOfHousehold_X4_fail : GoodIn wsX4_askOfHousehold wsX4_fail := goodIn_k ggX4_askOfHousehold_X4_fail_0 (goodIn_app (goodIn_app (goodIn_app (goodIn_app (goodIn_app ggX4_askOfHousehold_X4_fail_1 ggX4_askOfHousehold_X4_fail_2) ggX4_askOfHousehold_X4_fail_3) ggX4_askOfHousehold_X4_fail_4) ggX4_askOfHousehold_X4_fail_5) ggX4_askOfHousehold_X4_fail_6)
set_option maxRecDepth 20000 in
theorem gX4_askOfHousehold_X4_fail : GoodIn wsX4_askOfHousehold (wsV RX4 152 RX4 yX4_fail wsX4_fail) := goodIn_app (goodIn_of _ (by decide +kernel)) ggX4_askOfHousehold_X4_fail
set_option maxRecDepth 20000 in
theorem ggX4_askOfHousehold_X4_loseHousehold_1 : GoodIn wsX4_askOfHousehold wsX4_loseHousehold_r1 := goodIn_r _ [1, 50, 3, 4, 5, 6, 7, 8, 9, 10, 11, 12, 13, 14, 15, 16, 17, 18, 19, 20, 21, 22, 23, 24] (by decide +kernel) (by decide +kernel)
set_option maxRecDepth 20000 in
theorem ggX4_askOfHousehold_X4_loseHousehold_2 : GoodIn wsX4_askOfHousehold wsX4_loseHousehold_r2 := goodIn_r _ [25, 26, 27, 28, 29, 30, 31, 32, 33, 34, 35, 36, 37, 38, 39, 40, 41, 42, 43, 44, 45] (by decide +kernel) (by decide +kernel)
set_option maxRecDepth 20000 in
theorem ggX4_askOfHousehold_X4_loseHousehold_3 : GoodIn wsX4_askOfHousehold wsX40 := goodIn_r _ [51, 52, 53, 54, 55, 56, 57, 58, 59, 60, 61, 62, 63, 64, 65, 66, 67, 68, 69] (by decide +kernel) (by decide +kernel)
set_option maxRecDepth 20000 in
theorem ggX4_askOfHousehold_X4_loseHousehold_4 : GoodIn wsX4_askOfHousehold wsX20 := goodIn_r _ [70, 71, 72, 73, 74, 75, 76, 77, 78, 79, 80, 81, 82] (by decide +kernel) (by decide +kernel)
set_option maxRecDepth 20000 in
theorem ggX4_askOfHousehold_X4_loseHousehold_5 : GoodIn wsX4_askOfHousehold wsX50 := goodIn_r _ [83, 84] (by decide +kernel) (by decide +kernel)
set_option maxRecDepth 20000 in
theorem ggX4_askOfHousehold_X4_loseHousehold_6 : GoodIn wsX4_askOfHousehold wsX10 := goodIn_r _ [85, 86, 87, 88, 89] (by decide +kernel) (by decide +kernel)
set_option maxRecDepth 20000 in
theorem ggX4_askOfHousehold_X4_loseHousehold_0 : GoodIn wsX4_askOfHousehold [.code yX4_loseHousehold cX4_loseHousehold 2 none] := goodIn_r _ [49] (by decide +kernel) (by decide +kernel)
theorem ggX4_askOfHousehold_X4_loseHousehold : GoodIn wsX4_askOfHousehold wsX4_loseHousehold := goodIn_k ggX4_askOfHousehold_X4_loseHousehold_0 (goodIn_app (goodIn_app (goodIn_app (goodIn_app (goodIn_app ggX4_askOfHousehold_X4_loseHousehold_1 ggX4_askOfHousehold_X4_loseHousehold_2) ggX4_askOfHousehold_X4_loseHousehold_3) ggX4_askOfHousehold_X4_loseHousehold_4) ggX4_askOfHousehold_X4_loseHousehold_5) ggX4_askOfHousehold_X4_loseHousehold_6)
set_option maxRecDepth 20000 in
theorem gX4_askOfHousehold_X4_loseHousehold : GoodIn wsX4_askOfHousehold (wsV RX4 219 RX4 yX4_loseHousehold wsX4_loseHousehold) := goodIn_app (goodIn_of _ (by decide +kernel)) ggX4_askOfHousehold_X4_loseHousehold
theorem dX4_askOfHousehold_0 : decode cX4_askOfHousehold 0 = .ok (.aload_n 0, 1) := by decide +kernel
theorem dX4_askOfHousehold_1 : decode cX4_askOfHousehold 1 = .ok (.getfield 28, 3) := by decide +kernel
theorem dX4_askOfHousehold_4 : decode cX4_askOfHousehold 4 = .ok (.getfield 239, 3) := by decide +kernel
theorem dX4_askOfHousehold_7 : decode cX4_askOfHousehold 7 = .ok (.istore_n 1, 1) := by decide +kernel
theorem dX4_askOfHousehold_8 : decode cX4_askOfHousehold 8 = .ok (.aload_n 0, 1) := by decide +kernel
theorem dX4_askOfHousehold_9 : decode cX4_askOfHousehold 9 = .ok (.getfield 28, 3) := by decide +kernel
theorem dX4_askOfHousehold_12 : decode cX4_askOfHousehold 12 = .ok (.getfield 223, 3) := by decide +kernel
theorem dX4_askOfHousehold_15 : decode cX4_askOfHousehold 15 = .ok (.istore_n 2, 1) := by decide +kernel
theorem dX4_askOfHousehold_16 : decode cX4_askOfHousehold 16 = .ok (.aload_n 0, 1) := by decide +kernel
theorem dX4_askOfHousehold_17 : decode cX4_askOfHousehold 17 = .ok (.getfield 28, 3) := by decide +kernel
theorem dX4_askOfHousehold_20 : decode cX4_askOfHousehold 20 = .ok (.getfield 246, 3) := by decide +kernel
theorem dX4_askOfHousehold_23 : decode cX4_askOfHousehold 23 = .ok (.ifCond .ne 15, 3) := by decide +kernel
theorem dX4_askOfHousehold_26 : decode cX4_askOfHousehold 26 = .ok (.aload_n 0, 1) := by decide +kernel
theorem dX4_askOfHousehold_27 : decode cX4_askOfHousehold 27 = .ok (.aload_n 0, 1) := by decide +kernel
theorem dX4_askOfHousehold_28 : decode cX4_askOfHousehold 28 = .ok (.bipush 14, 2) := by decide +kernel
theorem dX4_askOfHousehold_30 : decode cX4_askOfHousehold 30 = .ok (.iload_n 1, 1) := by decide +kernel
theorem dX4_askOfHousehold_31 : decode cX4_askOfHousehold 31 = .ok (.iconst (-1), 1) := by decide +kernel
theorem dX4_askOfHousehold_32 : decode cX4_askOfHousehold 32 = .ok (.invokevirtual 152, 3) := by decide +kernel
theorem dX4_askOfHousehold_35 : decode cX4_askOfHousehold 35 = .ok (.invokevirtual 219, 3) := by decide +kernel
theorem dX4_askOfHousehold_38 : decode cX4_askOfHousehold 38 = .ok (.aload_n 0, 1) := by decide +kernel
theorem dX4_askOfHousehold_39 : decode cX4_askOfHousehold 39 = .ok (.getfield 28, 3) := by decide +kernel
theorem dX4_askOfHousehold_42 : decode cX4_askOfHousehold 42 = .ok (.getfield 135, 3) := by decide +kernel
theorem dX4_askOfHousehold_45 : decode cX4_askOfHousehold 45 = .ok (.ifCond .eq 4, 3) := by decide +kernel
theorem dX4_askOfHousehold_48 : decode cX4_askOfHousehold 48 = .ok (.return_, 1) := by decide +kernel
theorem dX4_askOfHousehold_49 : decode cX4_askOfHousehold 49 = .ok (.iload_n 2, 1) := by decide +kernel
theorem dX4_askOfHousehold_50 : decode cX4_askOfHousehold 50 = .ok (.iconst (-1), 1) := by decide +kernel
theorem dX4_askOfHousehold_51 : decode cX4_askOfHousehold 51 = .ok (.if_icmp .eq 26, 3) := by decide +kernel
theorem dX4_askOfHousehold_54 : decode cX4_askOfHousehold 54 = .ok (.iload_n 2, 1) := by decide +kernel
theorem dX4_askOfHousehold_55 : decode cX4_askOfHousehold 55 = .ok (.aload_n 0, 1) := by decide +kernel
theorem dX4_askOfHousehold_56 : decode cX4_askOfHousehold 56 = .ok (.getfield 28, 3) := by decide +kernel
theorem dX4_askOfHousehold_59 : decode cX4_askOfHousehold 59 = .ok (.getfield 246, 3) := by decide +kernel
theorem dX4_askOfHousehold_62 : decode cX4_askOfHousehold 62 = .ok (.if_icmp .eq 15, 3) := by decide +kernel
theorem dX4_askOfHousehold_65 : decode cX4_askOfHousehold 65 = .ok (.aload_n 0, 1) := by decide +kernel
theorem dX4_askOfHousehold_66 : decode cX4_askOfHousehold 66 = .ok (.aload_n 0, 1) := by decide +kernel
theorem dX4_askOfHousehold_67 : decode cX4_askOfHousehold 67 = .ok (.bipush 15, 2) := by decide +kernel
theorem dX4_askOfHousehold_69 : decode cX4_askOfHousehold 69 = .ok (.iload_n 1, 1) := by decide +kernel
theorem dX4_askOfHousehold_70 : decode cX4_askOfHousehold 70 = .ok (.iconst (-1), 1) := by decide +kernel
theorem dX4_askOfHousehold_71 : decode cX4_askOfHousehold 71 = .ok (.invokevirtual 152, 3) := by decide +kernel
theorem dX4_askOfHousehold_74 : decode cX4_askOfHousehold 74 = .ok (.invokevirtual 219, 3) := by decide +kernel
theorem dX4_askOfHousehold_77 : decode cX4_askOfHousehold 77 = .ok (.aload_n 0, 1) := by decide +kernel
theorem dX4_askOfHousehold_78 : decode cX4_askOfHousehold 78 = .ok (.getfield 28, 3) := by decide +kernel
theorem dX4_askOfHousehold_81 : decode cX4_askOfHousehold 81 = .ok (.getfield 135, 3) := by decide +kernel
theorem dX4_askOfHousehold_84 : decode cX4_askOfHousehold 84 = .ok (.ifCond .eq 4, 3) := by decide +kernel
theorem dX4_askOfHousehold_87 : decode cX4_askOfHousehold 87 = .ok (.return_, 1) := by decide +kernel
theorem dX4_askOfHousehold_88 : decode cX4_askOfHousehold 88 = .ok (.aload_n 0, 1) := by decide +kernel
theorem dX4_askOfHousehold_89 : decode cX4_askOfHousehold 89 = .ok (.getfield 28, 3) := by decide +kernel
theorem dX4_askOfHousehold_92 : decode cX4_askOfHousehold 92 = .ok (.getfield 222, 3) := by decide +kernel
theorem dX4_askOfHousehold_95 : decode cX4_askOfHousehold 95 = .ok (.iconst (-1), 1) := by decide +kernel
theorem dX4_askOfHousehold_96 : decode cX4_askOfHousehold 96 = .ok (.if_icmp .eq 15, 3) := by decide +kernel
theorem dX4_askOfHousehold_99 : decode cX4_askOfHousehold 99 = .ok (.aload_n 0, 1) := by decide +kernel
theorem dX4_askOfHousehold_100 : decode cX4_askOfHousehold 100 = .ok (.getfield 68, 3) := by decide +kernel
theorem dX4_askOfHousehold_103 : decode cX4_askOfHousehold 103 = .ok (.iconst (-1), 1) := by decide +kernel
theorem dX4_askOfHousehold_104 : decode cX4_askOfHousehold 104 = .ok (.if_icmp .eq 7, 3) := by decide +kernel
theorem dX4_askOfHousehold_107 : decode cX4_askOfHousehold 107 = .ok (.iconst 1, 1) := by decide +kernel
theorem dX4_askOfHousehold_108 : decode cX4_askOfHousehold 108 = .ok (.goto 4, 3) := by decide +kernel
theorem dX4_askOfHousehold_111 : decode cX4_askOfHousehold 111 = .ok (.iconst 0, 1) := by decide +kernel
theorem dX4_askOfHousehold_112 : decode cX4_askOfHousehold 112 = .ok (.istore_n 3, 1) := by decide +kernel
theorem dX4_askOfHousehold_113 : decode cX4_askOfHousehold 113 = .ok (.iload_n 3, 1) := by decide +kernel
theorem dX4_askOfHousehold_114 : decode cX4_askOfHousehold 114 = .ok (.ifCond .eq 29, 3) := by decide +kernel
theorem dX4_askOfHousehold_117 : decode cX4_askOfHousehold 117 = .ok (.aload_n 0, 1) := by decide +kernel
theorem dX4_askOfHousehold_118 : decode cX4_askOfHousehold 118 = .ok (.getfield 28, 3) := by decide +kernel
theorem dX4_askOfHousehold_121 : decode cX4_askOfHousehold 121 = .ok (.getfield 222, 3) := by decide +kernel
theorem dX4_askOfHousehold_124 : decode cX4_askOfHousehold 124 = .ok (.aload_n 0, 1) := by decide +kernel
theorem dX4_askOfHousehold_125 : decode cX4_askOfHousehold 125 = .ok (.getfield 68, 3) := by decide +kernel
theorem dX4_askOfHousehold_128 : decode cX4_askOfHousehold 128 = .ok (.if_icmp .gt 15, 3) := by decide +kernel
theorem dX4_askOfHousehold_131 : decode cX4_askOfHousehold 131 = .ok (.aload_n 0, 1) := by decide +kernel
theorem dX4_askOfHousehold_132 : decode cX4_askOfHousehold 132 = .ok (.aload_n 0, 1) := by decide +kernel
theorem dX4_askOfHousehold_133 : decode cX4_askOfHousehold 133 = .ok (.bipush 16, 2) := by decide +kernel
theorem dX4_askOfHousehold_135 : decode cX4_askOfHousehold 135 = .ok (.iload_n 1, 1) := by decide +kernel
theorem dX4_askOfHousehold_136 : decode cX4_askOfHousehold 136 = .ok (.iconst (-1), 1) := by decide +kernel
theorem dX4_askOfHousehold_137 : decode cX4_askOfHousehold 137 = .ok (.invokevirtual 152, 3) := by decide +kernel
theorem dX4_askOfHousehold_140 : decode cX4_askOfHousehold 140 = .ok (.invokevirtual 219, 3) := by decide +kernel
theorem dX4_askOfHousehold_143 : decode cX4_askOfHousehold 143 = .ok (.return_, 1) := by decide +kernel
set_option maxRecDepth 20000 in
theorem ggX4_takeHousehold_X0_write : GoodIn wsX4_takeHousehold wsX0_write := goodIn_r _ [10, 11, 12, 13, 14, 15, 16, 9, 17, 18, 19, 20, 21, 22, 23, 24, 25, 26, 27, 60, 61, 62, 63, 64, 65, 66, 67, 68, 69, 47, 48, 49, 50, 51, 52, 53, 54, 55, 56, 57, 58, 59] (by decide +kernel) (by decide +kernel)
set_option maxRecDepth 20000 in
theorem gX4_takeHousehold_X0_write : GoodIn wsX4_takeHousehold (wsV RX4 249 RX0 yX0_write wsX0_write) := goodIn_app (goodIn_of _ (by decide +kernel)) ggX4_takeHousehold_X0_write
theorem dX4_takeHousehold_0 : decode cX4_takeHousehold 0 = .ok (.aload_n 0, 1) := by decide +kernel
theorem dX4_takeHousehold_1 : decode cX4_takeHousehold 1 = .ok (.getfield 48, 3) := by decide +kernel
theorem dX4_takeHousehold_4 : decode cX4_takeHousehold 4 = .ok (.aload_n 0, 1) := by decide +kernel
theorem dX4_takeHousehold_5 : decode cX4_takeHousehold 5 = .ok (.getfield 28, 3) := by decide +kernel
theorem dX4_takeHousehold_8 : decode cX4_takeHousehold 8 = .ok (.aload_n 0, 1) := by decide +kernel
theorem dX4_takeHousehold_9 : decode cX4_takeHousehold 9 = .ok (.getfield 56, 3) := by decide +kernel
theorem dX4_takeHousehold_12 : decode cX4_takeHousehold 12 = .ok (.aload_n 0, 1) := by decide +kernel
theorem dX4_takeHousehold_13 : decode cX4_takeHousehold 13 = .ok (.getfield 62, 3) := by decide +kernel
theorem dX4_takeHousehold_16 : decode cX4_takeHousehold 16 = .ok (.invokevirtual 249, 3) := by decide +kernel
theorem dX4_takeHousehold_19 : decode cX4_takeHousehold 19 = .ok (.aload_n 0, 1) := by decide +kernel
theorem dX4_takeHousehold_20 : decode cX4_takeHousehold 20 = .ok (.dup, 1) := by decide +kernel
theorem dX4_takeHousehold_21 : decode cX4_takeHousehold 21 = .ok (.getfield 56, 3) := by decide +kernel
theorem dX4_takeHousehold_24 : decode cX4_takeHousehold 24 = .ok (.iconst 1, 1) := by decide +kernel
theorem dX4_takeHousehold_25 : decode cX4_takeHousehold 25 = .ok (.iadd, 1) := by decide +kernel
theorem dX4_takeHousehold_26 : decode cX4_takeHousehold 26 = .ok (.putfield 56, 3) := by decide +kernel
theorem dX4_takeHousehold_29 : decode cX4_takeHousehold 29 = .ok (.aload_n 0, 1) := by decide +kernel
theorem dX4_takeHousehold_30 : decode cX4_takeHousehold 30 = .ok (.dup, 1) := by decide +kernel
theorem dX4_takeHousehold_31 : decode cX4_takeHousehold 31 = .ok (.getfield 62, 3) := by decide +kernel
theorem dX4_takeHousehold_34 : decode cX4_takeHousehold 34 = .ok (.aload_n 0, 1) := by decide +kernel
theorem dX4_takeHousehold_35 : decode cX4_takeHousehold 35 = .ok (.getfield 28, 3) := by decide +kernel
theorem dX4_takeHousehold_38 : decode cX4_takeHousehold 38 = .ok (.getfield 246, 3) := by decide +kernel
theorem dX4_takeHousehold_41 : decode cX4_takeHousehold 41 = .ok (.iadd, 1) := by decide +kernel
theorem dX4_takeHousehold_42 : decode cX4_takeHousehold 42 = .ok (.putfield 62, 3) := by decide +kernel
theorem dX4_takeHousehold_45 : decode cX4_takeHousehold 45 = .ok (.aload_n 0, 1) := by decide +kernel
theorem dX4_takeHousehold_46 : decode cX4_takeHousehold 46 = .ok (.getfield 28, 3) := by decide +kernel
theorem dX4_takeHousehold_49 : decode cX4_takeHousehold 49 = .ok (.getfield 222, 3) := by decide +kernel
theorem dX4_takeHousehold_52 : decode cX4_takeHousehold 52 = .ok (.iconst (-1), 1) := by decide +kernel
theorem dX4_takeHousehold_53 : decode cX4_takeHousehold 53 = .ok (.if_icmp .eq 14, 3) := by decide +kernel
theorem dX4_takeHousehold_56 : decode cX4_takeHousehold 56 = .ok (.aload_n 0, 1) := by decide +kernel
theorem dX4_takeHousehold_57 : decode cX4_takeHousehold 57 = .ok (.aload_n 0, 1) := by decide +kernel
theorem dX4_takeHousehold_58 : decode cX4_takeHousehold 58 = .ok (.getfield 28, 3) := by decide +kernel
