theorem dX8_resume_0 : decode cX8_resume 0 = .ok (.aload_n 0, 1) := by decide +kernel
theorem dX8_resume_1 : decode cX8_resume 1 = .ok (.getfield 50, 3) := by decide +kernel
theorem dX8_resume_4 : decode cX8_resume 4 = .ok (.ifCond .ne 5, 3) := by decide +kernel
theorem dX8_resume_7 : decode cX8_resume 7 = .ok (.iconst (-1), 1) := by decide +kernel
theorem dX8_resume_8 : decode cX8_resume 8 = .ok (.ireturn, 1) := by decide +kernel
theorem dX8_resume_9 : decode cX8_resume 9 = .ok (.aload_n 0, 1) := by decide +kernel
theorem dX8_resume_10 : decode cX8_resume 10 = .ok (.iconst 0, 1) := by decide +kernel
theorem dX8_resume_11 : decode cX8_resume 11 = .ok (.putfield 50, 3) := by decide +kernel
theorem dX8_resume_14 : decode cX8_resume 14 = .ok (.aload_n 0, 1) := by decide +kernel
theorem dX8_resume_15 : decode cX8_resume 15 = .ok (.aload_n 0, 1) := by decide +kernel
theorem dX8_resume_16 : decode cX8_resume 16 = .ok (.getfield 42, 3) := by decide +kernel
theorem dX8_resume_19 : decode cX8_resume 19 = .ok (.invokevirtual 79, 3) := by decide +kernel
theorem dX8_resume_22 : decode cX8_resume 22 = .ok (.invokevirtual 83, 3) := by decide +kernel
theorem dX8_resume_25 : decode cX8_resume 25 = .ok (.ireturn, 1) := by decide +kernel
theorem dX8_drop_0 : decode cX8_drop 0 = .ok (.aload_n 0, 1) := by decide +kernel
theorem dX8_drop_1 : decode cX8_drop 1 = .ok (.getfield 50, 3) := by decide +kernel
theorem dX8_drop_4 : decode cX8_drop 4 = .ok (.ifCond .ne 5, 3) := by decide +kernel
theorem dX8_drop_7 : decode cX8_drop 7 = .ok (.iconst (-1), 1) := by decide +kernel
theorem dX8_drop_8 : decode cX8_drop 8 = .ok (.ireturn, 1) := by decide +kernel
theorem dX8_drop_9 : decode cX8_drop 9 = .ok (.aload_n 0, 1) := by decide +kernel
theorem dX8_drop_10 : decode cX8_drop 10 = .ok (.iconst 0, 1) := by decide +kernel
theorem dX8_drop_11 : decode cX8_drop 11 = .ok (.putfield 50, 3) := by decide +kernel
theorem dX8_drop_14 : decode cX8_drop 14 = .ok (.aload_n 0, 1) := by decide +kernel
theorem dX8_drop_15 : decode cX8_drop 15 = .ok (.dup, 1) := by decide +kernel
theorem dX8_drop_16 : decode cX8_drop 16 = .ok (.getfield 87, 3) := by decide +kernel
theorem dX8_drop_19 : decode cX8_drop 19 = .ok (.iconst 1, 1) := by decide +kernel
theorem dX8_drop_20 : decode cX8_drop 20 = .ok (.iadd, 1) := by decide +kernel
theorem dX8_drop_21 : decode cX8_drop 21 = .ok (.putfield 87, 3) := by decide +kernel
theorem dX8_drop_24 : decode cX8_drop 24 = .ok (.aload_n 0, 1) := by decide +kernel
theorem dX8_drop_25 : decode cX8_drop 25 = .ok (.getfield 42, 3) := by decide +kernel
theorem dX8_drop_28 : decode cX8_drop 28 = .ok (.getfield 90, 3) := by decide +kernel
theorem dX8_drop_31 : decode cX8_drop 31 = .ok (.ireturn, 1) := by decide +kernel
theorem dX8_failures_0 : decode cX8_failures 0 = .ok (.aload_n 0, 1) := by decide +kernel
theorem dX8_failures_1 : decode cX8_failures 1 = .ok (.getfield 26, 3) := by decide +kernel
theorem dX8_failures_4 : decode cX8_failures 4 = .ok (.getfield 93, 3) := by decide +kernel
theorem dX8_failures_7 : decode cX8_failures 7 = .ok (.ireturn, 1) := by decide +kernel
set_option maxRecDepth 20000 in
theorem ggX8_failure_X1_tell : GoodIn wsX8_failure wsX1_tell := goodIn_r _ [6, 7, 8, 9, 10, 5, 11, 12, 23, 24, 25, 26, 27] (by decide +kernel) (by decide +kernel)
set_option maxRecDepth 20000 in
theorem gX8_failure_X1_tell : GoodIn wsX8_failure (wsV RX8 96 RX1 yX1_tell wsX1_tell) := goodIn_app (goodIn_of _ (by decide +kernel)) ggX8_failure_X1_tell
theorem dX8_failure_0 : decode cX8_failure 0 = .ok (.aload_n 0, 1) := by decide +kernel
theorem dX8_failure_1 : decode cX8_failure 1 = .ok (.getfield 26, 3) := by decide +kernel
theorem dX8_failure_4 : decode cX8_failure 4 = .ok (.iload_n 1, 1) := by decide +kernel
theorem dX8_failure_5 : decode cX8_failure 5 = .ok (.iload_n 2, 1) := by decide +kernel
theorem dX8_failure_6 : decode cX8_failure 6 = .ok (.invokevirtual 96, 3) := by decide +kernel
theorem dX8_failure_9 : decode cX8_failure 9 = .ok (.ireturn, 1) := by decide +kernel
set_option maxRecDepth 20000 in
theorem ggX8_many_X5_isWithin : GoodIn wsX8_many wsX5_isWithin := goodIn_r _ [7, 8] (by decide +kernel) (by decide +kernel)
set_option maxRecDepth 20000 in
theorem gX8_many_X5_isWithin : GoodIn wsX8_many (wsV RX8 100 RX5 yX5_isWithin wsX5_isWithin) := goodIn_app (goodIn_of _ (by decide +kernel)) ggX8_many_X5_isWithin
set_option maxRecDepth 20000 in
theorem ggX8_many_X1_ofKind : GoodIn wsX8_many wsX1_ofKind := goodIn_r _ [13, 14, 25, 26, 27, 28, 29] (by decide +kernel) (by decide +kernel)
set_option maxRecDepth 20000 in
theorem gX8_many_X1_ofKind : GoodIn wsX8_many (wsV RX8 104 RX1 yX1_ofKind wsX1_ofKind) := goodIn_app (goodIn_of _ (by decide +kernel)) ggX8_many_X1_ofKind
theorem dX8_many_0 : decode cX8_many 0 = .ok (.iload_n 1, 1) := by decide +kernel
theorem dX8_many_1 : decode cX8_many 1 = .ok (.iconst 1, 1) := by decide +kernel
theorem dX8_many_2 : decode cX8_many 2 = .ok (.if_icmp .lt 9, 3) := by decide +kernel
theorem dX8_many_5 : decode cX8_many 5 = .ok (.iload_n 1, 1) := by decide +kernel
theorem dX8_many_6 : decode cX8_many 6 = .ok (.bipush 29, 2) := by decide +kernel
theorem dX8_many_8 : decode cX8_many 8 = .ok (.if_icmp .le 5, 3) := by decide +kernel
theorem dX8_many_11 : decode cX8_many 11 = .ok (.iconst (-1), 1) := by decide +kernel
theorem dX8_many_12 : decode cX8_many 12 = .ok (.ireturn, 1) := by decide +kernel
theorem dX8_many_13 : decode cX8_many 13 = .ok (.iconst 0, 1) := by decide +kernel
theorem dX8_many_14 : decode cX8_many 14 = .ok (.istore_n 2, 1) := by decide +kernel
theorem dX8_many_15 : decode cX8_many 15 = .ok (.iconst 1, 1) := by decide +kernel
theorem dX8_many_16 : decode cX8_many 16 = .ok (.istore_n 3, 1) := by decide +kernel
theorem dX8_many_17 : decode cX8_many 17 = .ok (.iload_n 3, 1) := by decide +kernel
theorem dX8_many_18 : decode cX8_many 18 = .ok (.bipush 21, 2) := by decide +kernel
theorem dX8_many_20 : decode cX8_many 20 = .ok (.if_icmp .gt 32, 3) := by decide +kernel
theorem dX8_many_23 : decode cX8_many 23 = .ok (.aload_n 0, 1) := by decide +kernel
theorem dX8_many_24 : decode cX8_many 24 = .ok (.getfield 19, 3) := by decide +kernel
theorem dX8_many_27 : decode cX8_many 27 = .ok (.iload_n 3, 1) := by decide +kernel
theorem dX8_many_28 : decode cX8_many 28 = .ok (.iload_n 1, 1) := by decide +kernel
theorem dX8_many_29 : decode cX8_many 29 = .ok (.invokevirtual 100, 3) := by decide +kernel
theorem dX8_many_32 : decode cX8_many 32 = .ok (.ifCond .eq 14, 3) := by decide +kernel
theorem dX8_many_35 : decode cX8_many 35 = .ok (.iload_n 2, 1) := by decide +kernel
theorem dX8_many_36 : decode cX8_many 36 = .ok (.aload_n 0, 1) := by decide +kernel
theorem dX8_many_37 : decode cX8_many 37 = .ok (.getfield 26, 3) := by decide +kernel
theorem dX8_many_40 : decode cX8_many 40 = .ok (.iload_n 3, 1) := by decide +kernel
theorem dX8_many_41 : decode cX8_many 41 = .ok (.invokevirtual 104, 3) := by decide +kernel
theorem dX8_many_44 : decode cX8_many 44 = .ok (.iadd, 1) := by decide +kernel
theorem dX8_many_45 : decode cX8_many 45 = .ok (.istore_n 2, 1) := by decide +kernel
theorem dX8_many_46 : decode cX8_many 46 = .ok (.iinc 3 1, 3) := by decide +kernel
theorem dX8_many_49 : decode cX8_many 49 = .ok (.goto (-32), 3) := by decide +kernel
theorem dX8_many_52 : decode cX8_many 52 = .ok (.iload_n 2, 1) := by decide +kernel
theorem dX8_many_53 : decode cX8_many 53 = .ok (.ireturn, 1) := by decide +kernel
set_option maxRecDepth 20000 in
theorem ggX8_depth_X1_causesBelow : GoodIn wsX8_depth wsX1_causesBelow := goodIn_r _ [6, 7, 8, 9, 10, 5, 11, 12, 23, 24, 25, 26, 27] (by decide +kernel) (by decide +kernel)
set_option maxRecDepth 20000 in
theorem gX8_depth_X1_causesBelow : GoodIn wsX8_depth (wsV RX8 107 RX1 yX1_causesBelow wsX1_causesBelow) := goodIn_app (goodIn_of _ (by decide +kernel)) ggX8_depth_X1_causesBelow
theorem dX8_depth_0 : decode cX8_depth 0 = .ok (.aload_n 0, 1) := by decide +kernel
theorem dX8_depth_1 : decode cX8_depth 1 = .ok (.getfield 26, 3) := by decide +kernel
theorem dX8_depth_4 : decode cX8_depth 4 = .ok (.iload_n 1, 1) := by decide +kernel
theorem dX8_depth_5 : decode cX8_depth 5 = .ok (.invokevirtual 107, 3) := by decide +kernel
theorem dX8_depth_8 : decode cX8_depth 8 = .ok (.ireturn, 1) := by decide +kernel
theorem dX8_sheet_0 : decode cX8_sheet 0 = .ok (.iload_n 1, 1) := by decide +kernel
theorem dX8_sheet_1 : decode cX8_sheet 1 = .ok (.tableswitch 75 0 4 #[35, 43, 51, 59, 67], 35) := by decide +kernel
theorem dX8_sheet_36 : decode cX8_sheet 36 = .ok (.aload_n 0, 1) := by decide +kernel
theorem dX8_sheet_37 : decode cX8_sheet 37 = .ok (.getfield 42, 3) := by decide +kernel
theorem dX8_sheet_40 : decode cX8_sheet 40 = .ok (.getfield 110, 3) := by decide +kernel
theorem dX8_sheet_43 : decode cX8_sheet 43 = .ok (.ireturn, 1) := by decide +kernel
theorem dX8_sheet_44 : decode cX8_sheet 44 = .ok (.aload_n 0, 1) := by decide +kernel
theorem dX8_sheet_45 : decode cX8_sheet 45 = .ok (.getfield 42, 3) := by decide +kernel
theorem dX8_sheet_48 : decode cX8_sheet 48 = .ok (.getfield 90, 3) := by decide +kernel
theorem dX8_sheet_51 : decode cX8_sheet 51 = .ok (.ireturn, 1) := by decide +kernel
theorem dX8_sheet_52 : decode cX8_sheet 52 = .ok (.aload_n 0, 1) := by decide +kernel
theorem dX8_sheet_53 : decode cX8_sheet 53 = .ok (.getfield 42, 3) := by decide +kernel
theorem dX8_sheet_56 : decode cX8_sheet 56 = .ok (.getfield 113, 3) := by decide +kernel
theorem dX8_sheet_59 : decode cX8_sheet 59 = .ok (.ireturn, 1) := by decide +kernel
theorem dX8_sheet_60 : decode cX8_sheet 60 = .ok (.aload_n 0, 1) := by decide +kernel
theorem dX8_sheet_61 : decode cX8_sheet 61 = .ok (.getfield 42, 3) := by decide +kernel
theorem dX8_sheet_64 : decode cX8_sheet 64 = .ok (.getfield 116, 3) := by decide +kernel
theorem dX8_sheet_67 : decode cX8_sheet 67 = .ok (.ireturn, 1) := by decide +kernel
theorem dX8_sheet_68 : decode cX8_sheet 68 = .ok (.aload_n 0, 1) := by decide +kernel
theorem dX8_sheet_69 : decode cX8_sheet 69 = .ok (.getfield 42, 3) := by decide +kernel
theorem dX8_sheet_72 : decode cX8_sheet 72 = .ok (.getfield 119, 3) := by decide +kernel
theorem dX8_sheet_75 : decode cX8_sheet 75 = .ok (.ireturn, 1) := by decide +kernel
theorem dX8_sheet_76 : decode cX8_sheet 76 = .ok (.iconst (-1), 1) := by decide +kernel
theorem dX8_sheet_77 : decode cX8_sheet 77 = .ok (.ireturn, 1) := by decide +kernel
theorem dX8_sum_0 : decode cX8_sum 0 = .ok (.iload_n 1, 1) := by decide +kernel
theorem dX8_sum_1 : decode cX8_sum 1 = .ok (.tableswitch 114 0 8 #[51, 59, 67, 75, 83, 91, 99, 104, 109], 51) := by decide +kernel
theorem dX8_sum_52 : decode cX8_sum 52 = .ok (.aload_n 0, 1) := by decide +kernel
theorem dX8_sum_53 : decode cX8_sum 53 = .ok (.getfield 33, 3) := by decide +kernel
theorem dX8_sum_56 : decode cX8_sum 56 = .ok (.getfield 122, 3) := by decide +kernel
theorem dX8_sum_59 : decode cX8_sum 59 = .ok (.ireturn, 1) := by decide +kernel
theorem dX8_sum_60 : decode cX8_sum 60 = .ok (.aload_n 0, 1) := by decide +kernel
theorem dX8_sum_61 : decode cX8_sum 61 = .ok (.getfield 33, 3) := by decide +kernel
theorem dX8_sum_64 : decode cX8_sum 64 = .ok (.getfield 125, 3) := by decide +kernel
theorem dX8_sum_67 : decode cX8_sum 67 = .ok (.ireturn, 1) := by decide +kernel
theorem dX8_sum_68 : decode cX8_sum 68 = .ok (.aload_n 0, 1) := by decide +kernel
theorem dX8_sum_69 : decode cX8_sum 69 = .ok (.getfield 33, 3) := by decide +kernel
theorem dX8_sum_72 : decode cX8_sum 72 = .ok (.getfield 128, 3) := by decide +kernel
theorem dX8_sum_75 : decode cX8_sum 75 = .ok (.ireturn, 1) := by decide +kernel
theorem dX8_sum_76 : decode cX8_sum 76 = .ok (.aload_n 0, 1) := by decide +kernel
theorem dX8_sum_77 : decode cX8_sum 77 = .ok (.getfield 33, 3) := by decide +kernel
theorem dX8_sum_80 : decode cX8_sum 80 = .ok (.getfield 131, 3) := by decide +kernel
theorem dX8_sum_83 : decode cX8_sum 83 = .ok (.ireturn, 1) := by decide +kernel
theorem dX8_sum_84 : decode cX8_sum 84 = .ok (.aload_n 0, 1) := by decide +kernel
theorem dX8_sum_85 : decode cX8_sum 85 = .ok (.getfield 33, 3) := by decide +kernel
theorem dX8_sum_88 : decode cX8_sum 88 = .ok (.getfield 134, 3) := by decide +kernel
theorem dX8_sum_91 : decode cX8_sum 91 = .ok (.ireturn, 1) := by decide +kernel
theorem dX8_sum_92 : decode cX8_sum 92 = .ok (.aload_n 0, 1) := by decide +kernel
theorem dX8_sum_93 : decode cX8_sum 93 = .ok (.getfield 33, 3) := by decide +kernel
theorem dX8_sum_96 : decode cX8_sum 96 = .ok (.getfield 137, 3) := by decide +kernel
theorem dX8_sum_99 : decode cX8_sum 99 = .ok (.ireturn, 1) := by decide +kernel
theorem dX8_sum_100 : decode cX8_sum 100 = .ok (.aload_n 0, 1) := by decide +kernel
theorem dX8_sum_101 : decode cX8_sum 101 = .ok (.getfield 140, 3) := by decide +kernel
theorem dX8_sum_104 : decode cX8_sum 104 = .ok (.ireturn, 1) := by decide +kernel
theorem dX8_sum_105 : decode cX8_sum 105 = .ok (.aload_n 0, 1) := by decide +kernel
theorem dX8_sum_106 : decode cX8_sum 106 = .ok (.getfield 87, 3) := by decide +kernel
theorem dX8_sum_109 : decode cX8_sum 109 = .ok (.ireturn, 1) := by decide +kernel
theorem dX8_sum_110 : decode cX8_sum 110 = .ok (.aload_n 0, 1) := by decide +kernel
theorem dX8_sum_111 : decode cX8_sum 111 = .ok (.getfield 143, 3) := by decide +kernel
theorem dX8_sum_114 : decode cX8_sum 114 = .ok (.ireturn, 1) := by decide +kernel
theorem dX8_sum_115 : decode cX8_sum 115 = .ok (.iconst (-1), 1) := by decide +kernel
theorem dX8_sum_116 : decode cX8_sum 116 = .ok (.ireturn, 1) := by decide +kernel
set_option maxRecDepth 20000 in
theorem ggX8_house_X0_tellHousehold : GoodIn wsX8_house wsX0_tellHousehold := goodIn_r _ [6, 7, 8, 19, 20, 21, 22, 23, 24, 25, 26, 27, 28] (by decide +kernel) (by decide +kernel)
set_option maxRecDepth 20000 in
theorem gX8_house_X0_tellHousehold : GoodIn wsX8_house (wsV RX8 146 RX0 yX0_tellHousehold wsX0_tellHousehold) := goodIn_app (goodIn_of _ (by decide +kernel)) ggX8_house_X0_tellHousehold
theorem dX8_house_0 : decode cX8_house 0 = .ok (.aload_n 0, 1) := by decide +kernel
theorem dX8_house_1 : decode cX8_house 1 = .ok (.getfield 33, 3) := by decide +kernel
theorem dX8_house_4 : decode cX8_house 4 = .ok (.iload_n 1, 1) := by decide +kernel
theorem dX8_house_5 : decode cX8_house 5 = .ok (.iload_n 2, 1) := by decide +kernel
theorem dX8_house_6 : decode cX8_house 6 = .ok (.invokevirtual 146, 3) := by decide +kernel
theorem dX8_house_9 : decode cX8_house 9 = .ok (.ireturn, 1) := by decide +kernel
set_option maxRecDepth 20000 in
theorem ggX8_person_X0_tellPerson : GoodIn wsX8_person wsX0_tellPerson := goodIn_r _ [6, 7, 8, 19, 20, 21, 22, 23, 24, 25, 26, 27, 28] (by decide +kernel) (by decide +kernel)
set_option maxRecDepth 20000 in
theorem gX8_person_X0_tellPerson : GoodIn wsX8_person (wsV RX8 149 RX0 yX0_tellPerson wsX0_tellPerson) := goodIn_app (goodIn_of _ (by decide +kernel)) ggX8_person_X0_tellPerson
theorem dX8_person_0 : decode cX8_person 0 = .ok (.aload_n 0, 1) := by decide +kernel
theorem dX8_person_1 : decode cX8_person 1 = .ok (.getfield 33, 3) := by decide +kernel
theorem dX8_person_4 : decode cX8_person 4 = .ok (.iload_n 1, 1) := by decide +kernel
theorem dX8_person_5 : decode cX8_person 5 = .ok (.iload_n 2, 1) := by decide +kernel
theorem dX8_person_6 : decode cX8_person 6 = .ok (.invokevirtual 149, 3) := by decide +kernel
theorem dX8_person_9 : decode cX8_person 9 = .ok (.ireturn, 1) := by decide +kernel
set_option maxRecDepth 20000 in
theorem ggX8_sign_X0_signOf : GoodIn wsX8_sign wsX0_signOf := goodIn_r _ [6, 7, 8, 9, 10, 5, 11, 12, 13, 24, 25, 26, 27, 28, 29, 30, 31, 32, 33] (by decide +kernel) (by decide +kernel)
set_option maxRecDepth 20000 in
theorem gX8_sign_X0_signOf : GoodIn wsX8_sign (wsV RX8 152 RX0 yX0_signOf wsX0_signOf) := goodIn_app (goodIn_of _ (by decide +kernel)) ggX8_sign_X0_signOf
theorem dX8_sign_0 : decode cX8_sign 0 = .ok (.aload_n 0, 1) := by decide +kernel
theorem dX8_sign_1 : decode cX8_sign 1 = .ok (.getfield 33, 3) := by decide +kernel
theorem dX8_sign_4 : decode cX8_sign 4 = .ok (.iload_n 1, 1) := by decide +kernel
theorem dX8_sign_5 : decode cX8_sign 5 = .ok (.iload_n 2, 1) := by decide +kernel
theorem dX8_sign_6 : decode cX8_sign 6 = .ok (.invokevirtual 152, 3) := by decide +kernel
theorem dX8_sign_9 : decode cX8_sign 9 = .ok (.ireturn, 1) := by decide +kernel
set_option maxRecDepth 20000 in
theorem ggX8_named_X0_countNamed : GoodIn wsX8_named wsX0_countNamed := goodIn_r _ [6, 7, 8, 9, 10, 5, 11, 12, 13, 14, 15, 16, 17, 18, 19, 20, 21, 22, 23, 24, 25, 26, 27, 28, 29, 30, 41, 42, 43, 44, 45, 46, 47, 48, 49, 50] (by decide +kernel) (by decide +kernel)
set_option maxRecDepth 20000 in
theorem gX8_named_X0_countNamed : GoodIn wsX8_named (wsV RX8 155 RX0 yX0_countNamed wsX0_countNamed) := goodIn_app (goodIn_of _ (by decide +kernel)) ggX8_named_X0_countNamed
theorem dX8_named_0 : decode cX8_named 0 = .ok (.aload_n 0, 1) := by decide +kernel
theorem dX8_named_1 : decode cX8_named 1 = .ok (.getfield 33, 3) := by decide +kernel
theorem dX8_named_4 : decode cX8_named 4 = .ok (.iload_n 1, 1) := by decide +kernel
theorem dX8_named_5 : decode cX8_named 5 = .ok (.iload_n 2, 1) := by decide +kernel
theorem dX8_named_6 : decode cX8_named 6 = .ok (.iload_n 3, 1) := by decide +kernel
theorem dX8_named_7 : decode cX8_named 7 = .ok (.iload 4, 2) := by decide +kernel
theorem dX8_named_9 : decode cX8_named 9 = .ok (.invokevirtual 155, 3) := by decide +kernel
theorem dX8_named_12 : decode cX8_named 12 = .ok (.ireturn, 1) := by decide +kernel
set_option maxRecDepth 20000 in
theorem ggX8_audit_X0_disagreements : GoodIn wsX8_audit wsX0_disagreements := goodIn_r _ [11, 12, 13, 14, 15, 16, 17, 18, 19, 10, 20, 21, 22, 23, 24, 25, 26, 37, 38, 39, 40, 41, 42, 43, 44, 45, 46] (by decide +kernel) (by decide +kernel)
set_option maxRecDepth 20000 in
theorem gX8_audit_X0_disagreements : GoodIn wsX8_audit (wsV RX8 159 RX0 yX0_disagreements wsX0_disagreements) := goodIn_app (goodIn_of _ (by decide +kernel)) ggX8_audit_X0_disagreements
theorem dX8_audit_0 : decode cX8_audit 0 = .ok (.aload_n 0, 1) := by decide +kernel
theorem dX8_audit_1 : decode cX8_audit 1 = .ok (.getfield 33, 3) := by decide +kernel
theorem dX8_audit_4 : decode cX8_audit 4 = .ok (.invokevirtual 159, 3) := by decide +kernel
theorem dX8_audit_7 : decode cX8_audit 7 = .ok (.istore_n 1, 1) := by decide +kernel
theorem dX8_audit_8 : decode cX8_audit 8 = .ok (.aload_n 0, 1) := by decide +kernel
theorem dX8_audit_9 : decode cX8_audit 9 = .ok (.getfield 140, 3) := by decide +kernel
theorem dX8_audit_12 : decode cX8_audit 12 = .ok (.aload_n 0, 1) := by decide +kernel
theorem dX8_audit_13 : decode cX8_audit 13 = .ok (.getfield 87, 3) := by decide +kernel
theorem dX8_audit_16 : decode cX8_audit 16 = .ok (.iadd, 1) := by decide +kernel
theorem dX8_audit_17 : decode cX8_audit 17 = .ok (.aload_n 0, 1) := by decide +kernel
theorem dX8_audit_18 : decode cX8_audit 18 = .ok (.getfield 143, 3) := by decide +kernel
theorem dX8_audit_21 : decode cX8_audit 21 = .ok (.iadd, 1) := by decide +kernel
theorem dX8_audit_22 : decode cX8_audit 22 = .ok (.aload_n 0, 1) := by decide +kernel
theorem dX8_audit_23 : decode cX8_audit 23 = .ok (.getfield 50, 3) := by decide +kernel
theorem dX8_audit_26 : decode cX8_audit 26 = .ok (.ifCond .eq 7, 3) := by decide +kernel
theorem dX8_audit_29 : decode cX8_audit 29 = .ok (.iconst 1, 1) := by decide +kernel
theorem dX8_audit_30 : decode cX8_audit 30 = .ok (.goto 4, 3) := by decide +kernel
theorem dX8_audit_33 : decode cX8_audit 33 = .ok (.iconst 0, 1) := by decide +kernel
theorem dX8_audit_34 : decode cX8_audit 34 = .ok (.iadd, 1) := by decide +kernel
theorem dX8_audit_35 : decode cX8_audit 35 = .ok (.istore_n 2, 1) := by decide +kernel
theorem dX8_audit_36 : decode cX8_audit 36 = .ok (.iload_n 2, 1) := by decide +kernel
theorem dX8_audit_37 : decode cX8_audit 37 = .ok (.aload_n 0, 1) := by decide +kernel
theorem dX8_audit_38 : decode cX8_audit 38 = .ok (.getfield 70, 3) := by decide +kernel
theorem dX8_audit_41 : decode cX8_audit 41 = .ok (.if_icmp .ne 7, 3) := by decide +kernel
theorem dX8_audit_44 : decode cX8_audit 44 = .ok (.iload_n 1, 1) := by decide +kernel
theorem dX8_audit_45 : decode cX8_audit 45 = .ok (.goto 6, 3) := by decide +kernel
theorem dX8_audit_48 : decode cX8_audit 48 = .ok (.iload_n 1, 1) := by decide +kernel
theorem dX8_audit_49 : decode cX8_audit 49 = .ok (.iconst 1, 1) := by decide +kernel
theorem dX8_audit_50 : decode cX8_audit 50 = .ok (.iadd, 1) := by decide +kernel
theorem dX8_audit_51 : decode cX8_audit 51 = .ok (.ireturn, 1) := by decide +kernel
set_option maxRecDepth 20000 in
theorem ggX8_conclude_X0_enter : GoodIn wsX8_conclude wsX0_enter := goodIn_r _ [12, 13, 14, 15, 16, 17, 18, 19, 11, 20, 21, 22, 23, 24, 54, 55, 56, 57, 58, 59, 60, 61, 62, 63] (by decide +kernel) (by decide +kernel)
set_option maxRecDepth 20000 in
theorem gX8_conclude_X0_enter : GoodIn wsX8_conclude (wsV RX8 162 RX0 yX0_enter wsX0_enter) := goodIn_app (goodIn_of _ (by decide +kernel)) ggX8_conclude_X0_enter
theorem dX8_conclude_0 : decode cX8_conclude 0 = .ok (.iload_n 1, 1) := by decide +kernel
theorem dX8_conclude_1 : decode cX8_conclude 1 = .ok (.iconst 2, 1) := by decide +kernel
theorem dX8_conclude_2 : decode cX8_conclude 2 = .ok (.if_icmp .ne 10, 3) := by decide +kernel
theorem dX8_conclude_5 : decode cX8_conclude 5 = .ok (.aload_n 0, 1) := by decide +kernel
theorem dX8_conclude_6 : decode cX8_conclude 6 = .ok (.iconst 1, 1) := by decide +kernel
theorem dX8_conclude_7 : decode cX8_conclude 7 = .ok (.putfield 50, 3) := by decide +kernel
theorem dX8_conclude_10 : decode cX8_conclude 10 = .ok (.iconst 2, 1) := by decide +kernel
theorem dX8_conclude_11 : decode cX8_conclude 11 = .ok (.ireturn, 1) := by decide +kernel
theorem dX8_conclude_12 : decode cX8_conclude 12 = .ok (.iload_n 1, 1) := by decide +kernel
theorem dX8_conclude_13 : decode cX8_conclude 13 = .ok (.iconst 1, 1) := by decide +kernel
theorem dX8_conclude_14 : decode cX8_conclude 14 = .ok (.if_icmp .ne 15, 3) := by decide +kernel
theorem dX8_conclude_17 : decode cX8_conclude 17 = .ok (.aload_n 0, 1) := by decide +kernel
theorem dX8_conclude_18 : decode cX8_conclude 18 = .ok (.dup, 1) := by decide +kernel
theorem dX8_conclude_19 : decode cX8_conclude 19 = .ok (.getfield 87, 3) := by decide +kernel
theorem dX8_conclude_22 : decode cX8_conclude 22 = .ok (.iconst 1, 1) := by decide +kernel
theorem dX8_conclude_23 : decode cX8_conclude 23 = .ok (.iadd, 1) := by decide +kernel
theorem dX8_conclude_24 : decode cX8_conclude 24 = .ok (.putfield 87, 3) := by decide +kernel
theorem dX8_conclude_27 : decode cX8_conclude 27 = .ok (.iconst 1, 1) := by decide +kernel
theorem dX8_conclude_28 : decode cX8_conclude 28 = .ok (.ireturn, 1) := by decide +kernel
theorem dX8_conclude_29 : decode cX8_conclude 29 = .ok (.aload_n 0, 1) := by decide +kernel
theorem dX8_conclude_30 : decode cX8_conclude 30 = .ok (.getfield 33, 3) := by decide +kernel
theorem dX8_conclude_33 : decode cX8_conclude 33 = .ok (.aload_n 0, 1) := by decide +kernel
theorem dX8_conclude_34 : decode cX8_conclude 34 = .ok (.getfield 42, 3) := by decide +kernel
theorem dX8_conclude_37 : decode cX8_conclude 37 = .ok (.getfield 90, 3) := by decide +kernel
theorem dX8_conclude_40 : decode cX8_conclude 40 = .ok (.aload_n 0, 1) := by decide +kernel
theorem dX8_conclude_41 : decode cX8_conclude 41 = .ok (.getfield 42, 3) := by decide +kernel
theorem dX8_conclude_44 : decode cX8_conclude 44 = .ok (.getfield 116, 3) := by decide +kernel
theorem dX8_conclude_47 : decode cX8_conclude 47 = .ok (.aload_n 0, 1) := by decide +kernel
theorem dX8_conclude_48 : decode cX8_conclude 48 = .ok (.getfield 70, 3) := by decide +kernel
theorem dX8_conclude_51 : decode cX8_conclude 51 = .ok (.iconst 1, 1) := by decide +kernel
theorem dX8_conclude_52 : decode cX8_conclude 52 = .ok (.isub, 1) := by decide +kernel
theorem dX8_conclude_53 : decode cX8_conclude 53 = .ok (.invokevirtual 162, 3) := by decide +kernel
theorem dX8_conclude_56 : decode cX8_conclude 56 = .ok (.ifCond .ne 15, 3) := by decide +kernel
theorem dX8_conclude_59 : decode cX8_conclude 59 = .ok (.aload_n 0, 1) := by decide +kernel
theorem dX8_conclude_60 : decode cX8_conclude 60 = .ok (.dup, 1) := by decide +kernel
theorem dX8_conclude_61 : decode cX8_conclude 61 = .ok (.getfield 143, 3) := by decide +kernel
theorem dX8_conclude_64 : decode cX8_conclude 64 = .ok (.iconst 1, 1) := by decide +kernel
theorem dX8_conclude_65 : decode cX8_conclude 65 = .ok (.iadd, 1) := by decide +kernel
theorem dX8_conclude_66 : decode cX8_conclude 66 = .ok (.putfield 143, 3) := by decide +kernel
theorem dX8_conclude_69 : decode cX8_conclude 69 = .ok (.iconst 3, 1) := by decide +kernel
theorem dX8_conclude_70 : decode cX8_conclude 70 = .ok (.ireturn, 1) := by decide +kernel
theorem dX8_conclude_71 : decode cX8_conclude 71 = .ok (.aload_n 0, 1) := by decide +kernel
theorem dX8_conclude_72 : decode cX8_conclude 72 = .ok (.dup, 1) := by decide +kernel
theorem dX8_conclude_73 : decode cX8_conclude 73 = .ok (.getfield 140, 3) := by decide +kernel
theorem dX8_conclude_76 : decode cX8_conclude 76 = .ok (.iconst 1, 1) := by decide +kernel
theorem dX8_conclude_77 : decode cX8_conclude 77 = .ok (.iadd, 1) := by decide +kernel
theorem dX8_conclude_78 : decode cX8_conclude 78 = .ok (.putfield 140, 3) := by decide +kernel
theorem dX8_conclude_81 : decode cX8_conclude 81 = .ok (.iconst 0, 1) := by decide +kernel
theorem dX8_conclude_82 : decode cX8_conclude 82 = .ok (.ireturn, 1) := by decide +kernel
theorem dX9_init_0 : decode cX9_init 0 = .ok (.aload_n 0, 1) := by decide +kernel
theorem dX9_init_1 : decode cX9_init 1 = .ok (.invokespecial 1, 3) := by decide +kernel
theorem dX9_init_4 : decode cX9_init 4 = .ok (.aload_n 0, 1) := by decide +kernel
theorem dX9_init_5 : decode cX9_init 5 = .ok (.sipush 4000, 3) := by decide +kernel
theorem dX9_init_8 : decode cX9_init 8 = .ok (.newarray .byte, 2) := by decide +kernel
theorem dX9_init_10 : decode cX9_init 10 = .ok (.putfield 9, 3) := by decide +kernel
theorem dX9_init_13 : decode cX9_init 13 = .ok (.aload_n 0, 1) := by decide +kernel
theorem dX9_init_14 : decode cX9_init 14 = .ok (.bipush 30, 2) := by decide +kernel
theorem dX9_init_16 : decode cX9_init 16 = .ok (.newarray .int, 2) := by decide +kernel
theorem dX9_init_18 : decode cX9_init 18 = .ok (.putfield 13, 3) := by decide +kernel
theorem dX9_init_21 : decode cX9_init 21 = .ok (.aload_n 0, 1) := by decide +kernel
theorem dX9_init_22 : decode cX9_init 22 = .ok (.bipush 30, 2) := by decide +kernel
theorem dX9_init_24 : decode cX9_init 24 = .ok (.newarray .int, 2) := by decide +kernel
theorem dX9_init_26 : decode cX9_init 26 = .ok (.putfield 17, 3) := by decide +kernel
theorem dX9_init_29 : decode cX9_init 29 = .ok (.aload_n 0, 1) := by decide +kernel
theorem dX9_init_30 : decode cX9_init 30 = .ok (.sipush 2100, 3) := by decide +kernel
theorem dX9_init_33 : decode cX9_init 33 = .ok (.newarray .int, 2) := by decide +kernel
theorem dX9_init_35 : decode cX9_init 35 = .ok (.putfield 20, 3) := by decide +kernel
theorem dX9_init_38 : decode cX9_init 38 = .ok (.aload_n 0, 1) := by decide +kernel
theorem dX9_init_39 : decode cX9_init 39 = .ok (.sipush 2100, 3) := by decide +kernel
theorem dX9_init_42 : decode cX9_init 42 = .ok (.newarray .int, 2) := by decide +kernel
theorem dX9_init_44 : decode cX9_init 44 = .ok (.putfield 23, 3) := by decide +kernel
theorem dX9_init_47 : decode cX9_init 47 = .ok (.aload_n 0, 1) := by decide +kernel
theorem dX9_init_48 : decode cX9_init 48 = .ok (.sipush 2100, 3) := by decide +kernel
theorem dX9_init_51 : decode cX9_init 51 = .ok (.newarray .int, 2) := by decide +kernel
theorem dX9_init_53 : decode cX9_init 53 = .ok (.putfield 26, 3) := by decide +kernel
theorem dX9_init_56 : decode cX9_init 56 = .ok (.aload_n 0, 1) := by decide +kernel
theorem dX9_init_57 : decode cX9_init 57 = .ok (.sipush 2100, 3) := by decide +kernel
theorem dX9_init_60 : decode cX9_init 60 = .ok (.newarray .int, 2) := by decide +kernel
theorem dX9_init_62 : decode cX9_init 62 = .ok (.putfield 29, 3) := by decide +kernel
theorem dX9_init_65 : decode cX9_init 65 = .ok (.aload_n 0, 1) := by decide +kernel
theorem dX9_init_66 : decode cX9_init 66 = .ok (.sipush 2100, 3) := by decide +kernel
theorem dX9_init_69 : decode cX9_init 69 = .ok (.newarray .int, 2) := by decide +kernel
theorem dX9_init_71 : decode cX9_init 71 = .ok (.putfield 32, 3) := by decide +kernel
theorem dX9_init_74 : decode cX9_init 74 = .ok (.aload_n 0, 1) := by decide +kernel
theorem dX9_init_75 : decode cX9_init 75 = .ok (.sipush 2100, 3) := by decide +kernel
theorem dX9_init_78 : decode cX9_init 78 = .ok (.newarray .int, 2) := by decide +kernel
theorem dX9_init_80 : decode cX9_init 80 = .ok (.putfield 35, 3) := by decide +kernel
theorem dX9_init_83 : decode cX9_init 83 = .ok (.aload_n 0, 1) := by decide +kernel
theorem dX9_init_84 : decode cX9_init 84 = .ok (.sipush 2100, 3) := by decide +kernel
theorem dX9_init_87 : decode cX9_init 87 = .ok (.newarray .int, 2) := by decide +kernel
theorem dX9_init_89 : decode cX9_init 89 = .ok (.putfield 38, 3) := by decide +kernel
theorem dX9_init_92 : decode cX9_init 92 = .ok (.aload_n 0, 1) := by decide +kernel
theorem dX9_init_93 : decode cX9_init 93 = .ok (.sipush 2100, 3) := by decide +kernel
theorem dX9_init_96 : decode cX9_init 96 = .ok (.newarray .int, 2) := by decide +kernel
theorem dX9_init_98 : decode cX9_init 98 = .ok (.putfield 41, 3) := by decide +kernel
theorem dX9_init_101 : decode cX9_init 101 = .ok (.aload_n 0, 1) := by decide +kernel
theorem dX9_init_102 : decode cX9_init 102 = .ok (.sipush 2100, 3) := by decide +kernel
theorem dX9_init_105 : decode cX9_init 105 = .ok (.newarray .int, 2) := by decide +kernel
theorem dX9_init_107 : decode cX9_init 107 = .ok (.putfield 44, 3) := by decide +kernel
theorem dX9_init_110 : decode cX9_init 110 = .ok (.aload_n 0, 1) := by decide +kernel
theorem dX9_init_111 : decode cX9_init 111 = .ok (.sipush 4000, 3) := by decide +kernel
theorem dX9_init_114 : decode cX9_init 114 = .ok (.newarray .byte, 2) := by decide +kernel
theorem dX9_init_116 : decode cX9_init 116 = .ok (.putfield 47, 3) := by decide +kernel
theorem dX9_init_119 : decode cX9_init 119 = .ok (.aload_n 0, 1) := by decide +kernel
theorem dX9_init_120 : decode cX9_init 120 = .ok (.sipush 300, 3) := by decide +kernel
theorem dX9_init_123 : decode cX9_init 123 = .ok (.newarray .int, 2) := by decide +kernel
theorem dX9_init_125 : decode cX9_init 125 = .ok (.putfield 50, 3) := by decide +kernel
theorem dX9_init_128 : decode cX9_init 128 = .ok (.aload_n 0, 1) := by decide +kernel
theorem dX9_init_129 : decode cX9_init 129 = .ok (.sipush 300, 3) := by decide +kernel
theorem dX9_init_132 : decode cX9_init 132 = .ok (.newarray .int, 2) := by decide +kernel
theorem dX9_init_134 : decode cX9_init 134 = .ok (.putfield 53, 3) := by decide +kernel
theorem dX9_init_137 : decode cX9_init 137 = .ok (.aload_n 0, 1) := by decide +kernel
theorem dX9_init_138 : decode cX9_init 138 = .ok (.sipush 300, 3) := by decide +kernel
theorem dX9_init_141 : decode cX9_init 141 = .ok (.newarray .int, 2) := by decide +kernel
theorem dX9_init_143 : decode cX9_init 143 = .ok (.putfield 56, 3) := by decide +kernel
theorem dX9_init_146 : decode cX9_init 146 = .ok (.aload_n 0, 1) := by decide +kernel
theorem dX9_init_147 : decode cX9_init 147 = .ok (.sipush 300, 3) := by decide +kernel
theorem dX9_init_150 : decode cX9_init 150 = .ok (.newarray .int, 2) := by decide +kernel
theorem dX9_init_152 : decode cX9_init 152 = .ok (.putfield 59, 3) := by decide +kernel
theorem dX9_init_155 : decode cX9_init 155 = .ok (.aload_n 0, 1) := by decide +kernel
theorem dX9_init_156 : decode cX9_init 156 = .ok (.sipush 300, 3) := by decide +kernel
theorem dX9_init_159 : decode cX9_init 159 = .ok (.newarray .int, 2) := by decide +kernel
theorem dX9_init_161 : decode cX9_init 161 = .ok (.putfield 62, 3) := by decide +kernel
theorem dX9_init_164 : decode cX9_init 164 = .ok (.aload_n 0, 1) := by decide +kernel
theorem dX9_init_165 : decode cX9_init 165 = .ok (.bipush 22, 2) := by decide +kernel
theorem dX9_init_167 : decode cX9_init 167 = .ok (.newarray .int, 2) := by decide +kernel
theorem dX9_init_169 : decode cX9_init 169 = .ok (.putfield 65, 3) := by decide +kernel
theorem dX9_init_172 : decode cX9_init 172 = .ok (.aload_n 0, 1) := by decide +kernel
theorem dX9_init_173 : decode cX9_init 173 = .ok (.bipush 6, 2) := by decide +kernel
theorem dX9_init_175 : decode cX9_init 175 = .ok (.newarray .int, 2) := by decide +kernel
theorem dX9_init_177 : decode cX9_init 177 = .ok (.putfield 68, 3) := by decide +kernel
theorem dX9_init_180 : decode cX9_init 180 = .ok (.aload_n 0, 1) := by decide +kernel
theorem dX9_init_181 : decode cX9_init 181 = .ok (.bipush 6, 2) := by decide +kernel
theorem dX9_init_183 : decode cX9_init 183 = .ok (.newarray .int, 2) := by decide +kernel
theorem dX9_init_185 : decode cX9_init 185 = .ok (.putfield 71, 3) := by decide +kernel
theorem dX9_init_188 : decode cX9_init 188 = .ok (.aload_n 0, 1) := by decide +kernel
theorem dX9_init_189 : decode cX9_init 189 = .ok (.sipush 4000, 3) := by decide +kernel
theorem dX9_init_192 : decode cX9_init 192 = .ok (.newarray .int, 2) := by decide +kernel
theorem dX9_init_194 : decode cX9_init 194 = .ok (.putfield 74, 3) := by decide +kernel
theorem dX9_init_197 : decode cX9_init 197 = .ok (.aload_n 0, 1) := by decide +kernel
theorem dX9_init_198 : decode cX9_init 198 = .ok (.sipush 4000, 3) := by decide +kernel
theorem dX9_init_201 : decode cX9_init 201 = .ok (.newarray .int, 2) := by decide +kernel
theorem dX9_init_203 : decode cX9_init 203 = .ok (.putfield 77, 3) := by decide +kernel
theorem dX9_init_206 : decode cX9_init 206 = .ok (.aload_n 0, 1) := by decide +kernel
theorem dX9_init_207 : decode cX9_init 207 = .ok (.iconst 4, 1) := by decide +kernel
theorem dX9_init_208 : decode cX9_init 208 = .ok (.newarray .int, 2) := by decide +kernel
theorem dX9_init_210 : decode cX9_init 210 = .ok (.putfield 80, 3) := by decide +kernel
theorem dX9_init_213 : decode cX9_init 213 = .ok (.aload_n 0, 1) := by decide +kernel
theorem dX9_init_214 : decode cX9_init 214 = .ok (.bipush 60, 2) := by decide +kernel
theorem dX9_init_216 : decode cX9_init 216 = .ok (.newarray .int, 2) := by decide +kernel
theorem dX9_init_218 : decode cX9_init 218 = .ok (.putfield 83, 3) := by decide +kernel
theorem dX9_init_221 : decode cX9_init 221 = .ok (.aload_n 0, 1) := by decide +kernel
theorem dX9_init_222 : decode cX9_init 222 = .ok (.bipush 60, 2) := by decide +kernel
theorem dX9_init_224 : decode cX9_init 224 = .ok (.newarray .int, 2) := by decide +kernel
theorem dX9_init_226 : decode cX9_init 226 = .ok (.putfield 86, 3) := by decide +kernel
theorem dX9_init_229 : decode cX9_init 229 = .ok (.aload_n 0, 1) := by decide +kernel
theorem dX9_init_230 : decode cX9_init 230 = .ok (.bipush 60, 2) := by decide +kernel
theorem dX9_init_232 : decode cX9_init 232 = .ok (.newarray .int, 2) := by decide +kernel
theorem dX9_init_234 : decode cX9_init 234 = .ok (.putfield 89, 3) := by decide +kernel
theorem dX9_init_237 : decode cX9_init 237 = .ok (.aload_n 0, 1) := by decide +kernel
theorem dX9_init_238 : decode cX9_init 238 = .ok (.bipush 60, 2) := by decide +kernel
theorem dX9_init_240 : decode cX9_init 240 = .ok (.newarray .int, 2) := by decide +kernel
theorem dX9_init_242 : decode cX9_init 242 = .ok (.putfield 92, 3) := by decide +kernel
theorem dX9_init_245 : decode cX9_init 245 = .ok (.aload_n 0, 1) := by decide +kernel
theorem dX9_init_246 : decode cX9_init 246 = .ok (.bipush 60, 2) := by decide +kernel
theorem dX9_init_248 : decode cX9_init 248 = .ok (.newarray .int, 2) := by decide +kernel
theorem dX9_init_250 : decode cX9_init 250 = .ok (.putfield 95, 3) := by decide +kernel
theorem dX9_init_253 : decode cX9_init 253 = .ok (.aload_n 0, 1) := by decide +kernel
theorem dX9_init_254 : decode cX9_init 254 = .ok (.sipush 300, 3) := by decide +kernel
theorem dX9_init_257 : decode cX9_init 257 = .ok (.newarray .int, 2) := by decide +kernel
theorem dX9_init_259 : decode cX9_init 259 = .ok (.putfield 98, 3) := by decide +kernel
theorem dX9_init_262 : decode cX9_init 262 = .ok (.aload_n 0, 1) := by decide +kernel
theorem dX9_init_263 : decode cX9_init 263 = .ok (.sipush 300, 3) := by decide +kernel
theorem dX9_init_266 : decode cX9_init 266 = .ok (.newarray .int, 2) := by decide +kernel
theorem dX9_init_268 : decode cX9_init 268 = .ok (.putfield 101, 3) := by decide +kernel
theorem dX9_init_271 : decode cX9_init 271 = .ok (.aload_n 0, 1) := by decide +kernel
theorem dX9_init_272 : decode cX9_init 272 = .ok (.sipush 300, 3) := by decide +kernel
theorem dX9_init_275 : decode cX9_init 275 = .ok (.newarray .int, 2) := by decide +kernel
theorem dX9_init_277 : decode cX9_init 277 = .ok (.putfield 104, 3) := by decide +kernel
theorem dX9_init_280 : decode cX9_init 280 = .ok (.aload_n 0, 1) := by decide +kernel
theorem dX9_init_281 : decode cX9_init 281 = .ok (.sipush 300, 3) := by decide +kernel
theorem dX9_init_284 : decode cX9_init 284 = .ok (.newarray .int, 2) := by decide +kernel
theorem dX9_init_286 : decode cX9_init 286 = .ok (.putfield 107, 3) := by decide +kernel
theorem dX9_init_289 : decode cX9_init 289 = .ok (.aload_n 0, 1) := by decide +kernel
theorem dX9_init_290 : decode cX9_init 290 = .ok (.sipush 300, 3) := by decide +kernel
theorem dX9_init_293 : decode cX9_init 293 = .ok (.newarray .int, 2) := by decide +kernel
theorem dX9_init_295 : decode cX9_init 295 = .ok (.putfield 110, 3) := by decide +kernel
theorem dX9_init_298 : decode cX9_init 298 = .ok (.aload_n 0, 1) := by decide +kernel
theorem dX9_init_299 : decode cX9_init 299 = .ok (.sipush 9000, 3) := by decide +kernel
theorem dX9_init_302 : decode cX9_init 302 = .ok (.newarray .byte, 2) := by decide +kernel
theorem dX9_init_304 : decode cX9_init 304 = .ok (.putfield 113, 3) := by decide +kernel
theorem dX9_init_307 : decode cX9_init 307 = .ok (.iconst 0, 1) := by decide +kernel
theorem dX9_init_308 : decode cX9_init 308 = .ok (.istore_n 1, 1) := by decide +kernel
theorem dX9_init_309 : decode cX9_init 309 = .ok (.iload_n 1, 1) := by decide +kernel
theorem dX9_init_310 : decode cX9_init 310 = .ok (.bipush 30, 2) := by decide +kernel
theorem dX9_init_312 : decode cX9_init 312 = .ok (.if_icmp .ge 16, 3) := by decide +kernel
theorem dX9_init_315 : decode cX9_init 315 = .ok (.aload_n 0, 1) := by decide +kernel
theorem dX9_init_316 : decode cX9_init 316 = .ok (.getfield 13, 3) := by decide +kernel
theorem dX9_init_319 : decode cX9_init 319 = .ok (.iload_n 1, 1) := by decide +kernel
theorem dX9_init_320 : decode cX9_init 320 = .ok (.iconst (-1), 1) := by decide +kernel
theorem dX9_init_321 : decode cX9_init 321 = .ok (.iastore, 1) := by decide +kernel
theorem dX9_init_322 : decode cX9_init 322 = .ok (.iinc 1 1, 3) := by decide +kernel
theorem dX9_init_325 : decode cX9_init 325 = .ok (.goto (-16), 3) := by decide +kernel
theorem dX9_init_328 : decode cX9_init 328 = .ok (.return_, 1) := by decide +kernel
theorem dX9_feed_0 : decode cX9_feed 0 = .ok (.aload_n 0, 1) := by decide +kernel
theorem dX9_feed_1 : decode cX9_feed 1 = .ok (.getfield 116, 3) := by decide +kernel
theorem dX9_feed_4 : decode cX9_feed 4 = .ok (.bipush 20, 2) := by decide +kernel
theorem dX9_feed_6 : decode cX9_feed 6 = .ok (.iadd, 1) := by decide +kernel
theorem dX9_feed_7 : decode cX9_feed 7 = .ok (.sipush 4000, 3) := by decide +kernel
theorem dX9_feed_10 : decode cX9_feed 10 = .ok (.if_icmp .le 5, 3) := by decide +kernel
theorem dX9_feed_13 : decode cX9_feed 13 = .ok (.iconst (-1), 1) := by decide +kernel
theorem dX9_feed_14 : decode cX9_feed 14 = .ok (.ireturn, 1) := by decide +kernel
theorem dX9_feed_15 : decode cX9_feed 15 = .ok (.aload_n 0, 1) := by decide +kernel
theorem dX9_feed_16 : decode cX9_feed 16 = .ok (.getfield 120, 3) := by decide +kernel
theorem dX9_feed_19 : decode cX9_feed 19 = .ok (.ifCond .eq 6, 3) := by decide +kernel
theorem dX9_feed_22 : decode cX9_feed 22 = .ok (.bipush (-2), 2) := by decide +kernel
theorem dX9_feed_24 : decode cX9_feed 24 = .ok (.ireturn, 1) := by decide +kernel
theorem dX9_feed_25 : decode cX9_feed 25 = .ok (.iconst 0, 1) := by decide +kernel
theorem dX9_feed_26 : decode cX9_feed 26 = .ok (.istore 6, 2) := by decide +kernel
theorem dX9_feed_28 : decode cX9_feed 28 = .ok (.iload 6, 2) := by decide +kernel
theorem dX9_feed_30 : decode cX9_feed 30 = .ok (.bipush 20, 2) := by decide +kernel
theorem dX9_feed_32 : decode cX9_feed 32 = .ok (.if_icmp .ge 90, 3) := by decide +kernel
theorem dX9_feed_35 : decode cX9_feed 35 = .ok (.iload 6, 2) := by decide +kernel
theorem dX9_feed_37 : decode cX9_feed 37 = .ok (.iconst 4, 1) := by decide +kernel
theorem dX9_feed_38 : decode cX9_feed 38 = .ok (.if_icmp .ge 7, 3) := by decide +kernel
theorem dX9_feed_41 : decode cX9_feed 41 = .ok (.iload_n 1, 1) := by decide +kernel
theorem dX9_feed_42 : decode cX9_feed 42 = .ok (.goto 39, 3) := by decide +kernel
theorem dX9_feed_45 : decode cX9_feed 45 = .ok (.iload 6, 2) := by decide +kernel
theorem dX9_feed_47 : decode cX9_feed 47 = .ok (.bipush 8, 2) := by decide +kernel
theorem dX9_feed_49 : decode cX9_feed 49 = .ok (.if_icmp .ge 7, 3) := by decide +kernel
theorem dX9_feed_52 : decode cX9_feed 52 = .ok (.iload_n 2, 1) := by decide +kernel
theorem dX9_feed_53 : decode cX9_feed 53 = .ok (.goto 28, 3) := by decide +kernel
theorem dX9_feed_56 : decode cX9_feed 56 = .ok (.iload 6, 2) := by decide +kernel
theorem dX9_feed_58 : decode cX9_feed 58 = .ok (.bipush 12, 2) := by decide +kernel
theorem dX9_feed_60 : decode cX9_feed 60 = .ok (.if_icmp .ge 7, 3) := by decide +kernel
theorem dX9_feed_63 : decode cX9_feed 63 = .ok (.iload_n 3, 1) := by decide +kernel
theorem dX9_feed_64 : decode cX9_feed 64 = .ok (.goto 17, 3) := by decide +kernel
theorem dX9_feed_67 : decode cX9_feed 67 = .ok (.iload 6, 2) := by decide +kernel
theorem dX9_feed_69 : decode cX9_feed 69 = .ok (.bipush 16, 2) := by decide +kernel
theorem dX9_feed_71 : decode cX9_feed 71 = .ok (.if_icmp .ge 8, 3) := by decide +kernel
theorem dX9_feed_74 : decode cX9_feed 74 = .ok (.iload 4, 2) := by decide +kernel
theorem dX9_feed_76 : decode cX9_feed 76 = .ok (.goto 5, 3) := by decide +kernel
theorem dX9_feed_79 : decode cX9_feed 79 = .ok (.iload 5, 2) := by decide +kernel
theorem dX9_feed_81 : decode cX9_feed 81 = .ok (.istore 7, 2) := by decide +kernel
theorem dX9_feed_83 : decode cX9_feed 83 = .ok (.aload_n 0, 1) := by decide +kernel
theorem dX9_feed_84 : decode cX9_feed 84 = .ok (.getfield 9, 3) := by decide +kernel
theorem dX9_feed_87 : decode cX9_feed 87 = .ok (.aload_n 0, 1) := by decide +kernel
theorem dX9_feed_88 : decode cX9_feed 88 = .ok (.getfield 116, 3) := by decide +kernel
theorem dX9_feed_91 : decode cX9_feed 91 = .ok (.iload 7, 2) := by decide +kernel
theorem dX9_feed_93 : decode cX9_feed 93 = .ok (.bipush 24, 2) := by decide +kernel
theorem dX9_feed_95 : decode cX9_feed 95 = .ok (.bipush 8, 2) := by decide +kernel
theorem dX9_feed_97 : decode cX9_feed 97 = .ok (.iload 6, 2) := by decide +kernel
theorem dX9_feed_99 : decode cX9_feed 99 = .ok (.iconst 4, 1) := by decide +kernel
theorem dX9_feed_100 : decode cX9_feed 100 = .ok (.irem, 1) := by decide +kernel
theorem dX9_feed_101 : decode cX9_feed 101 = .ok (.imul, 1) := by decide +kernel
theorem dX9_feed_102 : decode cX9_feed 102 = .ok (.isub, 1) := by decide +kernel
theorem dX9_feed_103 : decode cX9_feed 103 = .ok (.ishr, 1) := by decide +kernel
theorem dX9_feed_104 : decode cX9_feed 104 = .ok (.i2b, 1) := by decide +kernel
theorem dX9_feed_105 : decode cX9_feed 105 = .ok (.bastore, 1) := by decide +kernel
theorem dX9_feed_106 : decode cX9_feed 106 = .ok (.aload_n 0, 1) := by decide +kernel
theorem dX9_feed_107 : decode cX9_feed 107 = .ok (.dup, 1) := by decide +kernel
theorem dX9_feed_108 : decode cX9_feed 108 = .ok (.getfield 116, 3) := by decide +kernel
theorem dX9_feed_111 : decode cX9_feed 111 = .ok (.iconst 1, 1) := by decide +kernel
theorem dX9_feed_112 : decode cX9_feed 112 = .ok (.iadd, 1) := by decide +kernel
theorem dX9_feed_113 : decode cX9_feed 113 = .ok (.putfield 116, 3) := by decide +kernel
theorem dX9_feed_116 : decode cX9_feed 116 = .ok (.iinc 6 1, 3) := by decide +kernel
theorem dX9_feed_119 : decode cX9_feed 119 = .ok (.goto (-91), 3) := by decide +kernel
theorem dX9_feed_122 : decode cX9_feed 122 = .ok (.aload_n 0, 1) := by decide +kernel
theorem dX9_feed_123 : decode cX9_feed 123 = .ok (.getfield 116, 3) := by decide +kernel
theorem dX9_feed_126 : decode cX9_feed 126 = .ok (.ireturn, 1) := by decide +kernel
theorem dX9_end_0 : decode cX9_end 0 = .ok (.iload_n 1, 1) := by decide +kernel
theorem dX9_end_1 : decode cX9_end 1 = .ok (.ifCond .lt 11, 3) := by decide +kernel
theorem dX9_end_4 : decode cX9_end 4 = .ok (.iload_n 1, 1) := by decide +kernel
theorem dX9_end_5 : decode cX9_end 5 = .ok (.aload_n 0, 1) := by decide +kernel
theorem dX9_end_6 : decode cX9_end 6 = .ok (.getfield 116, 3) := by decide +kernel
theorem dX9_end_9 : decode cX9_end 9 = .ok (.if_icmp .le 5, 3) := by decide +kernel
theorem dX9_end_12 : decode cX9_end 12 = .ok (.iconst (-1), 1) := by decide +kernel
theorem dX9_end_13 : decode cX9_end 13 = .ok (.ireturn, 1) := by decide +kernel
theorem dX9_end_14 : decode cX9_end 14 = .ok (.aload_n 0, 1) := by decide +kernel
theorem dX9_end_15 : decode cX9_end 15 = .ok (.getfield 120, 3) := by decide +kernel
theorem dX9_end_18 : decode cX9_end 18 = .ok (.ifCond .eq 6, 3) := by decide +kernel
theorem dX9_end_21 : decode cX9_end 21 = .ok (.bipush (-2), 2) := by decide +kernel
theorem dX9_end_23 : decode cX9_end 23 = .ok (.ireturn, 1) := by decide +kernel
theorem dX9_end_24 : decode cX9_end 24 = .ok (.aload_n 0, 1) := by decide +kernel
theorem dX9_end_25 : decode cX9_end 25 = .ok (.iload_n 1, 1) := by decide +kernel
theorem dX9_end_26 : decode cX9_end 26 = .ok (.putfield 116, 3) := by decide +kernel
theorem dX9_end_29 : decode cX9_end 29 = .ok (.iload_n 1, 1) := by decide +kernel
theorem dX9_end_30 : decode cX9_end 30 = .ok (.ireturn, 1) := by decide +kernel
theorem dX9_rule_0 : decode cX9_rule 0 = .ok (.iload_n 1, 1) := by decide +kernel
theorem dX9_rule_1 : decode cX9_rule 1 = .ok (.iconst 1, 1) := by decide +kernel
theorem dX9_rule_2 : decode cX9_rule 2 = .ok (.if_icmp .lt 30, 3) := by decide +kernel
theorem dX9_rule_5 : decode cX9_rule 5 = .ok (.iload_n 1, 1) := by decide +kernel
theorem dX9_rule_6 : decode cX9_rule 6 = .ok (.bipush 29, 2) := by decide +kernel
theorem dX9_rule_8 : decode cX9_rule 8 = .ok (.if_icmp .gt 24, 3) := by decide +kernel
theorem dX9_rule_11 : decode cX9_rule 11 = .ok (.iload_n 2, 1) := by decide +kernel
theorem dX9_rule_12 : decode cX9_rule 12 = .ok (.iconst (-1), 1) := by decide +kernel
theorem dX9_rule_13 : decode cX9_rule 13 = .ok (.if_icmp .lt 19, 3) := by decide +kernel
theorem dX9_rule_16 : decode cX9_rule 16 = .ok (.iload_n 2, 1) := by decide +kernel
theorem dX9_rule_17 : decode cX9_rule 17 = .ok (.iconst 4, 1) := by decide +kernel
theorem dX9_rule_18 : decode cX9_rule 18 = .ok (.if_icmp .gt 14, 3) := by decide +kernel
theorem dX9_rule_21 : decode cX9_rule 21 = .ok (.iload_n 3, 1) := by decide +kernel
theorem dX9_rule_22 : decode cX9_rule 22 = .ok (.iconst (-1), 1) := by decide +kernel
theorem dX9_rule_23 : decode cX9_rule 23 = .ok (.if_icmp .lt 9, 3) := by decide +kernel
theorem dX9_rule_26 : decode cX9_rule 26 = .ok (.iload_n 3, 1) := by decide +kernel
theorem dX9_rule_27 : decode cX9_rule 27 = .ok (.ldc 124, 2) := by decide +kernel
theorem dX9_rule_29 : decode cX9_rule 29 = .ok (.if_icmp .le 6, 3) := by decide +kernel
theorem dX9_rule_32 : decode cX9_rule 32 = .ok (.bipush (-3), 2) := by decide +kernel
theorem dX9_rule_34 : decode cX9_rule 34 = .ok (.ireturn, 1) := by decide +kernel
theorem dX9_rule_35 : decode cX9_rule 35 = .ok (.aload_n 0, 1) := by decide +kernel
theorem dX9_rule_36 : decode cX9_rule 36 = .ok (.getfield 120, 3) := by decide +kernel
theorem dX9_rule_39 : decode cX9_rule 39 = .ok (.ifCond .eq 6, 3) := by decide +kernel
theorem dX9_rule_42 : decode cX9_rule 42 = .ok (.bipush (-2), 2) := by decide +kernel
theorem dX9_rule_44 : decode cX9_rule 44 = .ok (.ireturn, 1) := by decide +kernel
theorem dX9_rule_45 : decode cX9_rule 45 = .ok (.aload_n 0, 1) := by decide +kernel
theorem dX9_rule_46 : decode cX9_rule 46 = .ok (.getfield 13, 3) := by decide +kernel
theorem dX9_rule_49 : decode cX9_rule 49 = .ok (.iload_n 1, 1) := by decide +kernel
theorem dX9_rule_50 : decode cX9_rule 50 = .ok (.iaload, 1) := by decide +kernel
theorem dX9_rule_51 : decode cX9_rule 51 = .ok (.istore 4, 2) := by decide +kernel
theorem dX9_rule_53 : decode cX9_rule 53 = .ok (.aload_n 0, 1) := by decide +kernel
theorem dX9_rule_54 : decode cX9_rule 54 = .ok (.getfield 13, 3) := by decide +kernel
theorem dX9_rule_57 : decode cX9_rule 57 = .ok (.iload_n 1, 1) := by decide +kernel
theorem dX9_rule_58 : decode cX9_rule 58 = .ok (.iload_n 2, 1) := by decide +kernel
theorem dX9_rule_59 : decode cX9_rule 59 = .ok (.iastore, 1) := by decide +kernel
theorem dX9_rule_60 : decode cX9_rule 60 = .ok (.aload_n 0, 1) := by decide +kernel
theorem dX9_rule_61 : decode cX9_rule 61 = .ok (.getfield 17, 3) := by decide +kernel
theorem dX9_rule_64 : decode cX9_rule 64 = .ok (.iload_n 1, 1) := by decide +kernel
theorem dX9_rule_65 : decode cX9_rule 65 = .ok (.iload_n 3, 1) := by decide +kernel
theorem dX9_rule_66 : decode cX9_rule 66 = .ok (.iastore, 1) := by decide +kernel
theorem dX9_rule_67 : decode cX9_rule 67 = .ok (.iload 4, 2) := by decide +kernel
theorem dX9_rule_69 : decode cX9_rule 69 = .ok (.ireturn, 1) := by decide +kernel
theorem dX9_groupOf_0 : decode cX9_groupOf 0 = .ok (.iload_n 0, 1) := by decide +kernel
theorem dX9_groupOf_1 : decode cX9_groupOf 1 = .ok (.bipush 24, 2) := by decide +kernel
theorem dX9_groupOf_3 : decode cX9_groupOf 3 = .ok (.if_icmp .le 16, 3) := by decide +kernel
theorem dX9_groupOf_6 : decode cX9_groupOf 6 = .ok (.iload_n 0, 1) := by decide +kernel
theorem dX9_groupOf_7 : decode cX9_groupOf 7 = .ok (.bipush 29, 2) := by decide +kernel
theorem dX9_groupOf_9 : decode cX9_groupOf 9 = .ok (.if_icmp .ne 7, 3) := by decide +kernel
theorem dX9_groupOf_12 : decode cX9_groupOf 12 = .ok (.iconst 0, 1) := by decide +kernel
theorem dX9_groupOf_13 : decode cX9_groupOf 13 = .ok (.goto 5, 3) := by decide +kernel
theorem dX9_groupOf_16 : decode cX9_groupOf 16 = .ok (.bipush 29, 2) := by decide +kernel
theorem dX9_groupOf_18 : decode cX9_groupOf 18 = .ok (.ireturn, 1) := by decide +kernel
theorem dX9_groupOf_19 : decode cX9_groupOf 19 = .ok (.iload_n 0, 1) := by decide +kernel
theorem dX9_groupOf_20 : decode cX9_groupOf 20 = .ok (.bipush 24, 2) := by decide +kernel
theorem dX9_groupOf_22 : decode cX9_groupOf 22 = .ok (.if_icmp .ne 6, 3) := by decide +kernel
theorem dX9_groupOf_25 : decode cX9_groupOf 25 = .ok (.bipush 29, 2) := by decide +kernel
theorem dX9_groupOf_27 : decode cX9_groupOf 27 = .ok (.ireturn, 1) := by decide +kernel
theorem dX9_groupOf_28 : decode cX9_groupOf 28 = .ok (.iload_n 0, 1) := by decide +kernel
theorem dX9_groupOf_29 : decode cX9_groupOf 29 = .ok (.bipush 21, 2) := by decide +kernel
theorem dX9_groupOf_31 : decode cX9_groupOf 31 = .ok (.if_icmp .le 6, 3) := by decide +kernel
theorem dX9_groupOf_34 : decode cX9_groupOf 34 = .ok (.bipush 25, 2) := by decide +kernel
theorem dX9_groupOf_36 : decode cX9_groupOf 36 = .ok (.ireturn, 1) := by decide +kernel
theorem dX9_groupOf_37 : decode cX9_groupOf 37 = .ok (.iload_n 0, 1) := by decide +kernel
theorem dX9_groupOf_38 : decode cX9_groupOf 38 = .ok (.bipush 18, 2) := by decide +kernel
theorem dX9_groupOf_40 : decode cX9_groupOf 40 = .ok (.if_icmp .le 6, 3) := by decide +kernel
theorem dX9_groupOf_43 : decode cX9_groupOf 43 = .ok (.bipush 28, 2) := by decide +kernel
theorem dX9_groupOf_45 : decode cX9_groupOf 45 = .ok (.ireturn, 1) := by decide +kernel
theorem dX9_groupOf_46 : decode cX9_groupOf 46 = .ok (.iload_n 0, 1) := by decide +kernel
theorem dX9_groupOf_47 : decode cX9_groupOf 47 = .ok (.bipush 13, 2) := by decide +kernel
theorem dX9_groupOf_49 : decode cX9_groupOf 49 = .ok (.if_icmp .le 6, 3) := by decide +kernel
theorem dX9_groupOf_52 : decode cX9_groupOf 52 = .ok (.bipush 27, 2) := by decide +kernel
theorem dX9_groupOf_54 : decode cX9_groupOf 54 = .ok (.ireturn, 1) := by decide +kernel
theorem dX9_groupOf_55 : decode cX9_groupOf 55 = .ok (.iload_n 0, 1) := by decide +kernel
theorem dX9_groupOf_56 : decode cX9_groupOf 56 = .ok (.bipush 8, 2) := by decide +kernel
theorem dX9_groupOf_58 : decode cX9_groupOf 58 = .ok (.if_icmp .le 6, 3) := by decide +kernel
theorem dX9_groupOf_61 : decode cX9_groupOf 61 = .ok (.bipush 26, 2) := by decide +kernel
theorem dX9_groupOf_63 : decode cX9_groupOf 63 = .ok (.ireturn, 1) := by decide +kernel
theorem dX9_groupOf_64 : decode cX9_groupOf 64 = .ok (.iload_n 0, 1) := by decide +kernel
theorem dX9_groupOf_65 : decode cX9_groupOf 65 = .ok (.iconst 1, 1) := by decide +kernel
theorem dX9_groupOf_66 : decode cX9_groupOf 66 = .ok (.if_icmp .ne 8, 3) := by decide +kernel
theorem dX9_groupOf_69 : decode cX9_groupOf 69 = .ok (.bipush 24, 2) := by decide +kernel
theorem dX9_groupOf_71 : decode cX9_groupOf 71 = .ok (.goto 35, 3) := by decide +kernel
theorem dX9_groupOf_74 : decode cX9_groupOf 74 = .ok (.iload_n 0, 1) := by decide +kernel
theorem dX9_groupOf_75 : decode cX9_groupOf 75 = .ok (.iconst 2, 1) := by decide +kernel
theorem dX9_groupOf_76 : decode cX9_groupOf 76 = .ok (.if_icmp .eq 8, 3) := by decide +kernel
theorem dX9_groupOf_79 : decode cX9_groupOf 79 = .ok (.iload_n 0, 1) := by decide +kernel
theorem dX9_groupOf_80 : decode cX9_groupOf 80 = .ok (.iconst 3, 1) := by decide +kernel
theorem dX9_groupOf_81 : decode cX9_groupOf 81 = .ok (.if_icmp .ne 8, 3) := by decide +kernel
theorem dX9_groupOf_84 : decode cX9_groupOf 84 = .ok (.bipush 22, 2) := by decide +kernel
theorem dX9_groupOf_86 : decode cX9_groupOf 86 = .ok (.goto 20, 3) := by decide +kernel
theorem dX9_groupOf_89 : decode cX9_groupOf 89 = .ok (.iload_n 0, 1) := by decide +kernel
theorem dX9_groupOf_90 : decode cX9_groupOf 90 = .ok (.iconst 4, 1) := by decide +kernel
theorem dX9_groupOf_91 : decode cX9_groupOf 91 = .ok (.if_icmp .eq 8, 3) := by decide +kernel
theorem dX9_groupOf_94 : decode cX9_groupOf 94 = .ok (.iload_n 0, 1) := by decide +kernel
theorem dX9_groupOf_95 : decode cX9_groupOf 95 = .ok (.iconst 5, 1) := by decide +kernel
theorem dX9_groupOf_96 : decode cX9_groupOf 96 = .ok (.if_icmp .ne 8, 3) := by decide +kernel
theorem dX9_groupOf_99 : decode cX9_groupOf 99 = .ok (.bipush 23, 2) := by decide +kernel
theorem dX9_groupOf_101 : decode cX9_groupOf 101 = .ok (.goto 5, 3) := by decide +kernel
theorem dX9_groupOf_104 : decode cX9_groupOf 104 = .ok (.bipush 25, 2) := by decide +kernel
theorem dX9_groupOf_106 : decode cX9_groupOf 106 = .ok (.ireturn, 1) := by decide +kernel
theorem dX9_layerOf_0 : decode cX9_layerOf 0 = .ok (.iload_n 0, 1) := by decide +kernel
theorem dX9_layerOf_1 : decode cX9_layerOf 1 = .ok (.iconst 1, 1) := by decide +kernel
theorem dX9_layerOf_2 : decode cX9_layerOf 2 = .ok (.if_icmp .ne 7, 3) := by decide +kernel
theorem dX9_layerOf_5 : decode cX9_layerOf 5 = .ok (.iconst 1, 1) := by decide +kernel
theorem dX9_layerOf_6 : decode cX9_layerOf 6 = .ok (.goto 34, 3) := by decide +kernel
theorem dX9_layerOf_9 : decode cX9_layerOf 9 = .ok (.iload_n 0, 1) := by decide +kernel
theorem dX9_layerOf_10 : decode cX9_layerOf 10 = .ok (.bipush 9, 2) := by decide +kernel
theorem dX9_layerOf_12 : decode cX9_layerOf 12 = .ok (.if_icmp .ge 7, 3) := by decide +kernel
theorem dX9_layerOf_15 : decode cX9_layerOf 15 = .ok (.iconst 2, 1) := by decide +kernel
theorem dX9_layerOf_16 : decode cX9_layerOf 16 = .ok (.goto 24, 3) := by decide +kernel
theorem dX9_layerOf_19 : decode cX9_layerOf 19 = .ok (.iload_n 0, 1) := by decide +kernel
theorem dX9_layerOf_20 : decode cX9_layerOf 20 = .ok (.bipush 14, 2) := by decide +kernel
theorem dX9_layerOf_22 : decode cX9_layerOf 22 = .ok (.if_icmp .ge 7, 3) := by decide +kernel
theorem dX9_layerOf_25 : decode cX9_layerOf 25 = .ok (.iconst 3, 1) := by decide +kernel
theorem dX9_layerOf_26 : decode cX9_layerOf 26 = .ok (.goto 14, 3) := by decide +kernel
theorem dX9_layerOf_29 : decode cX9_layerOf 29 = .ok (.iload_n 0, 1) := by decide +kernel
theorem dX9_layerOf_30 : decode cX9_layerOf 30 = .ok (.bipush 19, 2) := by decide +kernel
theorem dX9_layerOf_32 : decode cX9_layerOf 32 = .ok (.if_icmp .ge 7, 3) := by decide +kernel
theorem dX9_layerOf_35 : decode cX9_layerOf 35 = .ok (.iconst 4, 1) := by decide +kernel
theorem dX9_layerOf_36 : decode cX9_layerOf 36 = .ok (.goto 4, 3) := by decide +kernel
theorem dX9_layerOf_39 : decode cX9_layerOf 39 = .ok (.iconst 5, 1) := by decide +kernel
theorem dX9_layerOf_40 : decode cX9_layerOf 40 = .ok (.ireturn, 1) := by decide +kernel
set_option maxRecDepth 20000 in
theorem ggX9_fail_X9_groupOf : GoodIn wsX9_fail wsX9_groupOf := goodIn_r _ [19] (by decide +kernel) (by decide +kernel)
set_option maxRecDepth 20000 in
theorem gX9_fail_X9_groupOf : GoodIn wsX9_fail (va_wsS RX9 131 yX9_groupOf wsX9_groupOf) := goodIn_app (goodIn_of _ (by decide +kernel)) ggX9_fail_X9_groupOf
set_option maxRecDepth 20000 in
theorem ggX9_fail_X9_layerOf : GoodIn wsX9_fail wsX9_layerOf := goodIn_r _ [22] (by decide +kernel) (by decide +kernel)
set_option maxRecDepth 20000 in
theorem gX9_fail_X9_layerOf : GoodIn wsX9_fail (va_wsS RX9 138 yX9_layerOf wsX9_layerOf) := goodIn_app (goodIn_of _ (by decide +kernel)) ggX9_fail_X9_layerOf
theorem dX9_fail_0 : decode cX9_fail 0 = .ok (.aload_n 0, 1) := by decide +kernel
theorem dX9_fail_1 : decode cX9_fail 1 = .ok (.iconst 0, 1) := by decide +kernel
theorem dX9_fail_2 : decode cX9_fail 2 = .ok (.putfield 125, 3) := by decide +kernel
theorem dX9_fail_5 : decode cX9_fail 5 = .ok (.aload_n 0, 1) := by decide +kernel
theorem dX9_fail_6 : decode cX9_fail 6 = .ok (.iconst (-1), 1) := by decide +kernel
theorem dX9_fail_7 : decode cX9_fail 7 = .ok (.putfield 128, 3) := by decide +kernel
theorem dX9_fail_10 : decode cX9_fail 10 = .ok (.iload_n 1, 1) := by decide +kernel
theorem dX9_fail_11 : decode cX9_fail 11 = .ok (.istore 4, 2) := by decide +kernel
theorem dX9_fail_13 : decode cX9_fail 13 = .ok (.iload 4, 2) := by decide +kernel
theorem dX9_fail_15 : decode cX9_fail 15 = .ok (.ifCond .eq 48, 3) := by decide +kernel
theorem dX9_fail_18 : decode cX9_fail 18 = .ok (.aload_n 0, 1) := by decide +kernel
theorem dX9_fail_19 : decode cX9_fail 19 = .ok (.getfield 13, 3) := by decide +kernel
theorem dX9_fail_22 : decode cX9_fail 22 = .ok (.iload 4, 2) := by decide +kernel
theorem dX9_fail_24 : decode cX9_fail 24 = .ok (.iaload, 1) := by decide +kernel
theorem dX9_fail_25 : decode cX9_fail 25 = .ok (.ifCond .lt 28, 3) := by decide +kernel
theorem dX9_fail_28 : decode cX9_fail 28 = .ok (.aload_n 0, 1) := by decide +kernel
theorem dX9_fail_29 : decode cX9_fail 29 = .ok (.aload_n 0, 1) := by decide +kernel
theorem dX9_fail_30 : decode cX9_fail 30 = .ok (.getfield 13, 3) := by decide +kernel
theorem dX9_fail_33 : decode cX9_fail 33 = .ok (.iload 4, 2) := by decide +kernel
theorem dX9_fail_35 : decode cX9_fail 35 = .ok (.iaload, 1) := by decide +kernel
theorem dX9_fail_36 : decode cX9_fail 36 = .ok (.putfield 125, 3) := by decide +kernel
theorem dX9_fail_39 : decode cX9_fail 39 = .ok (.aload_n 0, 1) := by decide +kernel
theorem dX9_fail_40 : decode cX9_fail 40 = .ok (.aload_n 0, 1) := by decide +kernel
theorem dX9_fail_41 : decode cX9_fail 41 = .ok (.getfield 17, 3) := by decide +kernel
theorem dX9_fail_44 : decode cX9_fail 44 = .ok (.iload 4, 2) := by decide +kernel
theorem dX9_fail_46 : decode cX9_fail 46 = .ok (.iaload, 1) := by decide +kernel
theorem dX9_fail_47 : decode cX9_fail 47 = .ok (.putfield 128, 3) := by decide +kernel
theorem dX9_fail_50 : decode cX9_fail 50 = .ok (.goto 13, 3) := by decide +kernel
theorem dX9_fail_53 : decode cX9_fail 53 = .ok (.iload 4, 2) := by decide +kernel
theorem dX9_fail_55 : decode cX9_fail 55 = .ok (.invokestatic 131, 3) := by decide +kernel
theorem dX9_fail_58 : decode cX9_fail 58 = .ok (.istore 4, 2) := by decide +kernel
theorem dX9_fail_60 : decode cX9_fail 60 = .ok (.goto (-47), 3) := by decide +kernel
theorem dX9_fail_63 : decode cX9_fail 63 = .ok (.aload_n 0, 1) := by decide +kernel
theorem dX9_fail_64 : decode cX9_fail 64 = .ok (.getfield 135, 3) := by decide +kernel
theorem dX9_fail_67 : decode cX9_fail 67 = .ok (.istore 4, 2) := by decide +kernel
theorem dX9_fail_69 : decode cX9_fail 69 = .ok (.iload_n 1, 1) := by decide +kernel
theorem dX9_fail_70 : decode cX9_fail 70 = .ok (.invokestatic 138, 3) := by decide +kernel
theorem dX9_fail_73 : decode cX9_fail 73 = .ok (.istore 5, 2) := by decide +kernel
theorem dX9_fail_75 : decode cX9_fail 75 = .ok (.iload 5, 2) := by decide +kernel
theorem dX9_fail_77 : decode cX9_fail 77 = .ok (.iconst 5, 1) := by decide +kernel
theorem dX9_fail_78 : decode cX9_fail 78 = .ok (.if_icmp .eq 10, 3) := by decide +kernel
theorem dX9_fail_81 : decode cX9_fail 81 = .ok (.aload_n 0, 1) := by decide +kernel
theorem dX9_fail_82 : decode cX9_fail 82 = .ok (.getfield 141, 3) := by decide +kernel
theorem dX9_fail_85 : decode cX9_fail 85 = .ok (.ifCond .ne 13, 3) := by decide +kernel
theorem dX9_fail_88 : decode cX9_fail 88 = .ok (.aload_n 0, 1) := by decide +kernel
theorem dX9_fail_89 : decode cX9_fail 89 = .ok (.getfield 71, 3) := by decide +kernel
theorem dX9_fail_92 : decode cX9_fail 92 = .ok (.iload 5, 2) := by decide +kernel
theorem dX9_fail_94 : decode cX9_fail 94 = .ok (.iaload, 1) := by decide +kernel
theorem dX9_fail_95 : decode cX9_fail 95 = .ok (.goto 10, 3) := by decide +kernel
theorem dX9_fail_98 : decode cX9_fail 98 = .ok (.aload_n 0, 1) := by decide +kernel
theorem dX9_fail_99 : decode cX9_fail 99 = .ok (.getfield 68, 3) := by decide +kernel
theorem dX9_fail_102 : decode cX9_fail 102 = .ok (.iload 5, 2) := by decide +kernel
theorem dX9_fail_104 : decode cX9_fail 104 = .ok (.iaload, 1) := by decide +kernel
theorem dX9_fail_105 : decode cX9_fail 105 = .ok (.istore 6, 2) := by decide +kernel
theorem dX9_fail_107 : decode cX9_fail 107 = .ok (.iload 6, 2) := by decide +kernel
theorem dX9_fail_109 : decode cX9_fail 109 = .ok (.ifCond .ge 37, 3) := by decide +kernel
theorem dX9_fail_112 : decode cX9_fail 112 = .ok (.iload 5, 2) := by decide +kernel
theorem dX9_fail_114 : decode cX9_fail 114 = .ok (.iconst 5, 1) := by decide +kernel
theorem dX9_fail_115 : decode cX9_fail 115 = .ok (.if_icmp .eq 10, 3) := by decide +kernel
theorem dX9_fail_118 : decode cX9_fail 118 = .ok (.aload_n 0, 1) := by decide +kernel
theorem dX9_fail_119 : decode cX9_fail 119 = .ok (.getfield 141, 3) := by decide +kernel
theorem dX9_fail_122 : decode cX9_fail 122 = .ok (.ifCond .ne 15, 3) := by decide +kernel
theorem dX9_fail_125 : decode cX9_fail 125 = .ok (.aload_n 0, 1) := by decide +kernel
theorem dX9_fail_126 : decode cX9_fail 126 = .ok (.getfield 71, 3) := by decide +kernel
theorem dX9_fail_129 : decode cX9_fail 129 = .ok (.iload 5, 2) := by decide +kernel
theorem dX9_fail_131 : decode cX9_fail 131 = .ok (.iload 4, 2) := by decide +kernel
theorem dX9_fail_133 : decode cX9_fail 133 = .ok (.iastore, 1) := by decide +kernel
theorem dX9_fail_134 : decode cX9_fail 134 = .ok (.goto 12, 3) := by decide +kernel
theorem dX9_fail_137 : decode cX9_fail 137 = .ok (.aload_n 0, 1) := by decide +kernel
theorem dX9_fail_138 : decode cX9_fail 138 = .ok (.getfield 68, 3) := by decide +kernel
theorem dX9_fail_141 : decode cX9_fail 141 = .ok (.iload 5, 2) := by decide +kernel
theorem dX9_fail_143 : decode cX9_fail 143 = .ok (.iload 4, 2) := by decide +kernel
theorem dX9_fail_145 : decode cX9_fail 145 = .ok (.iastore, 1) := by decide +kernel
theorem dX9_fail_146 : decode cX9_fail 146 = .ok (.iload 4, 2) := by decide +kernel
theorem dX9_fail_148 : decode cX9_fail 148 = .ok (.sipush 300, 3) := by decide +kernel
theorem dX9_fail_151 : decode cX9_fail 151 = .ok (.if_icmp .ge 47, 3) := by decide +kernel
theorem dX9_fail_154 : decode cX9_fail 154 = .ok (.aload_n 0, 1) := by decide +kernel
theorem dX9_fail_155 : decode cX9_fail 155 = .ok (.getfield 50, 3) := by decide +kernel
theorem dX9_fail_158 : decode cX9_fail 158 = .ok (.iload 4, 2) := by decide +kernel
theorem dX9_fail_160 : decode cX9_fail 160 = .ok (.iload_n 1, 1) := by decide +kernel
theorem dX9_fail_161 : decode cX9_fail 161 = .ok (.iastore, 1) := by decide +kernel
theorem dX9_fail_162 : decode cX9_fail 162 = .ok (.aload_n 0, 1) := by decide +kernel
theorem dX9_fail_163 : decode cX9_fail 163 = .ok (.getfield 53, 3) := by decide +kernel
theorem dX9_fail_166 : decode cX9_fail 166 = .ok (.iload 4, 2) := by decide +kernel
theorem dX9_fail_168 : decode cX9_fail 168 = .ok (.iload_n 2, 1) := by decide +kernel
theorem dX9_fail_169 : decode cX9_fail 169 = .ok (.iastore, 1) := by decide +kernel
theorem dX9_fail_170 : decode cX9_fail 170 = .ok (.aload_n 0, 1) := by decide +kernel
theorem dX9_fail_171 : decode cX9_fail 171 = .ok (.getfield 56, 3) := by decide +kernel
theorem dX9_fail_174 : decode cX9_fail 174 = .ok (.iload 4, 2) := by decide +kernel
theorem dX9_fail_176 : decode cX9_fail 176 = .ok (.iload_n 3, 1) := by decide +kernel
theorem dX9_fail_177 : decode cX9_fail 177 = .ok (.iastore, 1) := by decide +kernel
theorem dX9_fail_178 : decode cX9_fail 178 = .ok (.aload_n 0, 1) := by decide +kernel
theorem dX9_fail_179 : decode cX9_fail 179 = .ok (.getfield 59, 3) := by decide +kernel
theorem dX9_fail_182 : decode cX9_fail 182 = .ok (.iload 4, 2) := by decide +kernel
theorem dX9_fail_184 : decode cX9_fail 184 = .ok (.iload 6, 2) := by decide +kernel
theorem dX9_fail_186 : decode cX9_fail 186 = .ok (.iastore, 1) := by decide +kernel
theorem dX9_fail_187 : decode cX9_fail 187 = .ok (.aload_n 0, 1) := by decide +kernel
theorem dX9_fail_188 : decode cX9_fail 188 = .ok (.getfield 62, 3) := by decide +kernel
theorem dX9_fail_191 : decode cX9_fail 191 = .ok (.iload 4, 2) := by decide +kernel
theorem dX9_fail_193 : decode cX9_fail 193 = .ok (.aload_n 0, 1) := by decide +kernel
theorem dX9_fail_194 : decode cX9_fail 194 = .ok (.getfield 125, 3) := by decide +kernel
theorem dX9_fail_197 : decode cX9_fail 197 = .ok (.iastore, 1) := by decide +kernel
theorem dX9_fail_198 : decode cX9_fail 198 = .ok (.aload_n 0, 1) := by decide +kernel
theorem dX9_fail_199 : decode cX9_fail 199 = .ok (.getfield 65, 3) := by decide +kernel
theorem dX9_fail_202 : decode cX9_fail 202 = .ok (.iload_n 1, 1) := by decide +kernel
theorem dX9_fail_203 : decode cX9_fail 203 = .ok (.dup2, 1) := by decide +kernel
theorem dX9_fail_204 : decode cX9_fail 204 = .ok (.iaload, 1) := by decide +kernel
theorem dX9_fail_205 : decode cX9_fail 205 = .ok (.iconst 1, 1) := by decide +kernel
theorem dX9_fail_206 : decode cX9_fail 206 = .ok (.iadd, 1) := by decide +kernel
theorem dX9_fail_207 : decode cX9_fail 207 = .ok (.iastore, 1) := by decide +kernel
theorem dX9_fail_208 : decode cX9_fail 208 = .ok (.aload_n 0, 1) := by decide +kernel
theorem dX9_fail_209 : decode cX9_fail 209 = .ok (.dup, 1) := by decide +kernel
theorem dX9_fail_210 : decode cX9_fail 210 = .ok (.getfield 135, 3) := by decide +kernel
theorem dX9_fail_213 : decode cX9_fail 213 = .ok (.iconst 1, 1) := by decide +kernel
theorem dX9_fail_214 : decode cX9_fail 214 = .ok (.iadd, 1) := by decide +kernel
theorem dX9_fail_215 : decode cX9_fail 215 = .ok (.putfield 135, 3) := by decide +kernel
theorem dX9_fail_218 : decode cX9_fail 218 = .ok (.aload_n 0, 1) := by decide +kernel
theorem dX9_fail_219 : decode cX9_fail 219 = .ok (.aload_n 0, 1) := by decide +kernel
theorem dX9_fail_220 : decode cX9_fail 220 = .ok (.getfield 144, 3) := by decide +kernel
theorem dX9_fail_223 : decode cX9_fail 223 = .ok (.ifCond .ne 11, 3) := by decide +kernel
theorem dX9_fail_226 : decode cX9_fail 226 = .ok (.aload_n 0, 1) := by decide +kernel
theorem dX9_fail_227 : decode cX9_fail 227 = .ok (.getfield 125, 3) := by decide +kernel
theorem dX9_fail_230 : decode cX9_fail 230 = .ok (.iconst 4, 1) := by decide +kernel
theorem dX9_fail_231 : decode cX9_fail 231 = .ok (.if_icmp .ne 7, 3) := by decide +kernel
theorem dX9_fail_234 : decode cX9_fail 234 = .ok (.iconst 1, 1) := by decide +kernel
theorem dX9_fail_235 : decode cX9_fail 235 = .ok (.goto 4, 3) := by decide +kernel
theorem dX9_fail_238 : decode cX9_fail 238 = .ok (.iconst 0, 1) := by decide +kernel
theorem dX9_fail_239 : decode cX9_fail 239 = .ok (.putfield 144, 3) := by decide +kernel
theorem dX9_fail_242 : decode cX9_fail 242 = .ok (.iload 4, 2) := by decide +kernel
theorem dX9_fail_244 : decode cX9_fail 244 = .ok (.ireturn, 1) := by decide +kernel
theorem dX9_goesOn_0 : decode cX9_goesOn 0 = .ok (.iload_n 0, 1) := by decide +kernel
theorem dX9_goesOn_1 : decode cX9_goesOn 1 = .ok (.iconst 1, 1) := by decide +kernel
theorem dX9_goesOn_2 : decode cX9_goesOn 2 = .ok (.if_icmp .eq 8, 3) := by decide +kernel
theorem dX9_goesOn_5 : decode cX9_goesOn 5 = .ok (.iload_n 0, 1) := by decide +kernel
theorem dX9_goesOn_6 : decode cX9_goesOn 6 = .ok (.iconst 2, 1) := by decide +kernel
theorem dX9_goesOn_7 : decode cX9_goesOn 7 = .ok (.if_icmp .ne 7, 3) := by decide +kernel
theorem dX9_goesOn_10 : decode cX9_goesOn 10 = .ok (.iconst 1, 1) := by decide +kernel
theorem dX9_goesOn_11 : decode cX9_goesOn 11 = .ok (.goto 4, 3) := by decide +kernel
theorem dX9_goesOn_14 : decode cX9_goesOn 14 = .ok (.iconst 0, 1) := by decide +kernel
theorem dX9_goesOn_15 : decode cX9_goesOn 15 = .ok (.ireturn, 1) := by decide +kernel
set_option maxRecDepth 20000 in
theorem ggX9_failSheet_X9_fail_1 : GoodIn wsX9_failSheet ([.fieldLink RX9 125 "CensusDeskModel" "way" "I", .fieldLink RX9 128 "CensusDeskModel" "replaced" "I", .fieldLink RX9 13 "CensusDeskModel" "ruleWay" "[I", .fieldLink RX9 17 "CensusDeskModel" "ruleNumber" "[I", .fieldLink RX9 135 "CensusDeskModel" "fails" "I", .fieldLink RX9 141 "CensusDeskModel" "inHouse" "Z", .fieldLink RX9 71 "CensusDeskModel" "firstOut" "[I", .fieldLink RX9 68 "CensusDeskModel" "firstIn" "[I", .fieldLink RX9 50 "CensusDeskModel" "failKind" "[I", .fieldLink RX9 53 "CensusDeskModel" "failPlace" "[I", .fieldLink RX9 56 "CensusDeskModel" "failCause" "[I", .fieldLink RX9 59 "CensusDeskModel" "failFirst" "[I", .fieldLink RX9 62 "CensusDeskModel" "failWay" "[I", .fieldLink RX9 65 "CensusDeskModel" "many" "[I", .fieldLink RX9 144 "CensusDeskModel" "stops" "Z", .methodLink RX9 131 yX9_groupOf, .static yX9_groupOf, .initialized RX9, .code yX9_groupOf cX9_groupOf 1 (some .int), .methodLink RX9 138 yX9_layerOf, .static yX9_layerOf, .code yX9_layerOf cX9_layerOf 1 (some .int)] : List Cond) := goodIn_r _ [2, 8, 9, 10, 11, 12, 13, 14, 15, 16, 17, 18, 19, 20, 21, 22, 23, 6, 24, 25, 26, 27] (by decide +kernel) (by decide +kernel)
set_option maxRecDepth 20000 in
theorem ggX9_failSheet_X9_fail_2 : GoodIn wsX9_failSheet wsX90 := goodIn_r _ [31, 32, 33, 34, 35, 36, 37, 38, 39, 40, 41, 42, 43, 44, 45, 46, 47, 48, 49, 50, 51, 52, 53, 54, 55, 56, 57, 58, 59, 60, 61, 62, 63, 64, 65, 66, 67, 68, 69, 70, 71, 72, 73, 74, 75, 76, 77, 78, 79, 80, 81, 82, 83, 84, 85, 86, 87, 88, 89, 90, 91, 92, 93, 94, 95, 96, 97, 98, 99] (by decide +kernel) (by decide +kernel)
set_option maxRecDepth 20000 in
theorem ggX9_failSheet_X9_fail_0 : GoodIn wsX9_failSheet [.code yX9_fail cX9_fail 7 (some .int)] := goodIn_r _ [7] (by decide +kernel) (by decide +kernel)
theorem ggX9_failSheet_X9_fail : GoodIn wsX9_failSheet wsX9_fail := goodIn_k ggX9_failSheet_X9_fail_0 (goodIn_app ggX9_failSheet_X9_fail_1 ggX9_failSheet_X9_fail_2)
set_option maxRecDepth 20000 in
theorem gX9_failSheet_X9_fail : GoodIn wsX9_failSheet (wsV RX9 147 RX9 yX9_fail wsX9_fail) := goodIn_app (goodIn_of _ (by decide +kernel)) ggX9_failSheet_X9_fail
set_option maxRecDepth 20000 in
theorem ggX9_failSheet_X9_goesOn : GoodIn wsX9_failSheet wsX9_goesOn := goodIn_r _ [30] (by decide +kernel) (by decide +kernel)
set_option maxRecDepth 20000 in
theorem gX9_failSheet_X9_goesOn : GoodIn wsX9_failSheet (va_wsS RX9 154 yX9_goesOn wsX9_goesOn) := goodIn_app (goodIn_of _ (by decide +kernel)) ggX9_failSheet_X9_goesOn
theorem dX9_failSheet_0 : decode cX9_failSheet 0 = .ok (.aload_n 0, 1) := by decide +kernel
theorem dX9_failSheet_1 : decode cX9_failSheet 1 = .ok (.iload_n 1, 1) := by decide +kernel
theorem dX9_failSheet_2 : decode cX9_failSheet 2 = .ok (.iload_n 2, 1) := by decide +kernel
theorem dX9_failSheet_3 : decode cX9_failSheet 3 = .ok (.iload_n 3, 1) := by decide +kernel
theorem dX9_failSheet_4 : decode cX9_failSheet 4 = .ok (.invokevirtual 147, 3) := by decide +kernel
theorem dX9_failSheet_7 : decode cX9_failSheet 7 = .ok (.istore 4, 2) := by decide +kernel
theorem dX9_failSheet_9 : decode cX9_failSheet 9 = .ok (.aload_n 0, 1) := by decide +kernel
theorem dX9_failSheet_10 : decode cX9_failSheet 10 = .ok (.aload_n 0, 1) := by decide +kernel
theorem dX9_failSheet_11 : decode cX9_failSheet 11 = .ok (.getfield 151, 3) := by decide +kernel
theorem dX9_failSheet_14 : decode cX9_failSheet 14 = .ok (.ifCond .ne 21, 3) := by decide +kernel
theorem dX9_failSheet_17 : decode cX9_failSheet 17 = .ok (.aload_n 0, 1) := by decide +kernel
theorem dX9_failSheet_18 : decode cX9_failSheet 18 = .ok (.getfield 125, 3) := by decide +kernel
theorem dX9_failSheet_21 : decode cX9_failSheet 21 = .ok (.invokestatic 154, 3) := by decide +kernel
theorem dX9_failSheet_24 : decode cX9_failSheet 24 = .ok (.ifCond .ne 15, 3) := by decide +kernel
theorem dX9_failSheet_27 : decode cX9_failSheet 27 = .ok (.aload_n 0, 1) := by decide +kernel
theorem dX9_failSheet_28 : decode cX9_failSheet 28 = .ok (.getfield 125, 3) := by decide +kernel
theorem dX9_failSheet_31 : decode cX9_failSheet 31 = .ok (.iconst 4, 1) := by decide +kernel
theorem dX9_failSheet_32 : decode cX9_failSheet 32 = .ok (.if_icmp .eq 7, 3) := by decide +kernel
theorem dX9_failSheet_35 : decode cX9_failSheet 35 = .ok (.iconst 1, 1) := by decide +kernel
theorem dX9_failSheet_36 : decode cX9_failSheet 36 = .ok (.goto 4, 3) := by decide +kernel
theorem dX9_failSheet_39 : decode cX9_failSheet 39 = .ok (.iconst 0, 1) := by decide +kernel
theorem dX9_failSheet_40 : decode cX9_failSheet 40 = .ok (.putfield 151, 3) := by decide +kernel
theorem dX9_failSheet_43 : decode cX9_failSheet 43 = .ok (.return_, 1) := by decide +kernel
set_option maxRecDepth 20000 in
theorem ggX9_failHouse_X9_fail_1 : GoodIn wsX9_failHouse ([.fieldLink RX9 125 "CensusDeskModel" "way" "I", .fieldLink RX9 128 "CensusDeskModel" "replaced" "I", .fieldLink RX9 13 "CensusDeskModel" "ruleWay" "[I", .fieldLink RX9 17 "CensusDeskModel" "ruleNumber" "[I", .fieldLink RX9 135 "CensusDeskModel" "fails" "I", .fieldLink RX9 141 "CensusDeskModel" "inHouse" "Z", .fieldLink RX9 71 "CensusDeskModel" "firstOut" "[I", .fieldLink RX9 68 "CensusDeskModel" "firstIn" "[I", .fieldLink RX9 50 "CensusDeskModel" "failKind" "[I", .fieldLink RX9 53 "CensusDeskModel" "failPlace" "[I", .fieldLink RX9 56 "CensusDeskModel" "failCause" "[I", .fieldLink RX9 59 "CensusDeskModel" "failFirst" "[I", .fieldLink RX9 62 "CensusDeskModel" "failWay" "[I", .fieldLink RX9 65 "CensusDeskModel" "many" "[I", .fieldLink RX9 144 "CensusDeskModel" "stops" "Z", .methodLink RX9 131 yX9_groupOf, .static yX9_groupOf, .initialized RX9, .code yX9_groupOf cX9_groupOf 1 (some .int), .methodLink RX9 138 yX9_layerOf, .static yX9_layerOf, .code yX9_layerOf cX9_layerOf 1 (some .int)] : List Cond) := goodIn_r _ [1, 10, 11, 12, 13, 14, 15, 16, 17, 18, 19, 20, 21, 22, 23, 24, 25, 8, 26, 27, 28, 29] (by decide +kernel) (by decide +kernel)
set_option maxRecDepth 20000 in
theorem ggX9_failHouse_X9_fail_2 : GoodIn wsX9_failHouse wsX90 := goodIn_r _ [38, 39, 40, 41, 42, 43, 44, 45, 46, 47, 48, 49, 50, 51, 52, 53, 54, 55, 56, 57, 58, 59, 60, 61, 62, 63, 64, 65, 66, 67, 68, 69, 70, 71, 72, 73, 74, 75, 76, 77, 78, 79, 80, 81, 82, 83, 84, 85, 86, 87, 88, 89, 90, 91, 92, 93, 94, 95, 96, 97, 98, 99, 100, 101, 102, 103, 104, 105, 106] (by decide +kernel) (by decide +kernel)
set_option maxRecDepth 20000 in
theorem ggX9_failHouse_X9_fail_0 : GoodIn wsX9_failHouse [.code yX9_fail cX9_fail 7 (some .int)] := goodIn_r _ [9] (by decide +kernel) (by decide +kernel)
theorem ggX9_failHouse_X9_fail : GoodIn wsX9_failHouse wsX9_fail := goodIn_k ggX9_failHouse_X9_fail_0 (goodIn_app ggX9_failHouse_X9_fail_1 ggX9_failHouse_X9_fail_2)
set_option maxRecDepth 20000 in
theorem gX9_failHouse_X9_fail : GoodIn wsX9_failHouse (wsV RX9 147 RX9 yX9_fail wsX9_fail) := goodIn_app (goodIn_of _ (by decide +kernel)) ggX9_failHouse_X9_fail
set_option maxRecDepth 20000 in
theorem ggX9_failHouse_X9_goesOn : GoodIn wsX9_failHouse wsX9_goesOn := goodIn_r _ [32] (by decide +kernel) (by decide +kernel)
set_option maxRecDepth 20000 in
theorem gX9_failHouse_X9_goesOn : GoodIn wsX9_failHouse (va_wsS RX9 154 yX9_goesOn wsX9_goesOn) := goodIn_app (goodIn_of _ (by decide +kernel)) ggX9_failHouse_X9_goesOn
set_option maxRecDepth 20000 in
theorem ggX9_failHouse_X9_failSheet_1 : GoodIn wsX9_failHouse wsX9_failSheet_r1 := goodIn_r _ [37, 1, 5, 6, 7, 8, 9, 10, 11, 12, 13, 14, 15, 16, 17, 18, 19, 20, 21, 22, 23, 24, 25, 26] (by decide +kernel) (by decide +kernel)
set_option maxRecDepth 20000 in
theorem ggX9_failHouse_X9_failSheet_2 : GoodIn wsX9_failHouse wsX9_failSheet_r2 := goodIn_r _ [27, 28, 29, 30, 31, 32] (by decide +kernel) (by decide +kernel)
set_option maxRecDepth 20000 in
theorem ggX9_failHouse_X9_failSheet_3 : GoodIn wsX9_failHouse wsX90 := goodIn_r _ [38, 39, 40, 41, 42, 43, 44, 45, 46, 47, 48, 49, 50, 51, 52, 53, 54, 55, 56, 57, 58, 59, 60, 61, 62, 63, 64, 65, 66, 67, 68, 69, 70, 71, 72, 73, 74, 75, 76, 77, 78, 79, 80, 81, 82, 83, 84, 85, 86, 87, 88, 89, 90, 91, 92, 93, 94, 95, 96, 97, 98, 99, 100, 101, 102, 103, 104, 105, 106] (by decide +kernel) (by decide +kernel)
set_option maxRecDepth 20000 in
theorem ggX9_failHouse_X9_failSheet_0 : GoodIn wsX9_failHouse [.code yX9_failSheet cX9_failSheet 5 none] := goodIn_r _ [36] (by decide +kernel) (by decide +kernel)
theorem ggX9_failHouse_X9_failSheet : GoodIn wsX9_failHouse wsX9_failSheet := goodIn_k ggX9_failHouse_X9_failSheet_0 (goodIn_app (goodIn_app ggX9_failHouse_X9_failSheet_1 ggX9_failHouse_X9_failSheet_2) ggX9_failHouse_X9_failSheet_3)
set_option maxRecDepth 20000 in
theorem gX9_failHouse_X9_failSheet : GoodIn wsX9_failHouse (wsV RX9 167 RX9 yX9_failSheet wsX9_failSheet) := goodIn_app (goodIn_of _ (by decide +kernel)) ggX9_failHouse_X9_failSheet
theorem dX9_failHouse_0 : decode cX9_failHouse 0 = .ok (.aload_n 0, 1) := by decide +kernel
theorem dX9_failHouse_1 : decode cX9_failHouse 1 = .ok (.iload_n 1, 1) := by decide +kernel
theorem dX9_failHouse_2 : decode cX9_failHouse 2 = .ok (.iload_n 2, 1) := by decide +kernel
theorem dX9_failHouse_3 : decode cX9_failHouse 3 = .ok (.iload_n 3, 1) := by decide +kernel
theorem dX9_failHouse_4 : decode cX9_failHouse 4 = .ok (.invokevirtual 147, 3) := by decide +kernel
theorem dX9_failHouse_7 : decode cX9_failHouse 7 = .ok (.istore 4, 2) := by decide +kernel
theorem dX9_failHouse_9 : decode cX9_failHouse 9 = .ok (.aload_n 0, 1) := by decide +kernel
theorem dX9_failHouse_10 : decode cX9_failHouse 10 = .ok (.getfield 125, 3) := by decide +kernel
theorem dX9_failHouse_13 : decode cX9_failHouse 13 = .ok (.invokestatic 154, 3) := by decide +kernel
theorem dX9_failHouse_16 : decode cX9_failHouse 16 = .ok (.ifCond .eq 4, 3) := by decide +kernel
theorem dX9_failHouse_19 : decode cX9_failHouse 19 = .ok (.return_, 1) := by decide +kernel
theorem dX9_failHouse_20 : decode cX9_failHouse 20 = .ok (.aload_n 0, 1) := by decide +kernel
theorem dX9_failHouse_21 : decode cX9_failHouse 21 = .ok (.getfield 125, 3) := by decide +kernel
theorem dX9_failHouse_24 : decode cX9_failHouse 24 = .ok (.ifCond .ne 7, 3) := by decide +kernel
theorem dX9_failHouse_27 : decode cX9_failHouse 27 = .ok (.iconst 1, 1) := by decide +kernel
theorem dX9_failHouse_28 : decode cX9_failHouse 28 = .ok (.goto 4, 3) := by decide +kernel
theorem dX9_failHouse_31 : decode cX9_failHouse 31 = .ok (.iconst 0, 1) := by decide +kernel
theorem dX9_failHouse_32 : decode cX9_failHouse 32 = .ok (.istore 5, 2) := by decide +kernel
theorem dX9_failHouse_34 : decode cX9_failHouse 34 = .ok (.aload_n 0, 1) := by decide +kernel
theorem dX9_failHouse_35 : decode cX9_failHouse 35 = .ok (.iconst 1, 1) := by decide +kernel
theorem dX9_failHouse_36 : decode cX9_failHouse 36 = .ok (.putfield 158, 3) := by decide +kernel
theorem dX9_failHouse_39 : decode cX9_failHouse 39 = .ok (.aload_n 0, 1) := by decide +kernel
theorem dX9_failHouse_40 : decode cX9_failHouse 40 = .ok (.dup, 1) := by decide +kernel
theorem dX9_failHouse_41 : decode cX9_failHouse 41 = .ok (.getfield 161, 3) := by decide +kernel
theorem dX9_failHouse_44 : decode cX9_failHouse 44 = .ok (.iconst 1, 1) := by decide +kernel
theorem dX9_failHouse_45 : decode cX9_failHouse 45 = .ok (.iadd, 1) := by decide +kernel
theorem dX9_failHouse_46 : decode cX9_failHouse 46 = .ok (.putfield 161, 3) := by decide +kernel
theorem dX9_failHouse_49 : decode cX9_failHouse 49 = .ok (.iload 5, 2) := by decide +kernel
theorem dX9_failHouse_51 : decode cX9_failHouse 51 = .ok (.ifCond .eq 15, 3) := by decide +kernel
theorem dX9_failHouse_54 : decode cX9_failHouse 54 = .ok (.aload_n 0, 1) := by decide +kernel
theorem dX9_failHouse_55 : decode cX9_failHouse 55 = .ok (.bipush 21, 2) := by decide +kernel
theorem dX9_failHouse_57 : decode cX9_failHouse 57 = .ok (.aload_n 0, 1) := by decide +kernel
theorem dX9_failHouse_58 : decode cX9_failHouse 58 = .ok (.getfield 164, 3) := by decide +kernel
theorem dX9_failHouse_61 : decode cX9_failHouse 61 = .ok (.iload 4, 2) := by decide +kernel
theorem dX9_failHouse_63 : decode cX9_failHouse 63 = .ok (.invokevirtual 167, 3) := by decide +kernel
theorem dX9_failHouse_66 : decode cX9_failHouse 66 = .ok (.return_, 1) := by decide +kernel
set_option maxRecDepth 20000 in
theorem ggX9_throwLine_X9_failHouse_1 : GoodIn wsX9_throwLine wsX9_failHouse_r1 := goodIn_r _ [8, 9, 10, 11, 12, 13, 14, 6, 15, 16, 17, 18, 19, 1, 20, 21, 22, 23, 24, 25, 26, 27, 28, 29] (by decide +kernel) (by decide +kernel)
set_option maxRecDepth 20000 in
theorem ggX9_throwLine_X9_failHouse_2 : GoodIn wsX9_throwLine wsX9_failHouse_r2 := goodIn_r _ [30, 31, 32, 33, 34, 35, 36, 37, 38, 39, 40, 41, 42] (by decide +kernel) (by decide +kernel)
set_option maxRecDepth 20000 in
theorem ggX9_throwLine_X9_failHouse_3 : GoodIn wsX9_throwLine wsX90 := goodIn_r _ [43, 44, 45, 46, 47, 48, 49, 50, 51, 52, 53, 54, 55, 56, 57, 58, 59, 60, 61, 62, 63, 64, 65, 66, 67, 68, 69, 70, 71, 72, 73, 74, 75, 76, 77, 78, 79, 80, 81, 82, 83, 84, 85, 86, 87, 88, 89, 90, 91, 92, 93, 94, 95, 96, 97, 98, 99, 100, 101, 102, 103, 104, 105, 106, 107, 108, 109, 110, 111] (by decide +kernel) (by decide +kernel)
set_option maxRecDepth 20000 in
theorem ggX9_throwLine_X9_failHouse_0 : GoodIn wsX9_throwLine [.code yX9_failHouse cX9_failHouse 6 none] := goodIn_r _ [7] (by decide +kernel) (by decide +kernel)
theorem ggX9_throwLine_X9_failHouse : GoodIn wsX9_throwLine wsX9_failHouse := goodIn_k ggX9_throwLine_X9_failHouse_0 (goodIn_app (goodIn_app ggX9_throwLine_X9_failHouse_1 ggX9_throwLine_X9_failHouse_2) ggX9_throwLine_X9_failHouse_3)
set_option maxRecDepth 20000 in
theorem gX9_throwLine_X9_failHouse : GoodIn wsX9_throwLine (wsV RX9 174 RX9 yX9_failHouse wsX9_failHouse) := goodIn_app (goodIn_of _ (by decide +kernel)) ggX9_throwLine_X9_failHouse
set_option maxRecDepth 20000 in
theorem ggX9_throwLine_X9_failSheet_1 : GoodIn wsX9_throwLine wsX9_failSheet_r1 := goodIn_r _ [42, 8, 12, 13, 14, 6, 15, 16, 17, 18, 19, 1, 20, 21, 22, 23, 24, 25, 26, 27, 28, 29, 30, 31] (by decide +kernel) (by decide +kernel)
set_option maxRecDepth 20000 in
theorem ggX9_throwLine_X9_failSheet_2 : GoodIn wsX9_throwLine wsX9_failSheet_r2 := goodIn_r _ [32, 33, 34, 35, 36, 37] (by decide +kernel) (by decide +kernel)
set_option maxRecDepth 20000 in
theorem ggX9_throwLine_X9_failSheet_3 : GoodIn wsX9_throwLine wsX90 := goodIn_r _ [43, 44, 45, 46, 47, 48, 49, 50, 51, 52, 53, 54, 55, 56, 57, 58, 59, 60, 61, 62, 63, 64, 65, 66, 67, 68, 69, 70, 71, 72, 73, 74, 75, 76, 77, 78, 79, 80, 81, 82, 83, 84, 85, 86, 87, 88, 89, 90, 91, 92, 93, 94, 95, 96, 97, 98, 99, 100, 101, 102, 103, 104, 105, 106, 107, 108, 109, 110, 111] (by decide +kernel) (by decide +kernel)
set_option maxRecDepth 20000 in
theorem ggX9_throwLine_X9_failSheet_0 : GoodIn wsX9_throwLine [.code yX9_failSheet cX9_failSheet 5 none] := goodIn_r _ [41] (by decide +kernel) (by decide +kernel)
theorem ggX9_throwLine_X9_failSheet : GoodIn wsX9_throwLine wsX9_failSheet := goodIn_k ggX9_throwLine_X9_failSheet_0 (goodIn_app (goodIn_app ggX9_throwLine_X9_failSheet_1 ggX9_throwLine_X9_failSheet_2) ggX9_throwLine_X9_failSheet_3)
set_option maxRecDepth 20000 in
theorem gX9_throwLine_X9_failSheet : GoodIn wsX9_throwLine (wsV RX9 167 RX9 yX9_failSheet wsX9_failSheet) := goodIn_app (goodIn_of _ (by decide +kernel)) ggX9_throwLine_X9_failSheet
theorem dX9_throwLine_0 : decode cX9_throwLine 0 = .ok (.aload_n 0, 1) := by decide +kernel
theorem dX9_throwLine_1 : decode cX9_throwLine 1 = .ok (.getfield 141, 3) := by decide +kernel
theorem dX9_throwLine_4 : decode cX9_throwLine 4 = .ok (.ifCond .eq 17, 3) := by decide +kernel
theorem dX9_throwLine_7 : decode cX9_throwLine 7 = .ok (.aload_n 0, 1) := by decide +kernel
theorem dX9_throwLine_8 : decode cX9_throwLine 8 = .ok (.bipush 18, 2) := by decide +kernel
theorem dX9_throwLine_10 : decode cX9_throwLine 10 = .ok (.aload_n 0, 1) := by decide +kernel
theorem dX9_throwLine_11 : decode cX9_throwLine 11 = .ok (.getfield 171, 3) := by decide +kernel
theorem dX9_throwLine_14 : decode cX9_throwLine 14 = .ok (.iload_n 1, 1) := by decide +kernel
theorem dX9_throwLine_15 : decode cX9_throwLine 15 = .ok (.invokevirtual 174, 3) := by decide +kernel
theorem dX9_throwLine_18 : decode cX9_throwLine 18 = .ok (.goto 14, 3) := by decide +kernel
theorem dX9_throwLine_21 : decode cX9_throwLine 21 = .ok (.aload_n 0, 1) := by decide +kernel
theorem dX9_throwLine_22 : decode cX9_throwLine 22 = .ok (.bipush 21, 2) := by decide +kernel
theorem dX9_throwLine_24 : decode cX9_throwLine 24 = .ok (.aload_n 0, 1) := by decide +kernel
theorem dX9_throwLine_25 : decode cX9_throwLine 25 = .ok (.getfield 171, 3) := by decide +kernel
theorem dX9_throwLine_28 : decode cX9_throwLine 28 = .ok (.iload_n 1, 1) := by decide +kernel
theorem dX9_throwLine_29 : decode cX9_throwLine 29 = .ok (.invokevirtual 167, 3) := by decide +kernel
theorem dX9_throwLine_32 : decode cX9_throwLine 32 = .ok (.return_, 1) := by decide +kernel
set_option maxRecDepth 20000 in
theorem ggX9_failLine_X9_fail_1 : GoodIn wsX9_failLine ([.fieldLink RX9 125 "CensusDeskModel" "way" "I", .fieldLink RX9 128 "CensusDeskModel" "replaced" "I", .fieldLink RX9 13 "CensusDeskModel" "ruleWay" "[I", .fieldLink RX9 17 "CensusDeskModel" "ruleNumber" "[I", .fieldLink RX9 135 "CensusDeskModel" "fails" "I", .fieldLink RX9 141 "CensusDeskModel" "inHouse" "Z", .fieldLink RX9 71 "CensusDeskModel" "firstOut" "[I", .fieldLink RX9 68 "CensusDeskModel" "firstIn" "[I", .fieldLink RX9 50 "CensusDeskModel" "failKind" "[I", .fieldLink RX9 53 "CensusDeskModel" "failPlace" "[I", .fieldLink RX9 56 "CensusDeskModel" "failCause" "[I", .fieldLink RX9 59 "CensusDeskModel" "failFirst" "[I", .fieldLink RX9 62 "CensusDeskModel" "failWay" "[I", .fieldLink RX9 65 "CensusDeskModel" "many" "[I", .fieldLink RX9 144 "CensusDeskModel" "stops" "Z", .methodLink RX9 131 yX9_groupOf, .static yX9_groupOf, .initialized RX9, .code yX9_groupOf cX9_groupOf 1 (some .int), .methodLink RX9 138 yX9_layerOf, .static yX9_layerOf, .code yX9_layerOf cX9_layerOf 1 (some .int)] : List Cond) := goodIn_r _ [2, 9, 10, 11, 12, 13, 14, 15, 16, 17, 18, 19, 20, 21, 22, 23, 24, 7, 25, 26, 27, 28] (by decide +kernel) (by decide +kernel)
set_option maxRecDepth 20000 in
theorem ggX9_failLine_X9_fail_2 : GoodIn wsX9_failLine wsX90 := goodIn_r _ [48, 49, 50, 51, 52, 53, 54, 55, 56, 57, 58, 59, 60, 61, 62, 63, 64, 65, 66, 67, 68, 69, 70, 71, 72, 73, 74, 75, 76, 77, 78, 79, 80, 81, 82, 83, 84, 85, 86, 87, 88, 89, 90, 91, 92, 93, 94, 95, 96, 97, 98, 99, 100, 101, 102, 103, 104, 105, 106, 107, 108, 109, 110, 111, 112, 113, 114, 115, 116] (by decide +kernel) (by decide +kernel)
set_option maxRecDepth 20000 in
theorem ggX9_failLine_X9_fail_0 : GoodIn wsX9_failLine [.code yX9_fail cX9_fail 7 (some .int)] := goodIn_r _ [8] (by decide +kernel) (by decide +kernel)
theorem ggX9_failLine_X9_fail : GoodIn wsX9_failLine wsX9_fail := goodIn_k ggX9_failLine_X9_fail_0 (goodIn_app ggX9_failLine_X9_fail_1 ggX9_failLine_X9_fail_2)
set_option maxRecDepth 20000 in
theorem gX9_failLine_X9_fail : GoodIn wsX9_failLine (wsV RX9 147 RX9 yX9_fail wsX9_fail) := goodIn_app (goodIn_of _ (by decide +kernel)) ggX9_failLine_X9_fail
set_option maxRecDepth 20000 in
theorem ggX9_failLine_X9_goesOn : GoodIn wsX9_failLine wsX9_goesOn := goodIn_r _ [31] (by decide +kernel) (by decide +kernel)
set_option maxRecDepth 20000 in
theorem gX9_failLine_X9_goesOn : GoodIn wsX9_failLine (va_wsS RX9 154 yX9_goesOn wsX9_goesOn) := goodIn_app (goodIn_of _ (by decide +kernel)) ggX9_failLine_X9_goesOn
set_option maxRecDepth 20000 in
theorem ggX9_failLine_X9_throwLine_1 : GoodIn wsX9_failLine wsX9_throwLine_r1 := goodIn_r _ [13, 1, 36, 37, 38, 7, 39, 2, 40, 41, 42, 4, 5, 6, 8, 9, 10, 11, 12, 14, 15, 16, 17, 18] (by decide +kernel) (by decide +kernel)
set_option maxRecDepth 20000 in
theorem ggX9_failLine_X9_throwLine_2 : GoodIn wsX9_failLine wsX9_throwLine_r2 := goodIn_r _ [19, 20, 21, 22, 23, 24, 25, 26, 27, 28, 29, 30, 31, 43, 44, 45, 46, 47] (by decide +kernel) (by decide +kernel)
set_option maxRecDepth 20000 in
theorem ggX9_failLine_X9_throwLine_3 : GoodIn wsX9_failLine wsX90 := goodIn_r _ [48, 49, 50, 51, 52, 53, 54, 55, 56, 57, 58, 59, 60, 61, 62, 63, 64, 65, 66, 67, 68, 69, 70, 71, 72, 73, 74, 75, 76, 77, 78, 79, 80, 81, 82, 83, 84, 85, 86, 87, 88, 89, 90, 91, 92, 93, 94, 95, 96, 97, 98, 99, 100, 101, 102, 103, 104, 105, 106, 107, 108, 109, 110, 111, 112, 113, 114, 115, 116] (by decide +kernel) (by decide +kernel)
set_option maxRecDepth 20000 in
theorem ggX9_failLine_X9_throwLine_0 : GoodIn wsX9_failLine [.code yX9_throwLine cX9_throwLine 2 none] := goodIn_r _ [35] (by decide +kernel) (by decide +kernel)
theorem ggX9_failLine_X9_throwLine : GoodIn wsX9_failLine wsX9_throwLine := goodIn_k ggX9_failLine_X9_throwLine_0 (goodIn_app (goodIn_app ggX9_failLine_X9_throwLine_1 ggX9_failLine_X9_throwLine_2) ggX9_failLine_X9_throwLine_3)
set_option maxRecDepth 20000 in
theorem gX9_failLine_X9_throwLine : GoodIn wsX9_failLine (wsV RX9 180 RX9 yX9_throwLine wsX9_throwLine) := goodIn_app (goodIn_of _ (by decide +kernel)) ggX9_failLine_X9_throwLine
theorem dX9_failLine_0 : decode cX9_failLine 0 = .ok (.aload_n 0, 1) := by decide +kernel
theorem dX9_failLine_1 : decode cX9_failLine 1 = .ok (.iload_n 1, 1) := by decide +kernel
theorem dX9_failLine_2 : decode cX9_failLine 2 = .ok (.aload_n 0, 1) := by decide +kernel
theorem dX9_failLine_3 : decode cX9_failLine 3 = .ok (.getfield 171, 3) := by decide +kernel
theorem dX9_failLine_6 : decode cX9_failLine 6 = .ok (.iload_n 2, 1) := by decide +kernel
