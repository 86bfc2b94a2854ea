theorem dX4_isWorkingChild_39 : decode cX4_isWorkingChild 39 = .ok (.iload_n 2, 1) := by decide +kernel
theorem dX4_isWorkingChild_40 : decode cX4_isWorkingChild 40 = .ok (.iconst (-1), 1) := by decide +kernel
theorem dX4_isWorkingChild_41 : decode cX4_isWorkingChild 41 = .ok (.if_icmp .eq 11, 3) := by decide +kernel
theorem dX4_isWorkingChild_44 : decode cX4_isWorkingChild 44 = .ok (.iload_n 2, 1) := by decide +kernel
theorem dX4_isWorkingChild_45 : decode cX4_isWorkingChild 45 = .ok (.ifCond .le 7, 3) := by decide +kernel
theorem dX4_isWorkingChild_48 : decode cX4_isWorkingChild 48 = .ok (.iconst 1, 1) := by decide +kernel
theorem dX4_isWorkingChild_49 : decode cX4_isWorkingChild 49 = .ok (.goto 4, 3) := by decide +kernel
theorem dX4_isWorkingChild_52 : decode cX4_isWorkingChild 52 = .ok (.iconst 0, 1) := by decide +kernel
theorem dX4_isWorkingChild_53 : decode cX4_isWorkingChild 53 = .ok (.ireturn, 1) := by decide +kernel
set_option maxRecDepth 20000 in
theorem ggX4_readSigns_X6_clear : GoodIn wsX4_readSigns wsX6_clear := goodIn_r _ [7, 8, 105, 106, 107] (by decide +kernel) (by decide +kernel)
set_option maxRecDepth 20000 in
theorem gX4_readSigns_X6_clear : GoodIn wsX4_readSigns (wsV RX4 166 RX6 yX6_clear wsX6_clear) := goodIn_app (goodIn_of _ (by decide +kernel)) ggX4_readSigns_X6_clear
set_option maxRecDepth 20000 in
theorem ggX4_readSigns_X3_startOf : GoodIn wsX4_readSigns wsX3_startOf := goodIn_r _ [13, 14, 15, 108, 109, 110, 111, 112, 113, 114] (by decide +kernel) (by decide +kernel)
set_option maxRecDepth 20000 in
theorem gX4_readSigns_X3_startOf : GoodIn wsX4_readSigns (wsV RX4 169 RX3 yX3_startOf wsX3_startOf) := goodIn_app (goodIn_of _ (by decide +kernel)) ggX4_readSigns_X3_startOf
set_option maxRecDepth 20000 in
theorem ggX4_readSigns_X3_endOf : GoodIn wsX4_readSigns wsX3_endOf := goodIn_r _ [19, 20, 15, 108, 109, 110, 111, 112, 113, 114] (by decide +kernel) (by decide +kernel)
set_option maxRecDepth 20000 in
theorem gX4_readSigns_X3_endOf : GoodIn wsX4_readSigns (wsV RX4 172 RX3 yX3_endOf wsX3_endOf) := goodIn_app (goodIn_of _ (by decide +kernel)) ggX4_readSigns_X3_endOf
set_option maxRecDepth 20000 in
theorem ggX4_readSigns_X4_readSign : GoodIn wsX4_readSigns wsX4_readSign := goodIn_r _ [25, 26, 27, 28, 1, 29, 30, 31, 32, 33, 34, 35, 36, 37, 24, 38, 39, 40, 41, 42, 43, 44, 45, 46, 47, 48, 49, 50, 51, 52, 53, 54, 55, 56, 57, 58, 59, 60, 61, 62, 63, 64, 65, 66, 67, 68, 69, 70, 71, 72, 73, 74, 75, 76, 77, 78, 79, 80, 81, 82, 6, 83, 8, 84, 85, 86, 87, 88, 89, 90, 91, 92, 93, 94, 95, 96, 97, 98, 99, 100, 101, 102, 103, 104, 115, 116, 117, 118, 119, 120, 121, 122, 123, 124, 125, 126, 127, 128, 129, 130, 131, 132, 133, 134, 135, 136, 105, 106, 107] (by decide +kernel) (by decide +kernel)
set_option maxRecDepth 20000 in
theorem gX4_readSigns_X4_readSign : GoodIn wsX4_readSigns (wsV RX4 175 RX4 yX4_readSign wsX4_readSign) := goodIn_app (goodIn_of _ (by decide +kernel)) ggX4_readSigns_X4_readSign
set_option maxRecDepth 20000 in
theorem ggX4_readSigns_X4_fail : GoodIn wsX4_readSigns wsX4_fail := goodIn_r _ [42, 43, 27, 28, 44, 45, 46, 47, 48, 49, 50, 51, 52, 53, 54, 55, 56, 57, 58, 59, 60, 61, 62, 63, 64, 65, 66, 67, 68, 69, 70, 71, 72, 73, 74, 75, 76, 24, 77, 78, 79, 86, 87, 88, 89, 90, 91, 92, 93, 94, 95, 96, 97, 98, 99, 100, 101, 102, 103, 104, 117, 118, 119, 120, 121, 122, 123, 124, 125, 126, 127, 128, 129, 130, 131, 132, 133, 134, 135, 136] (by decide +kernel) (by decide +kernel)
set_option maxRecDepth 20000 in
theorem gX4_readSigns_X4_fail : GoodIn wsX4_readSigns (wsV RX4 152 RX4 yX4_fail wsX4_fail) := goodIn_app (goodIn_of _ (by decide +kernel)) ggX4_readSigns_X4_fail
theorem dX4_readSigns_0 : decode cX4_readSigns 0 = .ok (.aload_n 0, 1) := by decide +kernel
theorem dX4_readSigns_1 : decode cX4_readSigns 1 = .ok (.getfield 21, 3) := by decide +kernel
theorem dX4_readSigns_4 : decode cX4_readSigns 4 = .ok (.invokevirtual 166, 3) := by decide +kernel
theorem dX4_readSigns_7 : decode cX4_readSigns 7 = .ok (.aload_n 0, 1) := by decide +kernel
theorem dX4_readSigns_8 : decode cX4_readSigns 8 = .ok (.getfield 12, 3) := by decide +kernel
theorem dX4_readSigns_11 : decode cX4_readSigns 11 = .ok (.iload_n 1, 1) := by decide +kernel
theorem dX4_readSigns_12 : decode cX4_readSigns 12 = .ok (.invokevirtual 169, 3) := by decide +kernel
theorem dX4_readSigns_15 : decode cX4_readSigns 15 = .ok (.istore_n 2, 1) := by decide +kernel
theorem dX4_readSigns_16 : decode cX4_readSigns 16 = .ok (.aload_n 0, 1) := by decide +kernel
theorem dX4_readSigns_17 : decode cX4_readSigns 17 = .ok (.getfield 12, 3) := by decide +kernel
theorem dX4_readSigns_20 : decode cX4_readSigns 20 = .ok (.iload_n 1, 1) := by decide +kernel
theorem dX4_readSigns_21 : decode cX4_readSigns 21 = .ok (.invokevirtual 172, 3) := by decide +kernel
theorem dX4_readSigns_24 : decode cX4_readSigns 24 = .ok (.istore_n 3, 1) := by decide +kernel
theorem dX4_readSigns_25 : decode cX4_readSigns 25 = .ok (.iconst (-1), 1) := by decide +kernel
theorem dX4_readSigns_26 : decode cX4_readSigns 26 = .ok (.istore 4, 2) := by decide +kernel
theorem dX4_readSigns_28 : decode cX4_readSigns 28 = .ok (.iload_n 2, 1) := by decide +kernel
theorem dX4_readSigns_29 : decode cX4_readSigns 29 = .ok (.istore 5, 2) := by decide +kernel
theorem dX4_readSigns_31 : decode cX4_readSigns 31 = .ok (.iload 5, 2) := by decide +kernel
theorem dX4_readSigns_33 : decode cX4_readSigns 33 = .ok (.iload_n 3, 1) := by decide +kernel
theorem dX4_readSigns_34 : decode cX4_readSigns 34 = .ok (.if_icmp .ge 39, 3) := by decide +kernel
theorem dX4_readSigns_37 : decode cX4_readSigns 37 = .ok (.iload 4, 2) := by decide +kernel
theorem dX4_readSigns_39 : decode cX4_readSigns 39 = .ok (.iconst (-1), 1) := by decide +kernel
theorem dX4_readSigns_40 : decode cX4_readSigns 40 = .ok (.if_icmp .ne 33, 3) := by decide +kernel
theorem dX4_readSigns_43 : decode cX4_readSigns 43 = .ok (.aload_n 0, 1) := by decide +kernel
theorem dX4_readSigns_44 : decode cX4_readSigns 44 = .ok (.iload 5, 2) := by decide +kernel
theorem dX4_readSigns_46 : decode cX4_readSigns 46 = .ok (.invokevirtual 175, 3) := by decide +kernel
theorem dX4_readSigns_49 : decode cX4_readSigns 49 = .ok (.istore 6, 2) := by decide +kernel
theorem dX4_readSigns_51 : decode cX4_readSigns 51 = .ok (.iload 6, 2) := by decide +kernel
theorem dX4_readSigns_53 : decode cX4_readSigns 53 = .ok (.ifCond .lt 14, 3) := by decide +kernel
theorem dX4_readSigns_56 : decode cX4_readSigns 56 = .ok (.aload_n 0, 1) := by decide +kernel
theorem dX4_readSigns_57 : decode cX4_readSigns 57 = .ok (.bipush 8, 2) := by decide +kernel
theorem dX4_readSigns_59 : decode cX4_readSigns 59 = .ok (.iload_n 2, 1) := by decide +kernel
theorem dX4_readSigns_60 : decode cX4_readSigns 60 = .ok (.iload 6, 2) := by decide +kernel
theorem dX4_readSigns_62 : decode cX4_readSigns 62 = .ok (.invokevirtual 152, 3) := by decide +kernel
theorem dX4_readSigns_65 : decode cX4_readSigns 65 = .ok (.istore 4, 2) := by decide +kernel
theorem dX4_readSigns_67 : decode cX4_readSigns 67 = .ok (.iinc 5 1, 3) := by decide +kernel
theorem dX4_readSigns_70 : decode cX4_readSigns 70 = .ok (.goto (-39), 3) := by decide +kernel
theorem dX4_readSigns_73 : decode cX4_readSigns 73 = .ok (.iload 4, 2) := by decide +kernel
theorem dX4_readSigns_75 : decode cX4_readSigns 75 = .ok (.ireturn, 1) := by decide +kernel
set_option maxRecDepth 20000 in
theorem ggX4_readSign_X7_at : GoodIn wsX4_readSign wsX7_at := goodIn_r _ [9, 10, 11, 84, 85] (by decide +kernel) (by decide +kernel)
set_option maxRecDepth 20000 in
theorem gX4_readSign_X7_at : GoodIn wsX4_readSign (wsV RX4 111 RX7 yX7_at wsX7_at) := goodIn_app (goodIn_of _ (by decide +kernel)) ggX4_readSign_X7_at
set_option maxRecDepth 20000 in
theorem ggX4_readSign_X4_isOwn : GoodIn wsX4_readSign wsX4_isOwn := goodIn_r _ [15] (by decide +kernel) (by decide +kernel)
set_option maxRecDepth 20000 in
theorem gX4_readSign_X4_isOwn : GoodIn wsX4_readSign (va_wsS RX4 178 yX4_isOwn wsX4_isOwn) := goodIn_app (goodIn_of _ (by decide +kernel)) ggX4_readSign_X4_isOwn
set_option maxRecDepth 20000 in
theorem ggX4_readSign_X4_fail : GoodIn wsX4_readSign wsX4_fail := goodIn_r _ [19, 20, 2, 3, 21, 22, 23, 24, 25, 26, 27, 28, 29, 30, 31, 32, 33, 34, 35, 36, 37, 38, 39, 40, 41, 42, 43, 44, 45, 46, 47, 48, 49, 50, 51, 52, 53, 14, 54, 55, 56, 65, 66, 67, 68, 69, 70, 71, 72, 73, 74, 75, 76, 77, 78, 79, 80, 81, 82, 83, 86, 87, 88, 89, 90, 91, 92, 93, 94, 95, 96, 97, 98, 99, 100, 101, 102, 103, 104, 105] (by decide +kernel) (by decide +kernel)
set_option maxRecDepth 20000 in
theorem gX4_readSign_X4_fail : GoodIn wsX4_readSign (wsV RX4 152 RX4 yX4_fail wsX4_fail) := goodIn_app (goodIn_of _ (by decide +kernel)) ggX4_readSign_X4_fail
set_option maxRecDepth 20000 in
theorem ggX4_readSign_X6_add : GoodIn wsX4_readSign wsX6_add := goodIn_r _ [61, 62, 63, 64, 106, 107, 108] (by decide +kernel) (by decide +kernel)
set_option maxRecDepth 20000 in
theorem gX4_readSign_X6_add : GoodIn wsX4_readSign (wsV RX4 188 RX6 yX6_add wsX6_add) := goodIn_app (goodIn_of _ (by decide +kernel)) ggX4_readSign_X6_add
theorem dX4_readSign_0 : decode cX4_readSign 0 = .ok (.aload_n 0, 1) := by decide +kernel
theorem dX4_readSign_1 : decode cX4_readSign 1 = .ok (.getfield 36, 3) := by decide +kernel
theorem dX4_readSign_4 : decode cX4_readSign 4 = .ok (.iload_n 1, 1) := by decide +kernel
theorem dX4_readSign_5 : decode cX4_readSign 5 = .ok (.invokevirtual 111, 3) := by decide +kernel
theorem dX4_readSign_8 : decode cX4_readSign 8 = .ok (.istore_n 2, 1) := by decide +kernel
theorem dX4_readSign_9 : decode cX4_readSign 9 = .ok (.iconst (-1), 1) := by decide +kernel
theorem dX4_readSign_10 : decode cX4_readSign 10 = .ok (.istore_n 3, 1) := by decide +kernel
theorem dX4_readSign_11 : decode cX4_readSign 11 = .ok (.iload_n 2, 1) := by decide +kernel
theorem dX4_readSign_12 : decode cX4_readSign 12 = .ok (.invokestatic 178, 3) := by decide +kernel
theorem dX4_readSign_15 : decode cX4_readSign 15 = .ok (.ifCond .ne 39, 3) := by decide +kernel
theorem dX4_readSign_18 : decode cX4_readSign 18 = .ok (.aload_n 0, 1) := by decide +kernel
theorem dX4_readSign_19 : decode cX4_readSign 19 = .ok (.iconst 1, 1) := by decide +kernel
theorem dX4_readSign_20 : decode cX4_readSign 20 = .ok (.iload_n 1, 1) := by decide +kernel
theorem dX4_readSign_21 : decode cX4_readSign 21 = .ok (.iconst (-1), 1) := by decide +kernel
theorem dX4_readSign_22 : decode cX4_readSign 22 = .ok (.invokevirtual 152, 3) := by decide +kernel
theorem dX4_readSign_25 : decode cX4_readSign 25 = .ok (.istore_n 3, 1) := by decide +kernel
theorem dX4_readSign_26 : decode cX4_readSign 26 = .ok (.aload_n 0, 1) := by decide +kernel
theorem dX4_readSign_27 : decode cX4_readSign 27 = .ok (.getfield 182, 3) := by decide +kernel
theorem dX4_readSign_30 : decode cX4_readSign 30 = .ok (.iconst 2, 1) := by decide +kernel
theorem dX4_readSign_31 : decode cX4_readSign 31 = .ok (.if_icmp .ne 23, 3) := by decide +kernel
theorem dX4_readSign_34 : decode cX4_readSign 34 = .ok (.aload_n 0, 1) := by decide +kernel
theorem dX4_readSign_35 : decode cX4_readSign 35 = .ok (.getfield 185, 3) := by decide +kernel
theorem dX4_readSign_38 : decode cX4_readSign 38 = .ok (.invokestatic 178, 3) := by decide +kernel
theorem dX4_readSign_41 : decode cX4_readSign 41 = .ok (.ifCond .eq 10, 3) := by decide +kernel
theorem dX4_readSign_44 : decode cX4_readSign 44 = .ok (.aload_n 0, 1) := by decide +kernel
theorem dX4_readSign_45 : decode cX4_readSign 45 = .ok (.getfield 185, 3) := by decide +kernel
theorem dX4_readSign_48 : decode cX4_readSign 48 = .ok (.goto 5, 3) := by decide +kernel
theorem dX4_readSign_51 : decode cX4_readSign 51 = .ok (.bipush 63, 2) := by decide +kernel
theorem dX4_readSign_53 : decode cX4_readSign 53 = .ok (.istore_n 2, 1) := by decide +kernel
theorem dX4_readSign_54 : decode cX4_readSign 54 = .ok (.iload_n 3, 1) := by decide +kernel
theorem dX4_readSign_55 : decode cX4_readSign 55 = .ok (.iconst (-1), 1) := by decide +kernel
theorem dX4_readSign_56 : decode cX4_readSign 56 = .ok (.if_icmp .ne 12, 3) := by decide +kernel
theorem dX4_readSign_59 : decode cX4_readSign 59 = .ok (.aload_n 0, 1) := by decide +kernel
theorem dX4_readSign_60 : decode cX4_readSign 60 = .ok (.getfield 21, 3) := by decide +kernel
theorem dX4_readSign_63 : decode cX4_readSign 63 = .ok (.iload_n 2, 1) := by decide +kernel
theorem dX4_readSign_64 : decode cX4_readSign 64 = .ok (.iload_n 1, 1) := by decide +kernel
theorem dX4_readSign_65 : decode cX4_readSign 65 = .ok (.invokevirtual 188, 3) := by decide +kernel
theorem dX4_readSign_68 : decode cX4_readSign 68 = .ok (.iload_n 3, 1) := by decide +kernel
theorem dX4_readSign_69 : decode cX4_readSign 69 = .ok (.ireturn, 1) := by decide +kernel
theorem dX4_isOwn_0 : decode cX4_isOwn 0 = .ok (.iload_n 0, 1) := by decide +kernel
theorem dX4_isOwn_1 : decode cX4_isOwn 1 = .ok (.bipush 32, 2) := by decide +kernel
theorem dX4_isOwn_3 : decode cX4_isOwn 3 = .ok (.if_icmp .lt 13, 3) := by decide +kernel
theorem dX4_isOwn_6 : decode cX4_isOwn 6 = .ok (.iload_n 0, 1) := by decide +kernel
theorem dX4_isOwn_7 : decode cX4_isOwn 7 = .ok (.bipush 126, 2) := by decide +kernel
theorem dX4_isOwn_9 : decode cX4_isOwn 9 = .ok (.if_icmp .gt 7, 3) := by decide +kernel
theorem dX4_isOwn_12 : decode cX4_isOwn 12 = .ok (.iconst 1, 1) := by decide +kernel
theorem dX4_isOwn_13 : decode cX4_isOwn 13 = .ok (.goto 4, 3) := by decide +kernel
theorem dX4_isOwn_16 : decode cX4_isOwn 16 = .ok (.iconst 0, 1) := by decide +kernel
theorem dX4_isOwn_17 : decode cX4_isOwn 17 = .ok (.ireturn, 1) := by decide +kernel
set_option maxRecDepth 20000 in
theorem ggX4_readValue_X3_fieldIn : GoodIn wsX4_readValue wsX3_fieldIn := goodIn_r _ [9, 10, 133, 134, 135, 136, 137, 138, 139] (by decide +kernel) (by decide +kernel)
set_option maxRecDepth 20000 in
theorem gX4_readValue_X3_fieldIn : GoodIn wsX4_readValue (wsV RX4 192 RX3 yX3_fieldIn wsX3_fieldIn) := goodIn_app (goodIn_of _ (by decide +kernel)) ggX4_readValue_X3_fieldIn
set_option maxRecDepth 20000 in
theorem ggX4_readValue_X6_faultAs : GoodIn wsX4_readValue wsX6_faultAs := goodIn_r _ [15, 16, 17, 18, 19, 14, 20, 21, 22, 23, 24, 25, 26, 27, 28, 29, 30, 31, 32, 33, 34, 35, 36, 37, 38, 39, 140, 141, 142] (by decide +kernel) (by decide +kernel)
set_option maxRecDepth 20000 in
theorem gX4_readValue_X6_faultAs : GoodIn wsX4_readValue (wsV RX4 195 RX6 yX6_faultAs wsX6_faultAs) := goodIn_app (goodIn_of _ (by decide +kernel)) ggX4_readValue_X6_faultAs
set_option maxRecDepth 20000 in
theorem ggX4_readValue_X6_firstBadOfName : GoodIn wsX4_readValue wsX6_firstBadOfName := goodIn_r _ [20, 16, 21, 22, 23, 14, 24, 25, 26, 27, 28, 140, 141, 142] (by decide +kernel) (by decide +kernel)
set_option maxRecDepth 20000 in
theorem gX4_readValue_X6_firstBadOfName : GoodIn wsX4_readValue (wsV RX4 198 RX6 yX6_firstBadOfName wsX6_firstBadOfName) := goodIn_app (goodIn_of _ (by decide +kernel)) ggX4_readValue_X6_firstBadOfName
set_option maxRecDepth 20000 in
theorem ggX4_readValue_X6_placeOf : GoodIn wsX4_readValue wsX6_placeOf := goodIn_r _ [44, 16, 45, 140, 141, 142] (by decide +kernel) (by decide +kernel)
set_option maxRecDepth 20000 in
theorem gX4_readValue_X6_placeOf : GoodIn wsX4_readValue (wsV RX4 201 RX6 yX6_placeOf wsX6_placeOf) := goodIn_app (goodIn_of _ (by decide +kernel)) ggX4_readValue_X6_placeOf
set_option maxRecDepth 20000 in
theorem ggX4_readValue_X3_startOf : GoodIn wsX4_readValue wsX3_startOf := goodIn_r _ [49, 50, 51, 133, 134, 135, 136, 137, 138, 139] (by decide +kernel) (by decide +kernel)
set_option maxRecDepth 20000 in
theorem gX4_readValue_X3_startOf : GoodIn wsX4_readValue (wsV RX4 169 RX3 yX3_startOf wsX3_startOf) := goodIn_app (goodIn_of _ (by decide +kernel)) ggX4_readValue_X3_startOf
set_option maxRecDepth 20000 in
theorem ggX4_readValue_X4_fail : GoodIn wsX4_readValue wsX4_fail := goodIn_r _ [56, 57, 58, 59, 60, 3, 61, 62, 63, 64, 65, 66, 67, 68, 69, 70, 71, 72, 73, 74, 75, 76, 77, 78, 79, 80, 81, 82, 83, 84, 85, 86, 87, 88, 89, 90, 91, 55, 92, 93, 94, 114, 115, 116, 117, 118, 119, 120, 121, 122, 123, 124, 125, 126, 127, 128, 129, 130, 131, 132, 143, 144, 145, 146, 147, 148, 149, 150, 151, 152, 153, 154, 155, 156, 157, 158, 159, 160, 161, 162] (by decide +kernel) (by decide +kernel)
set_option maxRecDepth 20000 in
theorem gX4_readValue_X4_fail : GoodIn wsX4_readValue (wsV RX4 152 RX4 yX4_fail wsX4_fail) := goodIn_app (goodIn_of _ (by decide +kernel)) ggX4_readValue_X4_fail
set_option maxRecDepth 20000 in
theorem ggX4_readValue_X2_nameNewcomer : GoodIn wsX4_readValue wsX2_nameNewcomer := goodIn_r _ [99, 100, 101, 102, 103, 104, 22, 23, 14, 24, 16, 25, 143, 144, 145, 146, 147, 148, 149, 150, 151, 152, 153, 154, 155, 140, 141, 142] (by decide +kernel) (by decide +kernel)
set_option maxRecDepth 20000 in
theorem gX4_readValue_X2_nameNewcomer : GoodIn wsX4_readValue (wsV RX4 204 RX2 yX2_nameNewcomer wsX2_nameNewcomer) := goodIn_app (goodIn_of _ (by decide +kernel)) ggX4_readValue_X2_nameNewcomer
set_option maxRecDepth 20000 in
theorem ggX4_readValue_X6_valueAs : GoodIn wsX4_readValue wsX6_valueAs := goodIn_r _ [108, 21, 22, 23, 14, 24, 16, 25, 33, 34, 35, 36, 140, 141, 142] (by decide +kernel) (by decide +kernel)
set_option maxRecDepth 20000 in
theorem gX4_readValue_X6_valueAs : GoodIn wsX4_readValue (wsV RX4 208 RX6 yX6_valueAs wsX6_valueAs) := goodIn_app (goodIn_of _ (by decide +kernel)) ggX4_readValue_X6_valueAs
set_option maxRecDepth 20000 in
theorem ggX4_readValue_X4_mended : GoodIn wsX4_readValue wsX4_mended := goodIn_r _ [112, 58, 59, 2, 113, 34, 35, 14, 36, 16, 21, 22, 23, 24, 25, 114, 115, 116, 117, 118, 119, 120, 121, 122, 123, 124, 125, 126, 127, 128, 129, 130, 131, 132, 140, 141, 142] (by decide +kernel) (by decide +kernel)
set_option maxRecDepth 20000 in
theorem gX4_readValue_X4_mended : GoodIn wsX4_readValue (wsV RX4 211 RX4 yX4_mended wsX4_mended) := goodIn_app (goodIn_of _ (by decide +kernel)) ggX4_readValue_X4_mended
theorem dX4_readValue_0 : decode cX4_readValue 0 = .ok (.iload_n 1, 1) := by decide +kernel
theorem dX4_readValue_1 : decode cX4_readValue 1 = .ok (.ifCond .lt 8, 3) := by decide +kernel
theorem dX4_readValue_4 : decode cX4_readValue 4 = .ok (.iload_n 1, 1) := by decide +kernel
theorem dX4_readValue_5 : decode cX4_readValue 5 = .ok (.iconst 5, 1) := by decide +kernel
theorem dX4_readValue_6 : decode cX4_readValue 6 = .ok (.if_icmp .lt 5, 3) := by decide +kernel
theorem dX4_readValue_9 : decode cX4_readValue 9 = .ok (.iconst (-1), 1) := by decide +kernel
theorem dX4_readValue_10 : decode cX4_readValue 10 = .ok (.ireturn, 1) := by decide +kernel
theorem dX4_readValue_11 : decode cX4_readValue 11 = .ok (.aload_n 0, 1) := by decide +kernel
theorem dX4_readValue_12 : decode cX4_readValue 12 = .ok (.getfield 12, 3) := by decide +kernel
theorem dX4_readValue_15 : decode cX4_readValue 15 = .ok (.iload_n 1, 1) := by decide +kernel
theorem dX4_readValue_16 : decode cX4_readValue 16 = .ok (.invokevirtual 192, 3) := by decide +kernel
theorem dX4_readValue_19 : decode cX4_readValue 19 = .ok (.istore_n 2, 1) := by decide +kernel
theorem dX4_readValue_20 : decode cX4_readValue 20 = .ok (.aload_n 0, 1) := by decide +kernel
theorem dX4_readValue_21 : decode cX4_readValue 21 = .ok (.getfield 21, 3) := by decide +kernel
theorem dX4_readValue_24 : decode cX4_readValue 24 = .ok (.iload_n 2, 1) := by decide +kernel
theorem dX4_readValue_25 : decode cX4_readValue 25 = .ok (.invokevirtual 195, 3) := by decide +kernel
theorem dX4_readValue_28 : decode cX4_readValue 28 = .ok (.istore_n 3, 1) := by decide +kernel
theorem dX4_readValue_29 : decode cX4_readValue 29 = .ok (.iconst (-1), 1) := by decide +kernel
theorem dX4_readValue_30 : decode cX4_readValue 30 = .ok (.istore 4, 2) := by decide +kernel
theorem dX4_readValue_32 : decode cX4_readValue 32 = .ok (.iload_n 3, 1) := by decide +kernel
theorem dX4_readValue_33 : decode cX4_readValue 33 = .ok (.ifCond .eq 45, 3) := by decide +kernel
theorem dX4_readValue_36 : decode cX4_readValue 36 = .ok (.iload_n 3, 1) := by decide +kernel
theorem dX4_readValue_37 : decode cX4_readValue 37 = .ok (.iconst 3, 1) := by decide +kernel
theorem dX4_readValue_38 : decode cX4_readValue 38 = .ok (.if_icmp .ne 20, 3) := by decide +kernel
theorem dX4_readValue_41 : decode cX4_readValue 41 = .ok (.aload_n 0, 1) := by decide +kernel
theorem dX4_readValue_42 : decode cX4_readValue 42 = .ok (.getfield 21, 3) := by decide +kernel
theorem dX4_readValue_45 : decode cX4_readValue 45 = .ok (.aload_n 0, 1) := by decide +kernel
theorem dX4_readValue_46 : decode cX4_readValue 46 = .ok (.getfield 21, 3) := by decide +kernel
theorem dX4_readValue_49 : decode cX4_readValue 49 = .ok (.invokevirtual 198, 3) := by decide +kernel
theorem dX4_readValue_52 : decode cX4_readValue 52 = .ok (.invokevirtual 201, 3) := by decide +kernel
theorem dX4_readValue_55 : decode cX4_readValue 55 = .ok (.goto 11, 3) := by decide +kernel
theorem dX4_readValue_58 : decode cX4_readValue 58 = .ok (.aload_n 0, 1) := by decide +kernel
theorem dX4_readValue_59 : decode cX4_readValue 59 = .ok (.getfield 12, 3) := by decide +kernel
theorem dX4_readValue_62 : decode cX4_readValue 62 = .ok (.iload_n 1, 1) := by decide +kernel
theorem dX4_readValue_63 : decode cX4_readValue 63 = .ok (.invokevirtual 169, 3) := by decide +kernel
theorem dX4_readValue_66 : decode cX4_readValue 66 = .ok (.istore 5, 2) := by decide +kernel
theorem dX4_readValue_68 : decode cX4_readValue 68 = .ok (.aload_n 0, 1) := by decide +kernel
theorem dX4_readValue_69 : decode cX4_readValue 69 = .ok (.iload_n 3, 1) := by decide +kernel
theorem dX4_readValue_70 : decode cX4_readValue 70 = .ok (.iload 5, 2) := by decide +kernel
theorem dX4_readValue_72 : decode cX4_readValue 72 = .ok (.iconst (-1), 1) := by decide +kernel
theorem dX4_readValue_73 : decode cX4_readValue 73 = .ok (.invokevirtual 152, 3) := by decide +kernel
theorem dX4_readValue_76 : decode cX4_readValue 76 = .ok (.istore 4, 2) := by decide +kernel
theorem dX4_readValue_78 : decode cX4_readValue 78 = .ok (.iload 4, 2) := by decide +kernel
theorem dX4_readValue_80 : decode cX4_readValue 80 = .ok (.iconst (-1), 1) := by decide +kernel
theorem dX4_readValue_81 : decode cX4_readValue 81 = .ok (.if_icmp .eq 6, 3) := by decide +kernel
theorem dX4_readValue_84 : decode cX4_readValue 84 = .ok (.iload 4, 2) := by decide +kernel
theorem dX4_readValue_86 : decode cX4_readValue 86 = .ok (.ireturn, 1) := by decide +kernel
theorem dX4_readValue_87 : decode cX4_readValue 87 = .ok (.iload_n 2, 1) := by decide +kernel
theorem dX4_readValue_88 : decode cX4_readValue 88 = .ok (.iconst 1, 1) := by decide +kernel
theorem dX4_readValue_89 : decode cX4_readValue 89 = .ok (.if_icmp .ne 17, 3) := by decide +kernel
theorem dX4_readValue_92 : decode cX4_readValue 92 = .ok (.aload_n 0, 1) := by decide +kernel
theorem dX4_readValue_93 : decode cX4_readValue 93 = .ok (.getfield 28, 3) := by decide +kernel
theorem dX4_readValue_96 : decode cX4_readValue 96 = .ok (.aload_n 0, 1) := by decide +kernel
theorem dX4_readValue_97 : decode cX4_readValue 97 = .ok (.getfield 21, 3) := by decide +kernel
theorem dX4_readValue_100 : decode cX4_readValue 100 = .ok (.invokevirtual 204, 3) := by decide +kernel
theorem dX4_readValue_103 : decode cX4_readValue 103 = .ok (.goto 29, 3) := by decide +kernel
theorem dX4_readValue_106 : decode cX4_readValue 106 = .ok (.aload_n 0, 1) := by decide +kernel
theorem dX4_readValue_107 : decode cX4_readValue 107 = .ok (.getfield 32, 3) := by decide +kernel
theorem dX4_readValue_110 : decode cX4_readValue 110 = .ok (.iload_n 1, 1) := by decide +kernel
theorem dX4_readValue_111 : decode cX4_readValue 111 = .ok (.iload_n 3, 1) := by decide +kernel
theorem dX4_readValue_112 : decode cX4_readValue 112 = .ok (.ifCond .ne 14, 3) := by decide +kernel
theorem dX4_readValue_115 : decode cX4_readValue 115 = .ok (.aload_n 0, 1) := by decide +kernel
theorem dX4_readValue_116 : decode cX4_readValue 116 = .ok (.getfield 21, 3) := by decide +kernel
theorem dX4_readValue_119 : decode cX4_readValue 119 = .ok (.iload_n 2, 1) := by decide +kernel
theorem dX4_readValue_120 : decode cX4_readValue 120 = .ok (.invokevirtual 208, 3) := by decide +kernel
theorem dX4_readValue_123 : decode cX4_readValue 123 = .ok (.goto 8, 3) := by decide +kernel
theorem dX4_readValue_126 : decode cX4_readValue 126 = .ok (.aload_n 0, 1) := by decide +kernel
theorem dX4_readValue_127 : decode cX4_readValue 127 = .ok (.iload_n 3, 1) := by decide +kernel
theorem dX4_readValue_128 : decode cX4_readValue 128 = .ok (.invokevirtual 211, 3) := by decide +kernel
theorem dX4_readValue_131 : decode cX4_readValue 131 = .ok (.iastore, 1) := by decide +kernel
theorem dX4_readValue_132 : decode cX4_readValue 132 = .ok (.iconst (-1), 1) := by decide +kernel
theorem dX4_readValue_133 : decode cX4_readValue 133 = .ok (.ireturn, 1) := by decide +kernel
set_option maxRecDepth 20000 in
theorem ggX4_mended_X6_number : GoodIn wsX4_mended wsX6_number := goodIn_r _ [8, 9, 10, 11, 12, 7, 13, 14, 34, 35, 36] (by decide +kernel) (by decide +kernel)
set_option maxRecDepth 20000 in
theorem gX4_mended_X6_number : GoodIn wsX4_mended (wsV RX4 214 RX6 yX6_number wsX6_number) := goodIn_app (goodIn_of _ (by decide +kernel)) ggX4_mended_X6_number
theorem dX4_mended_0 : decode cX4_mended 0 = .ok (.iload_n 1, 1) := by decide +kernel
theorem dX4_mended_1 : decode cX4_mended 1 = .ok (.bipush 6, 2) := by decide +kernel
theorem dX4_mended_3 : decode cX4_mended 3 = .ok (.if_icmp .ne 35, 3) := by decide +kernel
theorem dX4_mended_6 : decode cX4_mended 6 = .ok (.aload_n 0, 1) := by decide +kernel
theorem dX4_mended_7 : decode cX4_mended 7 = .ok (.getfield 182, 3) := by decide +kernel
theorem dX4_mended_10 : decode cX4_mended 10 = .ok (.iconst 2, 1) := by decide +kernel
theorem dX4_mended_11 : decode cX4_mended 11 = .ok (.if_icmp .ne 25, 3) := by decide +kernel
theorem dX4_mended_14 : decode cX4_mended 14 = .ok (.aload_n 0, 1) := by decide +kernel
theorem dX4_mended_15 : decode cX4_mended 15 = .ok (.getfield 185, 3) := by decide +kernel
theorem dX4_mended_18 : decode cX4_mended 18 = .ok (.ifCond .eq 11, 3) := by decide +kernel
theorem dX4_mended_21 : decode cX4_mended 21 = .ok (.aload_n 0, 1) := by decide +kernel
theorem dX4_mended_22 : decode cX4_mended 22 = .ok (.getfield 185, 3) := by decide +kernel
theorem dX4_mended_25 : decode cX4_mended 25 = .ok (.iconst 1, 1) := by decide +kernel
theorem dX4_mended_26 : decode cX4_mended 26 = .ok (.if_icmp .ne 10, 3) := by decide +kernel
theorem dX4_mended_29 : decode cX4_mended 29 = .ok (.aload_n 0, 1) := by decide +kernel
theorem dX4_mended_30 : decode cX4_mended 30 = .ok (.getfield 185, 3) := by decide +kernel
theorem dX4_mended_33 : decode cX4_mended 33 = .ok (.goto 4, 3) := by decide +kernel
theorem dX4_mended_36 : decode cX4_mended 36 = .ok (.iconst (-1), 1) := by decide +kernel
theorem dX4_mended_37 : decode cX4_mended 37 = .ok (.ireturn, 1) := by decide +kernel
theorem dX4_mended_38 : decode cX4_mended 38 = .ok (.aload_n 0, 1) := by decide +kernel
theorem dX4_mended_39 : decode cX4_mended 39 = .ok (.getfield 182, 3) := by decide +kernel
theorem dX4_mended_42 : decode cX4_mended 42 = .ok (.iconst 2, 1) := by decide +kernel
theorem dX4_mended_43 : decode cX4_mended 43 = .ok (.if_icmp .ne 8, 3) := by decide +kernel
theorem dX4_mended_46 : decode cX4_mended 46 = .ok (.aload_n 0, 1) := by decide +kernel
theorem dX4_mended_47 : decode cX4_mended 47 = .ok (.getfield 185, 3) := by decide +kernel
theorem dX4_mended_50 : decode cX4_mended 50 = .ok (.ireturn, 1) := by decide +kernel
theorem dX4_mended_51 : decode cX4_mended 51 = .ok (.iload_n 1, 1) := by decide +kernel
theorem dX4_mended_52 : decode cX4_mended 52 = .ok (.bipush 7, 2) := by decide +kernel
theorem dX4_mended_54 : decode cX4_mended 54 = .ok (.if_icmp .ne 7, 3) := by decide +kernel
theorem dX4_mended_57 : decode cX4_mended 57 = .ok (.iconst (-1), 1) := by decide +kernel
theorem dX4_mended_58 : decode cX4_mended 58 = .ok (.goto 10, 3) := by decide +kernel
theorem dX4_mended_61 : decode cX4_mended 61 = .ok (.aload_n 0, 1) := by decide +kernel
theorem dX4_mended_62 : decode cX4_mended 62 = .ok (.getfield 21, 3) := by decide +kernel
theorem dX4_mended_65 : decode cX4_mended 65 = .ok (.invokevirtual 214, 3) := by decide +kernel
theorem dX4_mended_68 : decode cX4_mended 68 = .ok (.ireturn, 1) := by decide +kernel
set_option maxRecDepth 20000 in
theorem ggX4_placeLine_X4_settleOutside : GoodIn wsX4_placeLine wsX4_settleOutside := goodIn_r _ [8, 2, 3, 9, 10, 11, 12, 7, 13, 14, 15, 16, 17, 1, 18, 19, 20, 21, 22, 23, 24, 25, 26, 27, 28, 29, 30, 31, 32, 33, 34, 35, 36, 37, 38, 39, 40, 41, 42, 43, 44, 45, 46, 47, 48, 49, 50, 51, 90, 91, 92, 93, 94, 95, 96, 97, 98, 99, 100, 101, 102, 103, 104, 105, 106, 107, 108, 122, 123, 124, 125, 126, 127, 128, 109, 110, 111, 112, 113, 114, 115, 116, 117, 118, 119, 120, 121, 129, 130, 131, 132, 133, 134, 135] (by decide +kernel) (by decide +kernel)
set_option maxRecDepth 20000 in
theorem gX4_placeLine_X4_settleOutside : GoodIn wsX4_placeLine (wsV RX4 216 RX4 yX4_settleOutside wsX4_settleOutside) := goodIn_app (goodIn_of _ (by decide +kernel)) ggX4_placeLine_X4_settleOutside
set_option maxRecDepth 20000 in
theorem ggX4_placeLine_X4_fail : GoodIn wsX4_placeLine wsX4_fail := goodIn_r _ [13, 14, 15, 16, 17, 1, 18, 19, 20, 21, 22, 23, 24, 25, 26, 27, 28, 29, 30, 31, 32, 33, 34, 35, 36, 37, 38, 39, 40, 41, 42, 43, 44, 45, 46, 47, 48, 7, 49, 50, 51, 90, 91, 92, 93, 94, 95, 96, 97, 98, 99, 100, 101, 102, 103, 104, 105, 106, 107, 108, 109, 110, 111, 112, 113, 114, 115, 116, 117, 118, 119, 120, 121, 129, 130, 131, 132, 133, 134, 135] (by decide +kernel) (by decide +kernel)
set_option maxRecDepth 20000 in
theorem gX4_placeLine_X4_fail : GoodIn wsX4_placeLine (wsV RX4 152 RX4 yX4_fail wsX4_fail) := goodIn_app (goodIn_of _ (by decide +kernel)) ggX4_placeLine_X4_fail
set_option maxRecDepth 20000 in
theorem ggX4_placeLine_X4_loseHousehold : GoodIn wsX4_placeLine wsX4_loseHousehold := goodIn_r _ [55, 1, 56, 10, 11, 12, 7, 13, 14, 15, 16, 17, 18, 19, 20, 21, 22, 23, 24, 25, 26, 27, 28, 29, 30, 31, 32, 33, 34, 35, 36, 37, 38, 39, 40, 41, 42, 43, 44, 45, 46, 47, 48, 49, 50, 51, 90, 91, 92, 93, 94, 95, 96, 97, 98, 99, 100, 101, 102, 103, 104, 105, 106, 107, 108, 109, 110, 111, 112, 113, 114, 115, 116, 117, 118, 119, 120, 121, 129, 130, 131, 132, 133, 134, 135] (by decide +kernel) (by decide +kernel)
set_option maxRecDepth 20000 in
theorem gX4_placeLine_X4_loseHousehold : GoodIn wsX4_placeLine (wsV RX4 219 RX4 yX4_loseHousehold wsX4_loseHousehold) := goodIn_app (goodIn_of _ (by decide +kernel)) ggX4_placeLine_X4_loseHousehold
set_option maxRecDepth 20000 in
theorem ggX4_placeLine_X4_takePerson : GoodIn wsX4_placeLine wsX4_takePerson := goodIn_r _ [60, 1, 3, 2, 61, 62, 63, 64, 65, 66, 67, 68, 69, 70, 71, 72, 73, 74, 75, 76, 77, 78, 79, 80, 81, 82, 83, 84, 10, 11, 12, 7, 13, 14, 15, 16, 17, 18, 19, 20, 21, 22, 23, 24, 25, 26, 27, 28, 29, 30, 31, 32, 33, 34, 35, 36, 37, 38, 39, 40, 41, 42, 43, 44, 45, 46, 47, 48, 49, 50, 51, 85, 86, 87, 88, 89, 52, 53, 54, 55, 56, 90, 91, 92, 93, 94, 95, 96, 97, 98, 99, 100, 101, 102, 103, 104, 105, 106, 107, 108, 122, 123, 124, 125, 126, 127, 128, 109, 110, 111, 112, 113, 114, 115, 116, 117, 118, 119, 120, 121, 129, 130, 131, 132, 133, 134, 135] (by decide +kernel) (by decide +kernel)
set_option maxRecDepth 20000 in
theorem gX4_placeLine_X4_takePerson : GoodIn wsX4_placeLine (wsV RX4 226 RX4 yX4_takePerson wsX4_takePerson) := goodIn_app (goodIn_of _ (by decide +kernel)) ggX4_placeLine_X4_takePerson
theorem dX4_placeLine_0 : decode cX4_placeLine 0 = .ok (.aload_n 0, 1) := by decide +kernel
theorem dX4_placeLine_1 : decode cX4_placeLine 1 = .ok (.getfield 28, 3) := by decide +kernel
theorem dX4_placeLine_4 : decode cX4_placeLine 4 = .ok (.getfield 81, 3) := by decide +kernel
theorem dX4_placeLine_7 : decode cX4_placeLine 7 = .ok (.ifCond .ne 11, 3) := by decide +kernel
theorem dX4_placeLine_10 : decode cX4_placeLine 10 = .ok (.aload_n 0, 1) := by decide +kernel
theorem dX4_placeLine_11 : decode cX4_placeLine 11 = .ok (.iload_n 1, 1) := by decide +kernel
theorem dX4_placeLine_12 : decode cX4_placeLine 12 = .ok (.invokevirtual 216, 3) := by decide +kernel
theorem dX4_placeLine_15 : decode cX4_placeLine 15 = .ok (.goto 83, 3) := by decide +kernel
theorem dX4_placeLine_18 : decode cX4_placeLine 18 = .ok (.iload_n 1, 1) := by decide +kernel
theorem dX4_placeLine_19 : decode cX4_placeLine 19 = .ok (.ifCond .lt 24, 3) := by decide +kernel
theorem dX4_placeLine_22 : decode cX4_placeLine 22 = .ok (.aload_n 0, 1) := by decide +kernel
theorem dX4_placeLine_23 : decode cX4_placeLine 23 = .ok (.aload_n 0, 1) := by decide +kernel
theorem dX4_placeLine_24 : decode cX4_placeLine 24 = .ok (.bipush 18, 2) := by decide +kernel
theorem dX4_placeLine_26 : decode cX4_placeLine 26 = .ok (.aload_n 0, 1) := by decide +kernel
theorem dX4_placeLine_27 : decode cX4_placeLine 27 = .ok (.getfield 12, 3) := by decide +kernel
theorem dX4_placeLine_30 : decode cX4_placeLine 30 = .ok (.getfield 124, 3) := by decide +kernel
theorem dX4_placeLine_33 : decode cX4_placeLine 33 = .ok (.iload_n 1, 1) := by decide +kernel
theorem dX4_placeLine_34 : decode cX4_placeLine 34 = .ok (.invokevirtual 152, 3) := by decide +kernel
theorem dX4_placeLine_37 : decode cX4_placeLine 37 = .ok (.invokevirtual 219, 3) := by decide +kernel
theorem dX4_placeLine_40 : decode cX4_placeLine 40 = .ok (.goto 58, 3) := by decide +kernel
theorem dX4_placeLine_43 : decode cX4_placeLine 43 = .ok (.iload_n 1, 1) := by decide +kernel
theorem dX4_placeLine_44 : decode cX4_placeLine 44 = .ok (.iconst (-1), 1) := by decide +kernel
theorem dX4_placeLine_45 : decode cX4_placeLine 45 = .ok (.if_icmp .ne 44, 3) := by decide +kernel
theorem dX4_placeLine_48 : decode cX4_placeLine 48 = .ok (.aload_n 0, 1) := by decide +kernel
theorem dX4_placeLine_49 : decode cX4_placeLine 49 = .ok (.getfield 12, 3) := by decide +kernel
theorem dX4_placeLine_52 : decode cX4_placeLine 52 = .ok (.getfield 121, 3) := by decide +kernel
theorem dX4_placeLine_55 : decode cX4_placeLine 55 = .ok (.bipush 72, 2) := by decide +kernel
theorem dX4_placeLine_57 : decode cX4_placeLine 57 = .ok (.if_icmp .ne 32, 3) := by decide +kernel
theorem dX4_placeLine_60 : decode cX4_placeLine 60 = .ok (.aload_n 0, 1) := by decide +kernel
theorem dX4_placeLine_61 : decode cX4_placeLine 61 = .ok (.getfield 28, 3) := by decide +kernel
theorem dX4_placeLine_64 : decode cX4_placeLine 64 = .ok (.aload_n 0, 1) := by decide +kernel
theorem dX4_placeLine_65 : decode cX4_placeLine 65 = .ok (.getfield 32, 3) := by decide +kernel
theorem dX4_placeLine_68 : decode cX4_placeLine 68 = .ok (.iconst 1, 1) := by decide +kernel
theorem dX4_placeLine_69 : decode cX4_placeLine 69 = .ok (.iaload, 1) := by decide +kernel
theorem dX4_placeLine_70 : decode cX4_placeLine 70 = .ok (.putfield 222, 3) := by decide +kernel
theorem dX4_placeLine_73 : decode cX4_placeLine 73 = .ok (.aload_n 0, 1) := by decide +kernel
theorem dX4_placeLine_74 : decode cX4_placeLine 74 = .ok (.getfield 28, 3) := by decide +kernel
theorem dX4_placeLine_77 : decode cX4_placeLine 77 = .ok (.aload_n 0, 1) := by decide +kernel
theorem dX4_placeLine_78 : decode cX4_placeLine 78 = .ok (.getfield 32, 3) := by decide +kernel
theorem dX4_placeLine_81 : decode cX4_placeLine 81 = .ok (.iconst 2, 1) := by decide +kernel
theorem dX4_placeLine_82 : decode cX4_placeLine 82 = .ok (.iaload, 1) := by decide +kernel
theorem dX4_placeLine_83 : decode cX4_placeLine 83 = .ok (.putfield 223, 3) := by decide +kernel
theorem dX4_placeLine_86 : decode cX4_placeLine 86 = .ok (.goto 12, 3) := by decide +kernel
theorem dX4_placeLine_89 : decode cX4_placeLine 89 = .ok (.iload_n 1, 1) := by decide +kernel
theorem dX4_placeLine_90 : decode cX4_placeLine 90 = .ok (.iconst (-1), 1) := by decide +kernel
theorem dX4_placeLine_91 : decode cX4_placeLine 91 = .ok (.if_icmp .ne 7, 3) := by decide +kernel
theorem dX4_placeLine_94 : decode cX4_placeLine 94 = .ok (.aload_n 0, 1) := by decide +kernel
theorem dX4_placeLine_95 : decode cX4_placeLine 95 = .ok (.invokevirtual 226, 3) := by decide +kernel
theorem dX4_placeLine_98 : decode cX4_placeLine 98 = .ok (.return_, 1) := by decide +kernel
set_option maxRecDepth 20000 in
theorem ggX4_takePerson_X2_describeNewcomer : GoodIn wsX4_takePerson wsX2_describeNewcomer := goodIn_r _ [8, 9, 10, 11, 12, 107, 108, 109, 110, 111, 112, 113, 114, 115, 116, 117, 118, 119] (by decide +kernel) (by decide +kernel)
set_option maxRecDepth 20000 in
theorem gX4_takePerson_X2_describeNewcomer : GoodIn wsX4_takePerson (wsV RX4 229 RX2 yX2_describeNewcomer wsX2_describeNewcomer) := goodIn_app (goodIn_of _ (by decide +kernel)) ggX4_takePerson_X2_describeNewcomer
set_option maxRecDepth 20000 in
theorem ggX4_takePerson_X2_hasLikeOfNewcomer : GoodIn wsX4_takePerson wsX2_hasLikeOfNewcomer := goodIn_r _ [16, 9, 17, 11, 18, 19, 20, 7, 21, 22, 23, 24, 25, 26, 27, 107, 108, 109, 110, 111, 112, 113, 114, 115, 116, 117, 118, 119] (by decide +kernel) (by decide +kernel)
set_option maxRecDepth 20000 in
theorem gX4_takePerson_X2_hasLikeOfNewcomer : GoodIn wsX4_takePerson (wsV RX4 233 RX2 yX2_hasLikeOfNewcomer wsX2_hasLikeOfNewcomer) := goodIn_app (goodIn_of _ (by decide +kernel)) ggX4_takePerson_X2_hasLikeOfNewcomer
set_option maxRecDepth 20000 in
theorem ggX4_takePerson_X4_fail : GoodIn wsX4_takePerson wsX4_fail := goodIn_r _ [32, 33, 34, 35, 36, 1, 37, 38, 39, 40, 41, 42, 43, 44, 45, 46, 47, 48, 49, 50, 51, 52, 53, 54, 55, 56, 57, 58, 59, 60, 61, 62, 63, 64, 65, 66, 67, 31, 68, 69, 70, 81, 82, 83, 84, 85, 86, 87, 88, 89, 90, 91, 92, 93, 94, 95, 96, 97, 98, 99, 107, 108, 109, 110, 111, 112, 113, 114, 115, 116, 117, 118, 119, 120, 121, 122, 123, 124, 125, 126] (by decide +kernel) (by decide +kernel)
set_option maxRecDepth 20000 in
theorem gX4_takePerson_X4_fail : GoodIn wsX4_takePerson (wsV RX4 152 RX4 yX4_fail wsX4_fail) := goodIn_app (goodIn_of _ (by decide +kernel)) ggX4_takePerson_X4_fail
set_option maxRecDepth 20000 in
theorem ggX4_takePerson_X2_takeNewcomer : GoodIn wsX4_takePerson wsX2_takeNewcomer := goodIn_r _ [74, 9, 75, 17, 107, 108, 109, 110, 111, 112, 113, 114, 115, 116, 117, 118, 119] (by decide +kernel) (by decide +kernel)
set_option maxRecDepth 20000 in
theorem gX4_takePerson_X2_takeNewcomer : GoodIn wsX4_takePerson (wsV RX4 236 RX2 yX2_takeNewcomer wsX2_takeNewcomer) := goodIn_app (goodIn_of _ (by decide +kernel)) ggX4_takePerson_X2_takeNewcomer
set_option maxRecDepth 20000 in
theorem ggX4_takePerson_X4_loseHousehold : GoodIn wsX4_takePerson wsX4_loseHousehold := goodIn_r _ [79, 1, 80, 28, 29, 30, 31, 32, 33, 34, 35, 36, 37, 38, 39, 40, 41, 42, 43, 44, 45, 46, 47, 48, 49, 50, 51, 52, 53, 54, 55, 56, 57, 58, 59, 60, 61, 62, 63, 64, 65, 66, 67, 68, 69, 70, 81, 82, 83, 84, 85, 86, 87, 88, 89, 90, 91, 92, 93, 94, 95, 96, 97, 98, 99, 107, 108, 109, 110, 111, 112, 113, 114, 115, 116, 117, 118, 119, 120, 121, 122, 123, 124, 125, 126] (by decide +kernel) (by decide +kernel)
set_option maxRecDepth 20000 in
theorem gX4_takePerson_X4_loseHousehold : GoodIn wsX4_takePerson (wsV RX4 219 RX4 yX4_loseHousehold wsX4_loseHousehold) := goodIn_app (goodIn_of _ (by decide +kernel)) ggX4_takePerson_X4_loseHousehold
theorem dX4_takePerson_0 : decode cX4_takePerson 0 = .ok (.aload_n 0, 1) := by decide +kernel
theorem dX4_takePerson_1 : decode cX4_takePerson 1 = .ok (.getfield 28, 3) := by decide +kernel
theorem dX4_takePerson_4 : decode cX4_takePerson 4 = .ok (.aload_n 0, 1) := by decide +kernel
theorem dX4_takePerson_5 : decode cX4_takePerson 5 = .ok (.getfield 32, 3) := by decide +kernel
theorem dX4_takePerson_8 : decode cX4_takePerson 8 = .ok (.iconst 2, 1) := by decide +kernel
theorem dX4_takePerson_9 : decode cX4_takePerson 9 = .ok (.iaload, 1) := by decide +kernel
theorem dX4_takePerson_10 : decode cX4_takePerson 10 = .ok (.aload_n 0, 1) := by decide +kernel
theorem dX4_takePerson_11 : decode cX4_takePerson 11 = .ok (.getfield 32, 3) := by decide +kernel
theorem dX4_takePerson_14 : decode cX4_takePerson 14 = .ok (.iconst 3, 1) := by decide +kernel
theorem dX4_takePerson_15 : decode cX4_takePerson 15 = .ok (.iaload, 1) := by decide +kernel
theorem dX4_takePerson_16 : decode cX4_takePerson 16 = .ok (.aload_n 0, 1) := by decide +kernel
theorem dX4_takePerson_17 : decode cX4_takePerson 17 = .ok (.getfield 32, 3) := by decide +kernel
theorem dX4_takePerson_20 : decode cX4_takePerson 20 = .ok (.iconst 4, 1) := by decide +kernel
theorem dX4_takePerson_21 : decode cX4_takePerson 21 = .ok (.iaload, 1) := by decide +kernel
theorem dX4_takePerson_22 : decode cX4_takePerson 22 = .ok (.invokevirtual 229, 3) := by decide +kernel
theorem dX4_takePerson_25 : decode cX4_takePerson 25 = .ok (.iconst (-1), 1) := by decide +kernel
theorem dX4_takePerson_26 : decode cX4_takePerson 26 = .ok (.istore_n 1, 1) := by decide +kernel
theorem dX4_takePerson_27 : decode cX4_takePerson 27 = .ok (.aload_n 0, 1) := by decide +kernel
theorem dX4_takePerson_28 : decode cX4_takePerson 28 = .ok (.getfield 28, 3) := by decide +kernel
theorem dX4_takePerson_31 : decode cX4_takePerson 31 = .ok (.invokevirtual 233, 3) := by decide +kernel
theorem dX4_takePerson_34 : decode cX4_takePerson 34 = .ok (.ifCond .eq 18, 3) := by decide +kernel
theorem dX4_takePerson_37 : decode cX4_takePerson 37 = .ok (.aload_n 0, 1) := by decide +kernel
theorem dX4_takePerson_38 : decode cX4_takePerson 38 = .ok (.bipush 17, 2) := by decide +kernel
theorem dX4_takePerson_40 : decode cX4_takePerson 40 = .ok (.aload_n 0, 1) := by decide +kernel
theorem dX4_takePerson_41 : decode cX4_takePerson 41 = .ok (.getfield 12, 3) := by decide +kernel
theorem dX4_takePerson_44 : decode cX4_takePerson 44 = .ok (.getfield 124, 3) := by decide +kernel
theorem dX4_takePerson_47 : decode cX4_takePerson 47 = .ok (.iconst (-1), 1) := by decide +kernel
theorem dX4_takePerson_48 : decode cX4_takePerson 48 = .ok (.invokevirtual 152, 3) := by decide +kernel
theorem dX4_takePerson_51 : decode cX4_takePerson 51 = .ok (.istore_n 1, 1) := by decide +kernel
theorem dX4_takePerson_52 : decode cX4_takePerson 52 = .ok (.iload_n 1, 1) := by decide +kernel
theorem dX4_takePerson_53 : decode cX4_takePerson 53 = .ok (.iconst (-1), 1) := by decide +kernel
theorem dX4_takePerson_54 : decode cX4_takePerson 54 = .ok (.if_icmp .ne 10, 3) := by decide +kernel
theorem dX4_takePerson_57 : decode cX4_takePerson 57 = .ok (.aload_n 0, 1) := by decide +kernel
theorem dX4_takePerson_58 : decode cX4_takePerson 58 = .ok (.getfield 28, 3) := by decide +kernel
theorem dX4_takePerson_61 : decode cX4_takePerson 61 = .ok (.invokevirtual 236, 3) := by decide +kernel
theorem dX4_takePerson_64 : decode cX4_takePerson 64 = .ok (.iload_n 1, 1) := by decide +kernel
theorem dX4_takePerson_65 : decode cX4_takePerson 65 = .ok (.ifCond .lt 21, 3) := by decide +kernel
theorem dX4_takePerson_68 : decode cX4_takePerson 68 = .ok (.aload_n 0, 1) := by decide +kernel
theorem dX4_takePerson_69 : decode cX4_takePerson 69 = .ok (.aload_n 0, 1) := by decide +kernel
theorem dX4_takePerson_70 : decode cX4_takePerson 70 = .ok (.bipush 18, 2) := by decide +kernel
theorem dX4_takePerson_72 : decode cX4_takePerson 72 = .ok (.aload_n 0, 1) := by decide +kernel
theorem dX4_takePerson_73 : decode cX4_takePerson 73 = .ok (.getfield 12, 3) := by decide +kernel
theorem dX4_takePerson_76 : decode cX4_takePerson 76 = .ok (.getfield 124, 3) := by decide +kernel
theorem dX4_takePerson_79 : decode cX4_takePerson 79 = .ok (.iload_n 1, 1) := by decide +kernel
theorem dX4_takePerson_80 : decode cX4_takePerson 80 = .ok (.invokevirtual 152, 3) := by decide +kernel
theorem dX4_takePerson_83 : decode cX4_takePerson 83 = .ok (.invokevirtual 219, 3) := by decide +kernel
theorem dX4_takePerson_86 : decode cX4_takePerson 86 = .ok (.return_, 1) := by decide +kernel
set_option maxRecDepth 20000 in
theorem ggX4_loseHousehold_X4_fail : GoodIn wsX4_loseHousehold wsX4_fail := goodIn_r _ [7, 8, 9, 10, 11, 1, 12, 13, 14, 15, 16, 17, 18, 19, 20, 21, 22, 23, 24, 25, 26, 27, 28, 29, 30, 31, 32, 33, 34, 35, 36, 37, 38, 39, 40, 41, 42, 6, 43, 44, 45, 46, 47, 48, 49, 50, 51, 52, 53, 54, 55, 56, 57, 58, 59, 60, 61, 62, 63, 64, 65, 66, 67, 68, 69, 70, 71, 72, 73, 74, 75, 76, 77, 78, 79, 80, 81, 82, 83, 84] (by decide +kernel) (by decide +kernel)
set_option maxRecDepth 20000 in
theorem gX4_loseHousehold_X4_fail : GoodIn wsX4_loseHousehold (wsV RX4 152 RX4 yX4_fail wsX4_fail) := goodIn_app (goodIn_of _ (by decide +kernel)) ggX4_loseHousehold_X4_fail
theorem dX4_loseHousehold_0 : decode cX4_loseHousehold 0 = .ok (.iload_n 1, 1) := by decide +kernel
theorem dX4_loseHousehold_1 : decode cX4_loseHousehold 1 = .ok (.iconst (-1), 1) := by decide +kernel
theorem dX4_loseHousehold_2 : decode cX4_loseHousehold 2 = .ok (.if_icmp .ne 4, 3) := by decide +kernel
theorem dX4_loseHousehold_5 : decode cX4_loseHousehold 5 = .ok (.return_, 1) := by decide +kernel
theorem dX4_loseHousehold_6 : decode cX4_loseHousehold 6 = .ok (.aload_n 0, 1) := by decide +kernel
theorem dX4_loseHousehold_7 : decode cX4_loseHousehold 7 = .ok (.getfield 28, 3) := by decide +kernel
theorem dX4_loseHousehold_10 : decode cX4_loseHousehold 10 = .ok (.iconst 1, 1) := by decide +kernel
theorem dX4_loseHousehold_11 : decode cX4_loseHousehold 11 = .ok (.putfield 135, 3) := by decide +kernel
theorem dX4_loseHousehold_14 : decode cX4_loseHousehold 14 = .ok (.aload_n 0, 1) := by decide +kernel
theorem dX4_loseHousehold_15 : decode cX4_loseHousehold 15 = .ok (.dup, 1) := by decide +kernel
theorem dX4_loseHousehold_16 : decode cX4_loseHousehold 16 = .ok (.getfield 59, 3) := by decide +kernel
theorem dX4_loseHousehold_19 : decode cX4_loseHousehold 19 = .ok (.iconst 1, 1) := by decide +kernel
theorem dX4_loseHousehold_20 : decode cX4_loseHousehold 20 = .ok (.iadd, 1) := by decide +kernel
theorem dX4_loseHousehold_21 : decode cX4_loseHousehold 21 = .ok (.putfield 59, 3) := by decide +kernel
theorem dX4_loseHousehold_24 : decode cX4_loseHousehold 24 = .ok (.iload_n 1, 1) := by decide +kernel
theorem dX4_loseHousehold_25 : decode cX4_loseHousehold 25 = .ok (.ifCond .lt 18, 3) := by decide +kernel
theorem dX4_loseHousehold_28 : decode cX4_loseHousehold 28 = .ok (.aload_n 0, 1) := by decide +kernel
theorem dX4_loseHousehold_29 : decode cX4_loseHousehold 29 = .ok (.bipush 21, 2) := by decide +kernel
theorem dX4_loseHousehold_31 : decode cX4_loseHousehold 31 = .ok (.aload_n 0, 1) := by decide +kernel
theorem dX4_loseHousehold_32 : decode cX4_loseHousehold 32 = .ok (.getfield 28, 3) := by decide +kernel
theorem dX4_loseHousehold_35 : decode cX4_loseHousehold 35 = .ok (.getfield 239, 3) := by decide +kernel
theorem dX4_loseHousehold_38 : decode cX4_loseHousehold 38 = .ok (.iload_n 1, 1) := by decide +kernel
theorem dX4_loseHousehold_39 : decode cX4_loseHousehold 39 = .ok (.invokevirtual 152, 3) := by decide +kernel
theorem dX4_loseHousehold_42 : decode cX4_loseHousehold 42 = .ok (.pop, 1) := by decide +kernel
theorem dX4_loseHousehold_43 : decode cX4_loseHousehold 43 = .ok (.return_, 1) := by decide +kernel
set_option maxRecDepth 20000 in
theorem ggX4_settleOutside_X4_fail : GoodIn wsX4_settleOutside wsX4_fail := goodIn_r _ [8, 9, 10, 11, 12, 13, 14, 15, 16, 17, 18, 19, 20, 21, 22, 23, 24, 25, 26, 27, 28, 29, 30, 31, 32, 33, 34, 35, 36, 37, 38, 39, 40, 41, 42, 43, 44, 7, 45, 46, 47, 48, 49, 50, 51, 52, 53, 54, 55, 56, 57, 58, 59, 60, 61, 62, 63, 64, 65, 66, 74, 75, 76, 77, 78, 79, 80, 81, 82, 83, 84, 85, 86, 87, 88, 89, 90, 91, 92, 93] (by decide +kernel) (by decide +kernel)
set_option maxRecDepth 20000 in
theorem gX4_settleOutside_X4_fail : GoodIn wsX4_settleOutside (wsV RX4 152 RX4 yX4_fail wsX4_fail) := goodIn_app (goodIn_of _ (by decide +kernel)) ggX4_settleOutside_X4_fail
theorem dX4_settleOutside_0 : decode cX4_settleOutside 0 = .ok (.iload_n 1, 1) := by decide +kernel
theorem dX4_settleOutside_1 : decode cX4_settleOutside 1 = .ok (.ifCond .lt 18, 3) := by decide +kernel
theorem dX4_settleOutside_4 : decode cX4_settleOutside 4 = .ok (.aload_n 0, 1) := by decide +kernel
theorem dX4_settleOutside_5 : decode cX4_settleOutside 5 = .ok (.bipush 21, 2) := by decide +kernel
theorem dX4_settleOutside_7 : decode cX4_settleOutside 7 = .ok (.aload_n 0, 1) := by decide +kernel
theorem dX4_settleOutside_8 : decode cX4_settleOutside 8 = .ok (.getfield 12, 3) := by decide +kernel
theorem dX4_settleOutside_11 : decode cX4_settleOutside 11 = .ok (.getfield 124, 3) := by decide +kernel
theorem dX4_settleOutside_14 : decode cX4_settleOutside 14 = .ok (.iload_n 1, 1) := by decide +kernel
theorem dX4_settleOutside_15 : decode cX4_settleOutside 15 = .ok (.invokevirtual 152, 3) := by decide +kernel
theorem dX4_settleOutside_18 : decode cX4_settleOutside 18 = .ok (.pop, 1) := by decide +kernel
theorem dX4_settleOutside_19 : decode cX4_settleOutside 19 = .ok (.iload_n 1, 1) := by decide +kernel
theorem dX4_settleOutside_20 : decode cX4_settleOutside 20 = .ok (.iconst (-1), 1) := by decide +kernel
theorem dX4_settleOutside_21 : decode cX4_settleOutside 21 = .ok (.if_icmp .eq 4, 3) := by decide +kernel
theorem dX4_settleOutside_24 : decode cX4_settleOutside 24 = .ok (.return_, 1) := by decide +kernel
theorem dX4_settleOutside_25 : decode cX4_settleOutside 25 = .ok (.aload_n 0, 1) := by decide +kernel
theorem dX4_settleOutside_26 : decode cX4_settleOutside 26 = .ok (.getfield 32, 3) := by decide +kernel
theorem dX4_settleOutside_29 : decode cX4_settleOutside 29 = .ok (.iconst 1, 1) := by decide +kernel
theorem dX4_settleOutside_30 : decode cX4_settleOutside 30 = .ok (.iaload, 1) := by decide +kernel
theorem dX4_settleOutside_31 : decode cX4_settleOutside 31 = .ok (.iconst (-1), 1) := by decide +kernel
theorem dX4_settleOutside_32 : decode cX4_settleOutside 32 = .ok (.if_icmp .eq 31, 3) := by decide +kernel
theorem dX4_settleOutside_35 : decode cX4_settleOutside 35 = .ok (.aload_n 0, 1) := by decide +kernel
theorem dX4_settleOutside_36 : decode cX4_settleOutside 36 = .ok (.getfield 32, 3) := by decide +kernel
theorem dX4_settleOutside_39 : decode cX4_settleOutside 39 = .ok (.iconst 1, 1) := by decide +kernel
theorem dX4_settleOutside_40 : decode cX4_settleOutside 40 = .ok (.iaload, 1) := by decide +kernel
theorem dX4_settleOutside_41 : decode cX4_settleOutside 41 = .ok (.aload_n 0, 1) := by decide +kernel
theorem dX4_settleOutside_42 : decode cX4_settleOutside 42 = .ok (.getfield 56, 3) := by decide +kernel
theorem dX4_settleOutside_45 : decode cX4_settleOutside 45 = .ok (.if_icmp .eq 18, 3) := by decide +kernel
theorem dX4_settleOutside_48 : decode cX4_settleOutside 48 = .ok (.aload_n 0, 1) := by decide +kernel
theorem dX4_settleOutside_49 : decode cX4_settleOutside 49 = .ok (.bipush 20, 2) := by decide +kernel
theorem dX4_settleOutside_51 : decode cX4_settleOutside 51 = .ok (.aload_n 0, 1) := by decide +kernel
theorem dX4_settleOutside_52 : decode cX4_settleOutside 52 = .ok (.getfield 12, 3) := by decide +kernel
theorem dX4_settleOutside_55 : decode cX4_settleOutside 55 = .ok (.getfield 124, 3) := by decide +kernel
theorem dX4_settleOutside_58 : decode cX4_settleOutside 58 = .ok (.iconst (-1), 1) := by decide +kernel
theorem dX4_settleOutside_59 : decode cX4_settleOutside 59 = .ok (.invokevirtual 152, 3) := by decide +kernel
theorem dX4_settleOutside_62 : decode cX4_settleOutside 62 = .ok (.pop, 1) := by decide +kernel
theorem dX4_settleOutside_63 : decode cX4_settleOutside 63 = .ok (.return_, 1) := by decide +kernel
set_option maxRecDepth 20000 in
theorem ggX4_closeHousehold_X4_askOfHousehold : GoodIn wsX4_closeHousehold wsX4_askOfHousehold := goodIn_r _ [8, 1, 9, 10, 11, 12, 7, 13, 14, 15, 16, 17, 18, 19, 20, 21, 22, 23, 24, 25, 26, 27, 28, 29, 30, 31, 32, 33, 34, 35, 36, 37, 38, 39, 40, 41, 42, 43, 44, 45, 46, 47, 48, 49, 3, 2, 50, 51, 52, 53, 54, 84, 85, 86, 87, 88, 89, 90, 91, 92, 93, 94, 95, 96, 97, 98, 99, 100, 101, 102, 103, 104, 105, 106, 107, 108, 109, 110, 111, 112, 113, 114, 115, 116, 117, 118, 119, 120, 121, 122] (by decide +kernel) (by decide +kernel)
set_option maxRecDepth 20000 in
theorem gX4_closeHousehold_X4_askOfHousehold : GoodIn wsX4_closeHousehold (wsV RX4 240 RX4 yX4_askOfHousehold wsX4_askOfHousehold) := goodIn_app (goodIn_of _ (by decide +kernel)) ggX4_closeHousehold_X4_askOfHousehold
set_option maxRecDepth 20000 in
theorem ggX4_closeHousehold_X4_takeHousehold : GoodIn wsX4_closeHousehold wsX4_takeHousehold := goodIn_r _ [58, 59, 1, 60, 61, 9, 62, 63, 64, 65, 66, 67, 68, 69, 70, 71, 72, 73, 74, 75, 76, 77, 78, 79, 80, 81, 82, 83, 84, 85, 86, 87, 88, 89, 90, 91, 92, 93, 94, 95, 96, 97, 98, 99, 100, 101, 102, 103, 104, 105, 106, 107, 108, 109, 110, 111, 112, 113, 114, 115, 123, 124, 125, 126, 127, 128, 129, 130, 131, 132] (by decide +kernel) (by decide +kernel)
set_option maxRecDepth 20000 in
theorem gX4_closeHousehold_X4_takeHousehold : GoodIn wsX4_closeHousehold (wsV RX4 243 RX4 yX4_takeHousehold wsX4_takeHousehold) := goodIn_app (goodIn_of _ (by decide +kernel)) ggX4_closeHousehold_X4_takeHousehold
theorem dX4_closeHousehold_0 : decode cX4_closeHousehold 0 = .ok (.aload_n 0, 1) := by decide +kernel
theorem dX4_closeHousehold_1 : decode cX4_closeHousehold 1 = .ok (.getfield 28, 3) := by decide +kernel
theorem dX4_closeHousehold_4 : decode cX4_closeHousehold 4 = .ok (.getfield 135, 3) := by decide +kernel
theorem dX4_closeHousehold_7 : decode cX4_closeHousehold 7 = .ok (.ifCond .ne 7, 3) := by decide +kernel
theorem dX4_closeHousehold_10 : decode cX4_closeHousehold 10 = .ok (.aload_n 0, 1) := by decide +kernel
theorem dX4_closeHousehold_11 : decode cX4_closeHousehold 11 = .ok (.invokevirtual 240, 3) := by decide +kernel
theorem dX4_closeHousehold_14 : decode cX4_closeHousehold 14 = .ok (.aload_n 0, 1) := by decide +kernel
theorem dX4_closeHousehold_15 : decode cX4_closeHousehold 15 = .ok (.getfield 28, 3) := by decide +kernel
theorem dX4_closeHousehold_18 : decode cX4_closeHousehold 18 = .ok (.getfield 135, 3) := by decide +kernel
theorem dX4_closeHousehold_21 : decode cX4_closeHousehold 21 = .ok (.ifCond .ne 7, 3) := by decide +kernel
theorem dX4_closeHousehold_24 : decode cX4_closeHousehold 24 = .ok (.aload_n 0, 1) := by decide +kernel
theorem dX4_closeHousehold_25 : decode cX4_closeHousehold 25 = .ok (.invokevirtual 243, 3) := by decide +kernel
theorem dX4_closeHousehold_28 : decode cX4_closeHousehold 28 = .ok (.aload_n 0, 1) := by decide +kernel
theorem dX4_closeHousehold_29 : decode cX4_closeHousehold 29 = .ok (.getfield 28, 3) := by decide +kernel
theorem dX4_closeHousehold_32 : decode cX4_closeHousehold 32 = .ok (.iconst 0, 1) := by decide +kernel
theorem dX4_closeHousehold_33 : decode cX4_closeHousehold 33 = .ok (.putfield 81, 3) := by decide +kernel
theorem dX4_closeHousehold_36 : decode cX4_closeHousehold 36 = .ok (.aload_n 0, 1) := by decide +kernel
theorem dX4_closeHousehold_37 : decode cX4_closeHousehold 37 = .ok (.getfield 78, 3) := by decide +kernel
theorem dX4_closeHousehold_40 : decode cX4_closeHousehold 40 = .ok (.ifCond .eq 8, 3) := by decide +kernel
theorem dX4_closeHousehold_43 : decode cX4_closeHousehold 43 = .ok (.aload_n 0, 1) := by decide +kernel
theorem dX4_closeHousehold_44 : decode cX4_closeHousehold 44 = .ok (.iconst 1, 1) := by decide +kernel
theorem dX4_closeHousehold_45 : decode cX4_closeHousehold 45 = .ok (.putfield 75, 3) := by decide +kernel
theorem dX4_closeHousehold_48 : decode cX4_closeHousehold 48 = .ok (.aload_n 0, 1) := by decide +kernel
theorem dX4_closeHousehold_49 : decode cX4_closeHousehold 49 = .ok (.iconst 0, 1) := by decide +kernel
theorem dX4_closeHousehold_50 : decode cX4_closeHousehold 50 = .ok (.putfield 78, 3) := by decide +kernel
theorem dX4_closeHousehold_53 : decode cX4_closeHousehold 53 = .ok (.return_, 1) := by decide +kernel
set_option maxRecDepth 20000 in
theorem ggX4_askOfHousehold_X4_fail : GoodIn wsX4_askOfHousehold wsX4_fail := goodIn_r _ [7, 8, 9, 10, 11, 1, 12, 13, 14, 15, 16, 17, 18, 19, 20, 21, 22, 23, 24, 25, 26, 27, 28, 29, 30, 31, 32, 33, 34, 35, 36, 37, 38, 39, 40, 41, 42, 6, 43, 44, 45, 51, 52, 53, 54, 55, 56, 57, 58, 59, 60, 61, 62, 63, 64, 65, 66, 67, 68, 69, 70, 71, 72, 73, 74, 75, 76, 77, 78, 79, 80, 81, 82, 83, 84, 85, 86, 87, 88, 89] (by decide +kernel) (by decide +kernel)
set_option maxRecDepth 20000 in
theorem gX4_askOfHousehold_X4_fail : GoodIn wsX4_askOfHousehold (wsV RX4 152 RX4 yX4_fail wsX4_fail) := goodIn_app (goodIn_of _ (by decide +kernel)) ggX4_askOfHousehold_X4_fail
set_option maxRecDepth 20000 in
theorem ggX4_askOfHousehold_X4_loseHousehold : GoodIn wsX4_askOfHousehold wsX4_loseHousehold := goodIn_r _ [49, 1, 50, 3, 4, 5, 6, 7, 8, 9, 10, 11, 12, 13, 14, 15, 16, 17, 18, 19, 20, 21, 22, 23, 24, 25, 26, 27, 28, 29, 30, 31, 32, 33, 34, 35, 36, 37, 38, 39, 40, 41, 42, 43, 44, 45, 51, 52, 53, 54, 55, 56, 57, 58, 59, 60, 61, 62, 63, 64, 65, 66, 67, 68, 69, 70, 71, 72, 73, 74, 75, 76, 77, 78, 79, 80, 81, 82, 83, 84, 85, 86, 87, 88, 89] (by decide +kernel) (by decide +kernel)
set_option maxRecDepth 20000 in
theorem gX4_askOfHousehold_X4_loseHousehold : GoodIn wsX4_askOfHousehold (wsV RX4 219 RX4 yX4_loseHousehold wsX4_loseHousehold) := goodIn_app (goodIn_of _ (by decide +kernel)) ggX4_askOfHousehold_X4_loseHousehold
theorem dX4_askOfHousehold_0 : decode cX4_askOfHousehold 0 = .ok (.aload_n 0, 1) := by decide +kernel
theorem dX4_askOfHousehold_1 : decode cX4_askOfHousehold 1 = .ok (.getfield 28, 3) := by decide +kernel
theorem dX4_askOfHousehold_4 : decode cX4_askOfHousehold 4 = .ok (.getfield 239, 3) := by decide +kernel
theorem dX4_askOfHousehold_7 : decode cX4_askOfHousehold 7 = .ok (.istore_n 1, 1) := by decide +kernel
theorem dX4_askOfHousehold_8 : decode cX4_askOfHousehold 8 = .ok (.aload_n 0, 1) := by decide +kernel
theorem dX4_askOfHousehold_9 : decode cX4_askOfHousehold 9 = .ok (.getfield 28, 3) := by decide +kernel
theorem dX4_askOfHousehold_12 : decode cX4_askOfHousehold 12 = .ok (.getfield 223, 3) := by decide +kernel
theorem dX4_askOfHousehold_15 : decode cX4_askOfHousehold 15 = .ok (.istore_n 2, 1) := by decide +kernel
theorem dX4_askOfHousehold_16 : decode cX4_askOfHousehold 16 = .ok (.aload_n 0, 1) := by decide +kernel
theorem dX4_askOfHousehold_17 : decode cX4_askOfHousehold 17 = .ok (.getfield 28, 3) := by decide +kernel
theorem dX4_askOfHousehold_20 : decode cX4_askOfHousehold 20 = .ok (.getfield 246, 3) := by decide +kernel
theorem dX4_askOfHousehold_23 : decode cX4_askOfHousehold 23 = .ok (.ifCond .ne 15, 3) := by decide +kernel
theorem dX4_askOfHousehold_26 : decode cX4_askOfHousehold 26 = .ok (.aload_n 0, 1) := by decide +kernel
theorem dX4_askOfHousehold_27 : decode cX4_askOfHousehold 27 = .ok (.aload_n 0, 1) := by decide +kernel
theorem dX4_askOfHousehold_28 : decode cX4_askOfHousehold 28 = .ok (.bipush 14, 2) := by decide +kernel
theorem dX4_askOfHousehold_30 : decode cX4_askOfHousehold 30 = .ok (.iload_n 1, 1) := by decide +kernel
theorem dX4_askOfHousehold_31 : decode cX4_askOfHousehold 31 = .ok (.iconst (-1), 1) := by decide +kernel
theorem dX4_askOfHousehold_32 : decode cX4_askOfHousehold 32 = .ok (.invokevirtual 152, 3) := by decide +kernel
theorem dX4_askOfHousehold_35 : decode cX4_askOfHousehold 35 = .ok (.invokevirtual 219, 3) := by decide +kernel
theorem dX4_askOfHousehold_38 : decode cX4_askOfHousehold 38 = .ok (.aload_n 0, 1) := by decide +kernel
theorem dX4_askOfHousehold_39 : decode cX4_askOfHousehold 39 = .ok (.getfield 28, 3) := by decide +kernel
theorem dX4_askOfHousehold_42 : decode cX4_askOfHousehold 42 = .ok (.getfield 135, 3) := by decide +kernel
theorem dX4_askOfHousehold_45 : decode cX4_askOfHousehold 45 = .ok (.ifCond .eq 4, 3) := by decide +kernel
theorem dX4_askOfHousehold_48 : decode cX4_askOfHousehold 48 = .ok (.return_, 1) := by decide +kernel
theorem dX4_askOfHousehold_49 : decode cX4_askOfHousehold 49 = .ok (.iload_n 2, 1) := by decide +kernel
theorem dX4_askOfHousehold_50 : decode cX4_askOfHousehold 50 = .ok (.iconst (-1), 1) := by decide +kernel
theorem dX4_askOfHousehold_51 : decode cX4_askOfHousehold 51 = .ok (.if_icmp .eq 26, 3) := by decide +kernel
theorem dX4_askOfHousehold_54 : decode cX4_askOfHousehold 54 = .ok (.iload_n 2, 1) := by decide +kernel
theorem dX4_askOfHousehold_55 : decode cX4_askOfHousehold 55 = .ok (.aload_n 0, 1) := by decide +kernel
theorem dX4_askOfHousehold_56 : decode cX4_askOfHousehold 56 = .ok (.getfield 28, 3) := by decide +kernel
theorem dX4_askOfHousehold_59 : decode cX4_askOfHousehold 59 = .ok (.getfield 246, 3) := by decide +kernel
theorem dX4_askOfHousehold_62 : decode cX4_askOfHousehold 62 = .ok (.if_icmp .eq 15, 3) := by decide +kernel
theorem dX4_askOfHousehold_65 : decode cX4_askOfHousehold 65 = .ok (.aload_n 0, 1) := by decide +kernel
theorem dX4_askOfHousehold_66 : decode cX4_askOfHousehold 66 = .ok (.aload_n 0, 1) := by decide +kernel
theorem dX4_askOfHousehold_67 : decode cX4_askOfHousehold 67 = .ok (.bipush 15, 2) := by decide +kernel
theorem dX4_askOfHousehold_69 : decode cX4_askOfHousehold 69 = .ok (.iload_n 1, 1) := by decide +kernel
theorem dX4_askOfHousehold_70 : decode cX4_askOfHousehold 70 = .ok (.iconst (-1), 1) := by decide +kernel
theorem dX4_askOfHousehold_71 : decode cX4_askOfHousehold 71 = .ok (.invokevirtual 152, 3) := by decide +kernel
theorem dX4_askOfHousehold_74 : decode cX4_askOfHousehold 74 = .ok (.invokevirtual 219, 3) := by decide +kernel
theorem dX4_askOfHousehold_77 : decode cX4_askOfHousehold 77 = .ok (.aload_n 0, 1) := by decide +kernel
theorem dX4_askOfHousehold_78 : decode cX4_askOfHousehold 78 = .ok (.getfield 28, 3) := by decide +kernel
theorem dX4_askOfHousehold_81 : decode cX4_askOfHousehold 81 = .ok (.getfield 135, 3) := by decide +kernel
theorem dX4_askOfHousehold_84 : decode cX4_askOfHousehold 84 = .ok (.ifCond .eq 4, 3) := by decide +kernel
theorem dX4_askOfHousehold_87 : decode cX4_askOfHousehold 87 = .ok (.return_, 1) := by decide +kernel
theorem dX4_askOfHousehold_88 : decode cX4_askOfHousehold 88 = .ok (.aload_n 0, 1) := by decide +kernel
theorem dX4_askOfHousehold_89 : decode cX4_askOfHousehold 89 = .ok (.getfield 28, 3) := by decide +kernel
theorem dX4_askOfHousehold_92 : decode cX4_askOfHousehold 92 = .ok (.getfield 222, 3) := by decide +kernel
theorem dX4_askOfHousehold_95 : decode cX4_askOfHousehold 95 = .ok (.iconst (-1), 1) := by decide +kernel
theorem dX4_askOfHousehold_96 : decode cX4_askOfHousehold 96 = .ok (.if_icmp .eq 15, 3) := by decide +kernel
theorem dX4_askOfHousehold_99 : decode cX4_askOfHousehold 99 = .ok (.aload_n 0, 1) := by decide +kernel
theorem dX4_askOfHousehold_100 : decode cX4_askOfHousehold 100 = .ok (.getfield 68, 3) := by decide +kernel
theorem dX4_askOfHousehold_103 : decode cX4_askOfHousehold 103 = .ok (.iconst (-1), 1) := by decide +kernel
theorem dX4_askOfHousehold_104 : decode cX4_askOfHousehold 104 = .ok (.if_icmp .eq 7, 3) := by decide +kernel
theorem dX4_askOfHousehold_107 : decode cX4_askOfHousehold 107 = .ok (.iconst 1, 1) := by decide +kernel
theorem dX4_askOfHousehold_108 : decode cX4_askOfHousehold 108 = .ok (.goto 4, 3) := by decide +kernel
theorem dX4_askOfHousehold_111 : decode cX4_askOfHousehold 111 = .ok (.iconst 0, 1) := by decide +kernel
theorem dX4_askOfHousehold_112 : decode cX4_askOfHousehold 112 = .ok (.istore_n 3, 1) := by decide +kernel
theorem dX4_askOfHousehold_113 : decode cX4_askOfHousehold 113 = .ok (.iload_n 3, 1) := by decide +kernel
theorem dX4_askOfHousehold_114 : decode cX4_askOfHousehold 114 = .ok (.ifCond .eq 29, 3) := by decide +kernel
theorem dX4_askOfHousehold_117 : decode cX4_askOfHousehold 117 = .ok (.aload_n 0, 1) := by decide +kernel
theorem dX4_askOfHousehold_118 : decode cX4_askOfHousehold 118 = .ok (.getfield 28, 3) := by decide +kernel
theorem dX4_askOfHousehold_121 : decode cX4_askOfHousehold 121 = .ok (.getfield 222, 3) := by decide +kernel
theorem dX4_askOfHousehold_124 : decode cX4_askOfHousehold 124 = .ok (.aload_n 0, 1) := by decide +kernel
theorem dX4_askOfHousehold_125 : decode cX4_askOfHousehold 125 = .ok (.getfield 68, 3) := by decide +kernel
theorem dX4_askOfHousehold_128 : decode cX4_askOfHousehold 128 = .ok (.if_icmp .gt 15, 3) := by decide +kernel
theorem dX4_askOfHousehold_131 : decode cX4_askOfHousehold 131 = .ok (.aload_n 0, 1) := by decide +kernel
theorem dX4_askOfHousehold_132 : decode cX4_askOfHousehold 132 = .ok (.aload_n 0, 1) := by decide +kernel
theorem dX4_askOfHousehold_133 : decode cX4_askOfHousehold 133 = .ok (.bipush 16, 2) := by decide +kernel
theorem dX4_askOfHousehold_135 : decode cX4_askOfHousehold 135 = .ok (.iload_n 1, 1) := by decide +kernel
theorem dX4_askOfHousehold_136 : decode cX4_askOfHousehold 136 = .ok (.iconst (-1), 1) := by decide +kernel
theorem dX4_askOfHousehold_137 : decode cX4_askOfHousehold 137 = .ok (.invokevirtual 152, 3) := by decide +kernel
theorem dX4_askOfHousehold_140 : decode cX4_askOfHousehold 140 = .ok (.invokevirtual 219, 3) := by decide +kernel
theorem dX4_askOfHousehold_143 : decode cX4_askOfHousehold 143 = .ok (.return_, 1) := by decide +kernel
set_option maxRecDepth 20000 in
theorem ggX4_takeHousehold_X0_write : GoodIn wsX4_takeHousehold wsX0_write := goodIn_r _ [10, 11, 12, 13, 14, 15, 16, 9, 17, 18, 19, 20, 21, 22, 23, 24, 25, 26, 27, 60, 61, 62, 63, 64, 65, 66, 67, 68, 69, 47, 48, 49, 50, 51, 52, 53, 54, 55, 56, 57, 58, 59] (by decide +kernel) (by decide +kernel)
set_option maxRecDepth 20000 in
theorem gX4_takeHousehold_X0_write : GoodIn wsX4_takeHousehold (wsV RX4 249 RX0 yX0_write wsX0_write) := goodIn_app (goodIn_of _ (by decide +kernel)) ggX4_takeHousehold_X0_write
theorem dX4_takeHousehold_0 : decode cX4_takeHousehold 0 = .ok (.aload_n 0, 1) := by decide +kernel
theorem dX4_takeHousehold_1 : decode cX4_takeHousehold 1 = .ok (.getfield 48, 3) := by decide +kernel
theorem dX4_takeHousehold_4 : decode cX4_takeHousehold 4 = .ok (.aload_n 0, 1) := by decide +kernel
theorem dX4_takeHousehold_5 : decode cX4_takeHousehold 5 = .ok (.getfield 28, 3) := by decide +kernel
theorem dX4_takeHousehold_8 : decode cX4_takeHousehold 8 = .ok (.aload_n 0, 1) := by decide +kernel
theorem dX4_takeHousehold_9 : decode cX4_takeHousehold 9 = .ok (.getfield 56, 3) := by decide +kernel
theorem dX4_takeHousehold_12 : decode cX4_takeHousehold 12 = .ok (.aload_n 0, 1) := by decide +kernel
theorem dX4_takeHousehold_13 : decode cX4_takeHousehold 13 = .ok (.getfield 62, 3) := by decide +kernel
theorem dX4_takeHousehold_16 : decode cX4_takeHousehold 16 = .ok (.invokevirtual 249, 3) := by decide +kernel
theorem dX4_takeHousehold_19 : decode cX4_takeHousehold 19 = .ok (.aload_n 0, 1) := by decide +kernel
theorem dX4_takeHousehold_20 : decode cX4_takeHousehold 20 = .ok (.dup, 1) := by decide +kernel
theorem dX4_takeHousehold_21 : decode cX4_takeHousehold 21 = .ok (.getfield 56, 3) := by decide +kernel
theorem dX4_takeHousehold_24 : decode cX4_takeHousehold 24 = .ok (.iconst 1, 1) := by decide +kernel
theorem dX4_takeHousehold_25 : decode cX4_takeHousehold 25 = .ok (.iadd, 1) := by decide +kernel
theorem dX4_takeHousehold_26 : decode cX4_takeHousehold 26 = .ok (.putfield 56, 3) := by decide +kernel
theorem dX4_takeHousehold_29 : decode cX4_takeHousehold 29 = .ok (.aload_n 0, 1) := by decide +kernel
theorem dX4_takeHousehold_30 : decode cX4_takeHousehold 30 = .ok (.dup, 1) := by decide +kernel
theorem dX4_takeHousehold_31 : decode cX4_takeHousehold 31 = .ok (.getfield 62, 3) := by decide +kernel
theorem dX4_takeHousehold_34 : decode cX4_takeHousehold 34 = .ok (.aload_n 0, 1) := by decide +kernel
theorem dX4_takeHousehold_35 : decode cX4_takeHousehold 35 = .ok (.getfield 28, 3) := by decide +kernel
theorem dX4_takeHousehold_38 : decode cX4_takeHousehold 38 = .ok (.getfield 246, 3) := by decide +kernel
theorem dX4_takeHousehold_41 : decode cX4_takeHousehold 41 = .ok (.iadd, 1) := by decide +kernel
theorem dX4_takeHousehold_42 : decode cX4_takeHousehold 42 = .ok (.putfield 62, 3) := by decide +kernel
theorem dX4_takeHousehold_45 : decode cX4_takeHousehold 45 = .ok (.aload_n 0, 1) := by decide +kernel
theorem dX4_takeHousehold_46 : decode cX4_takeHousehold 46 = .ok (.getfield 28, 3) := by decide +kernel
theorem dX4_takeHousehold_49 : decode cX4_takeHousehold 49 = .ok (.getfield 222, 3) := by decide +kernel
theorem dX4_takeHousehold_52 : decode cX4_takeHousehold 52 = .ok (.iconst (-1), 1) := by decide +kernel
theorem dX4_takeHousehold_53 : decode cX4_takeHousehold 53 = .ok (.if_icmp .eq 14, 3) := by decide +kernel
theorem dX4_takeHousehold_56 : decode cX4_takeHousehold 56 = .ok (.aload_n 0, 1) := by decide +kernel
theorem dX4_takeHousehold_57 : decode cX4_takeHousehold 57 = .ok (.aload_n 0, 1) := by decide +kernel
theorem dX4_takeHousehold_58 : decode cX4_takeHousehold 58 = .ok (.getfield 28, 3) := by decide +kernel
theorem dX4_takeHousehold_61 : decode cX4_takeHousehold 61 = .ok (.getfield 222, 3) := by decide +kernel
theorem dX4_takeHousehold_64 : decode cX4_takeHousehold 64 = .ok (.putfield 68, 3) := by decide +kernel
theorem dX4_takeHousehold_67 : decode cX4_takeHousehold 67 = .ok (.return_, 1) := by decide +kernel
set_option maxRecDepth 20000 in
theorem ggX4_fail_X5_rowFor : GoodIn wsX4_fail wsX5_rowFor := goodIn_r _ [11, 12, 13, 73, 74] (by decide +kernel) (by decide +kernel)
set_option maxRecDepth 20000 in
theorem gX4_fail_X5_rowFor : GoodIn wsX4_fail (wsV RX4 255 RX5 yX5_rowFor wsX5_rowFor) := goodIn_app (goodIn_of _ (by decide +kernel)) ggX4_fail_X5_rowFor
set_option maxRecDepth 20000 in
theorem ggX4_fail_X5_wayAt : GoodIn wsX4_fail wsX5_wayAt := goodIn_r _ [17, 12, 73, 74] (by decide +kernel) (by decide +kernel)
set_option maxRecDepth 20000 in
theorem gX4_fail_X5_wayAt : GoodIn wsX4_fail (wsV RX4 260 RX5 yX5_wayAt wsX5_wayAt) := goodIn_app (goodIn_of _ (by decide +kernel)) ggX4_fail_X5_wayAt
set_option maxRecDepth 20000 in
theorem ggX4_fail_X5_numberAt : GoodIn wsX4_fail wsX5_numberAt := goodIn_r _ [21, 22, 73, 74] (by decide +kernel) (by decide +kernel)
set_option maxRecDepth 20000 in
theorem gX4_fail_X5_numberAt : GoodIn wsX4_fail (wsV RX4 263 RX5 yX5_numberAt wsX5_numberAt) := goodIn_app (goodIn_of _ (by decide +kernel)) ggX4_fail_X5_numberAt
set_option maxRecDepth 20000 in
theorem ggX4_fail_X1_add : GoodIn wsX4_fail wsX1_add := goodIn_r _ [27, 28, 29, 30, 31, 32, 33, 75, 76, 77, 78, 79] (by decide +kernel) (by decide +kernel)
set_option maxRecDepth 20000 in
theorem gX4_fail_X1_add : GoodIn wsX4_fail (wsV RX4 266 RX1 yX1_add wsX1_add) := goodIn_app (goodIn_of _ (by decide +kernel)) ggX4_fail_X1_add
set_option maxRecDepth 20000 in
theorem ggX4_fail_X4_stop : GoodIn wsX4_fail wsX4_stop := goodIn_r _ [38, 5, 39, 40, 41, 42, 43, 44, 45, 46, 47, 48, 49, 50, 51, 52, 53, 54, 55, 56, 57, 58, 59, 60, 61, 62, 63, 64, 65, 66, 67, 68, 69, 70, 71, 72] (by decide +kernel) (by decide +kernel)
set_option maxRecDepth 20000 in
theorem gX4_fail_X4_stop : GoodIn wsX4_fail (wsV RX4 269 RX4 yX4_stop wsX4_stop) := goodIn_app (goodIn_of _ (by decide +kernel)) ggX4_fail_X4_stop
theorem dX4_fail_0 : decode cX4_fail 0 = .ok (.aload_n 0, 1) := by decide +kernel
theorem dX4_fail_1 : decode cX4_fail 1 = .ok (.getfield 40, 3) := by decide +kernel
theorem dX4_fail_4 : decode cX4_fail 4 = .ok (.iload_n 1, 1) := by decide +kernel
theorem dX4_fail_5 : decode cX4_fail 5 = .ok (.invokevirtual 255, 3) := by decide +kernel
theorem dX4_fail_8 : decode cX4_fail 8 = .ok (.istore 4, 2) := by decide +kernel
theorem dX4_fail_10 : decode cX4_fail 10 = .ok (.aload_n 0, 1) := by decide +kernel
theorem dX4_fail_11 : decode cX4_fail 11 = .ok (.aload_n 0, 1) := by decide +kernel
theorem dX4_fail_12 : decode cX4_fail 12 = .ok (.getfield 40, 3) := by decide +kernel
theorem dX4_fail_15 : decode cX4_fail 15 = .ok (.iload 4, 2) := by decide +kernel
theorem dX4_fail_17 : decode cX4_fail 17 = .ok (.invokevirtual 260, 3) := by decide +kernel
theorem dX4_fail_20 : decode cX4_fail 20 = .ok (.putfield 182, 3) := by decide +kernel
theorem dX4_fail_23 : decode cX4_fail 23 = .ok (.aload_n 0, 1) := by decide +kernel
theorem dX4_fail_24 : decode cX4_fail 24 = .ok (.aload_n 0, 1) := by decide +kernel
theorem dX4_fail_25 : decode cX4_fail 25 = .ok (.getfield 40, 3) := by decide +kernel
theorem dX4_fail_28 : decode cX4_fail 28 = .ok (.iload 4, 2) := by decide +kernel
theorem dX4_fail_30 : decode cX4_fail 30 = .ok (.invokevirtual 263, 3) := by decide +kernel
theorem dX4_fail_33 : decode cX4_fail 33 = .ok (.putfield 185, 3) := by decide +kernel
theorem dX4_fail_36 : decode cX4_fail 36 = .ok (.aload_n 0, 1) := by decide +kernel
theorem dX4_fail_37 : decode cX4_fail 37 = .ok (.getfield 44, 3) := by decide +kernel
theorem dX4_fail_40 : decode cX4_fail 40 = .ok (.iload_n 1, 1) := by decide +kernel
theorem dX4_fail_41 : decode cX4_fail 41 = .ok (.iload_n 2, 1) := by decide +kernel
theorem dX4_fail_42 : decode cX4_fail 42 = .ok (.iload_n 3, 1) := by decide +kernel
theorem dX4_fail_43 : decode cX4_fail 43 = .ok (.aload_n 0, 1) := by decide +kernel
theorem dX4_fail_44 : decode cX4_fail 44 = .ok (.getfield 182, 3) := by decide +kernel
theorem dX4_fail_47 : decode cX4_fail 47 = .ok (.aload_n 0, 1) := by decide +kernel
theorem dX4_fail_48 : decode cX4_fail 48 = .ok (.getfield 28, 3) := by decide +kernel
theorem dX4_fail_51 : decode cX4_fail 51 = .ok (.getfield 81, 3) := by decide +kernel
theorem dX4_fail_54 : decode cX4_fail 54 = .ok (.invokevirtual 266, 3) := by decide +kernel
theorem dX4_fail_57 : decode cX4_fail 57 = .ok (.istore 5, 2) := by decide +kernel
theorem dX4_fail_59 : decode cX4_fail 59 = .ok (.aload_n 0, 1) := by decide +kernel
theorem dX4_fail_60 : decode cX4_fail 60 = .ok (.getfield 182, 3) := by decide +kernel
theorem dX4_fail_63 : decode cX4_fail 63 = .ok (.iconst 4, 1) := by decide +kernel
theorem dX4_fail_64 : decode cX4_fail 64 = .ok (.if_icmp .ne 8, 3) := by decide +kernel
theorem dX4_fail_67 : decode cX4_fail 67 = .ok (.aload_n 0, 1) := by decide +kernel
theorem dX4_fail_68 : decode cX4_fail 68 = .ok (.iload_n 1, 1) := by decide +kernel
theorem dX4_fail_69 : decode cX4_fail 69 = .ok (.invokevirtual 269, 3) := by decide +kernel
theorem dX4_fail_72 : decode cX4_fail 72 = .ok (.iload_n 1, 1) := by decide +kernel
theorem dX4_fail_73 : decode cX4_fail 73 = .ok (.bipush 19, 2) := by decide +kernel
theorem dX4_fail_75 : decode cX4_fail 75 = .ok (.if_icmp .lt 23, 3) := by decide +kernel
theorem dX4_fail_78 : decode cX4_fail 78 = .ok (.aload_n 0, 1) := by decide +kernel
theorem dX4_fail_79 : decode cX4_fail 79 = .ok (.getfield 182, 3) := by decide +kernel
theorem dX4_fail_82 : decode cX4_fail 82 = .ok (.ifCond .eq 11, 3) := by decide +kernel
theorem dX4_fail_85 : decode cX4_fail 85 = .ok (.aload_n 0, 1) := by decide +kernel
theorem dX4_fail_86 : decode cX4_fail 86 = .ok (.getfield 182, 3) := by decide +kernel
theorem dX4_fail_89 : decode cX4_fail 89 = .ok (.iconst 3, 1) := by decide +kernel
theorem dX4_fail_90 : decode cX4_fail 90 = .ok (.if_icmp .ne 8, 3) := by decide +kernel
theorem dX4_fail_93 : decode cX4_fail 93 = .ok (.aload_n 0, 1) := by decide +kernel
theorem dX4_fail_94 : decode cX4_fail 94 = .ok (.iconst 1, 1) := by decide +kernel
theorem dX4_fail_95 : decode cX4_fail 95 = .ok (.putfield 71, 3) := by decide +kernel
theorem dX4_fail_98 : decode cX4_fail 98 = .ok (.aload_n 0, 1) := by decide +kernel
theorem dX4_fail_99 : decode cX4_fail 99 = .ok (.getfield 182, 3) := by decide +kernel
theorem dX4_fail_102 : decode cX4_fail 102 = .ok (.iconst 1, 1) := by decide +kernel
theorem dX4_fail_103 : decode cX4_fail 103 = .ok (.if_icmp .eq 11, 3) := by decide +kernel
theorem dX4_fail_106 : decode cX4_fail 106 = .ok (.aload_n 0, 1) := by decide +kernel
theorem dX4_fail_107 : decode cX4_fail 107 = .ok (.getfield 182, 3) := by decide +kernel
theorem dX4_fail_110 : decode cX4_fail 110 = .ok (.iconst 2, 1) := by decide +kernel
theorem dX4_fail_111 : decode cX4_fail 111 = .ok (.if_icmp .ne 5, 3) := by decide +kernel
theorem dX4_fail_114 : decode cX4_fail 114 = .ok (.iconst (-1), 1) := by decide +kernel
theorem dX4_fail_115 : decode cX4_fail 115 = .ok (.ireturn, 1) := by decide +kernel
theorem dX4_fail_116 : decode cX4_fail 116 = .ok (.aload_n 0, 1) := by decide +kernel
theorem dX4_fail_117 : decode cX4_fail 117 = .ok (.getfield 182, 3) := by decide +kernel
theorem dX4_fail_120 : decode cX4_fail 120 = .ok (.ifCond .ne 8, 3) := by decide +kernel
theorem dX4_fail_123 : decode cX4_fail 123 = .ok (.iload 5, 2) := by decide +kernel
theorem dX4_fail_125 : decode cX4_fail 125 = .ok (.goto 5, 3) := by decide +kernel
theorem dX4_fail_128 : decode cX4_fail 128 = .ok (.bipush (-2), 2) := by decide +kernel
theorem dX4_fail_130 : decode cX4_fail 130 = .ok (.ireturn, 1) := by decide +kernel
theorem dX4_stop_0 : decode cX4_stop 0 = .ok (.aload_n 0, 1) := by decide +kernel
theorem dX4_stop_1 : decode cX4_stop 1 = .ok (.getfield 28, 3) := by decide +kernel
theorem dX4_stop_4 : decode cX4_stop 4 = .ok (.getfield 81, 3) := by decide +kernel
theorem dX4_stop_7 : decode cX4_stop 7 = .ok (.ifCond .eq 9, 3) := by decide +kernel
theorem dX4_stop_10 : decode cX4_stop 10 = .ok (.iload_n 1, 1) := by decide +kernel
theorem dX4_stop_11 : decode cX4_stop 11 = .ok (.bipush 19, 2) := by decide +kernel
theorem dX4_stop_13 : decode cX4_stop 13 = .ok (.if_icmp .lt 11, 3) := by decide +kernel
theorem dX4_stop_16 : decode cX4_stop 16 = .ok (.aload_n 0, 1) := by decide +kernel
theorem dX4_stop_17 : decode cX4_stop 17 = .ok (.iconst 1, 1) := by decide +kernel
theorem dX4_stop_18 : decode cX4_stop 18 = .ok (.putfield 75, 3) := by decide +kernel
theorem dX4_stop_21 : decode cX4_stop 21 = .ok (.goto 8, 3) := by decide +kernel
theorem dX4_stop_24 : decode cX4_stop 24 = .ok (.aload_n 0, 1) := by decide +kernel
theorem dX4_stop_25 : decode cX4_stop 25 = .ok (.iconst 1, 1) := by decide +kernel
theorem dX4_stop_26 : decode cX4_stop 26 = .ok (.putfield 78, 3) := by decide +kernel
theorem dX4_stop_29 : decode cX4_stop 29 = .ok (.return_, 1) := by decide +kernel
set_option maxRecDepth 20000 in
theorem ggX5_init_J7_fill_53178 : GoodIn wsX5_init wsJ7_fill_53178 := goodIn_r _ [10] (by decide +kernel) (by decide +kernel)
set_option maxRecDepth 20000 in
theorem gX5_init_J7_fill_53178 : GoodIn wsX5_init (va_wsS RX5 18 yJ7_fill_53178 wsJ7_fill_53178) := goodIn_app (goodIn_of _ (by decide +kernel)) ggX5_init_J7_fill_53178
theorem dX5_init_0 : decode cX5_init 0 = .ok (.aload_n 0, 1) := by decide +kernel
theorem dX5_init_1 : decode cX5_init 1 = .ok (.invokespecial 3, 3) := by decide +kernel
theorem dX5_init_4 : decode cX5_init 4 = .ok (.aload_n 0, 1) := by decide +kernel
theorem dX5_init_5 : decode cX5_init 5 = .ok (.bipush 30, 2) := by decide +kernel
theorem dX5_init_7 : decode cX5_init 7 = .ok (.newarray .int, 2) := by decide +kernel
theorem dX5_init_9 : decode cX5_init 9 = .ok (.putfield 9, 3) := by decide +kernel
theorem dX5_init_12 : decode cX5_init 12 = .ok (.aload_n 0, 1) := by decide +kernel
theorem dX5_init_13 : decode cX5_init 13 = .ok (.bipush 30, 2) := by decide +kernel
theorem dX5_init_15 : decode cX5_init 15 = .ok (.newarray .int, 2) := by decide +kernel
theorem dX5_init_17 : decode cX5_init 17 = .ok (.putfield 15, 3) := by decide +kernel
theorem dX5_init_20 : decode cX5_init 20 = .ok (.aload_n 0, 1) := by decide +kernel
theorem dX5_init_21 : decode cX5_init 21 = .ok (.getfield 9, 3) := by decide +kernel
theorem dX5_init_24 : decode cX5_init 24 = .ok (.iconst (-1), 1) := by decide +kernel
theorem dX5_init_25 : decode cX5_init 25 = .ok (.invokestatic 18, 3) := by decide +kernel
theorem dX5_init_28 : decode cX5_init 28 = .ok (.aload_n 0, 1) := by decide +kernel
theorem dX5_init_29 : decode cX5_init 29 = .ok (.getfield 9, 3) := by decide +kernel
theorem dX5_init_32 : decode cX5_init 32 = .ok (.iconst 0, 1) := by decide +kernel
theorem dX5_init_33 : decode cX5_init 33 = .ok (.iconst 0, 1) := by decide +kernel
theorem dX5_init_34 : decode cX5_init 34 = .ok (.iastore, 1) := by decide +kernel
theorem dX5_init_35 : decode cX5_init 35 = .ok (.return_, 1) := by decide +kernel
theorem dX5_change_0 : decode cX5_change 0 = .ok (.iload_n 1, 1) := by decide +kernel
theorem dX5_change_1 : decode cX5_change 1 = .ok (.iconst 1, 1) := by decide +kernel
theorem dX5_change_2 : decode cX5_change 2 = .ok (.if_icmp .lt 9, 3) := by decide +kernel
theorem dX5_change_5 : decode cX5_change 5 = .ok (.iload_n 1, 1) := by decide +kernel
theorem dX5_change_6 : decode cX5_change 6 = .ok (.bipush 29, 2) := by decide +kernel
theorem dX5_change_8 : decode cX5_change 8 = .ok (.if_icmp .le 6, 3) := by decide +kernel
theorem dX5_change_11 : decode cX5_change 11 = .ok (.bipush (-3), 2) := by decide +kernel
theorem dX5_change_13 : decode cX5_change 13 = .ok (.ireturn, 1) := by decide +kernel
theorem dX5_change_14 : decode cX5_change 14 = .ok (.aload_n 0, 1) := by decide +kernel
theorem dX5_change_15 : decode cX5_change 15 = .ok (.getfield 9, 3) := by decide +kernel
theorem dX5_change_18 : decode cX5_change 18 = .ok (.iload_n 1, 1) := by decide +kernel
theorem dX5_change_19 : decode cX5_change 19 = .ok (.iaload, 1) := by decide +kernel
theorem dX5_change_20 : decode cX5_change 20 = .ok (.istore 4, 2) := by decide +kernel
theorem dX5_change_22 : decode cX5_change 22 = .ok (.aload_n 0, 1) := by decide +kernel
theorem dX5_change_23 : decode cX5_change 23 = .ok (.getfield 9, 3) := by decide +kernel
theorem dX5_change_26 : decode cX5_change 26 = .ok (.iload_n 1, 1) := by decide +kernel
theorem dX5_change_27 : decode cX5_change 27 = .ok (.iload_n 2, 1) := by decide +kernel
theorem dX5_change_28 : decode cX5_change 28 = .ok (.iastore, 1) := by decide +kernel
theorem dX5_change_29 : decode cX5_change 29 = .ok (.aload_n 0, 1) := by decide +kernel
theorem dX5_change_30 : decode cX5_change 30 = .ok (.getfield 15, 3) := by decide +kernel
theorem dX5_change_33 : decode cX5_change 33 = .ok (.iload_n 1, 1) := by decide +kernel
theorem dX5_change_34 : decode cX5_change 34 = .ok (.iload_n 3, 1) := by decide +kernel
theorem dX5_change_35 : decode cX5_change 35 = .ok (.iastore, 1) := by decide +kernel
theorem dX5_change_36 : decode cX5_change 36 = .ok (.iload 4, 2) := by decide +kernel
theorem dX5_change_38 : decode cX5_change 38 = .ok (.ireturn, 1) := by decide +kernel
theorem dX5_rowFor_0 : decode cX5_rowFor 0 = .ok (.iload_n 1, 1) := by decide +kernel
theorem dX5_rowFor_1 : decode cX5_rowFor 1 = .ok (.istore_n 2, 1) := by decide +kernel
theorem dX5_rowFor_2 : decode cX5_rowFor 2 = .ok (.iconst 0, 1) := by decide +kernel
theorem dX5_rowFor_3 : decode cX5_rowFor 3 = .ok (.istore_n 3, 1) := by decide +kernel
theorem dX5_rowFor_4 : decode cX5_rowFor 4 = .ok (.iload_n 3, 1) := by decide +kernel
theorem dX5_rowFor_5 : decode cX5_rowFor 5 = .ok (.iconst 5, 1) := by decide +kernel
theorem dX5_rowFor_6 : decode cX5_rowFor 6 = .ok (.if_icmp .ge 39, 3) := by decide +kernel
theorem dX5_rowFor_9 : decode cX5_rowFor 9 = .ok (.iload_n 2, 1) := by decide +kernel
theorem dX5_rowFor_10 : decode cX5_rowFor 10 = .ok (.iconst 1, 1) := by decide +kernel
theorem dX5_rowFor_11 : decode cX5_rowFor 11 = .ok (.if_icmp .lt 9, 3) := by decide +kernel
theorem dX5_rowFor_14 : decode cX5_rowFor 14 = .ok (.iload_n 2, 1) := by decide +kernel
theorem dX5_rowFor_15 : decode cX5_rowFor 15 = .ok (.bipush 29, 2) := by decide +kernel
theorem dX5_rowFor_17 : decode cX5_rowFor 17 = .ok (.if_icmp .le 5, 3) := by decide +kernel
theorem dX5_rowFor_20 : decode cX5_rowFor 20 = .ok (.iconst 0, 1) := by decide +kernel
theorem dX5_rowFor_21 : decode cX5_rowFor 21 = .ok (.ireturn, 1) := by decide +kernel
theorem dX5_rowFor_22 : decode cX5_rowFor 22 = .ok (.aload_n 0, 1) := by decide +kernel
theorem dX5_rowFor_23 : decode cX5_rowFor 23 = .ok (.getfield 9, 3) := by decide +kernel
theorem dX5_rowFor_26 : decode cX5_rowFor 26 = .ok (.iload_n 2, 1) := by decide +kernel
theorem dX5_rowFor_27 : decode cX5_rowFor 27 = .ok (.iaload, 1) := by decide +kernel
theorem dX5_rowFor_28 : decode cX5_rowFor 28 = .ok (.ifCond .lt 5, 3) := by decide +kernel
theorem dX5_rowFor_31 : decode cX5_rowFor 31 = .ok (.iload_n 2, 1) := by decide +kernel
theorem dX5_rowFor_32 : decode cX5_rowFor 32 = .ok (.ireturn, 1) := by decide +kernel
theorem dX5_rowFor_33 : decode cX5_rowFor 33 = .ok (.getstatic 24, 3) := by decide +kernel
theorem dX5_rowFor_36 : decode cX5_rowFor 36 = .ok (.iload_n 2, 1) := by decide +kernel
theorem dX5_rowFor_37 : decode cX5_rowFor 37 = .ok (.iaload, 1) := by decide +kernel
theorem dX5_rowFor_38 : decode cX5_rowFor 38 = .ok (.istore_n 2, 1) := by decide +kernel
theorem dX5_rowFor_39 : decode cX5_rowFor 39 = .ok (.iinc 3 1, 3) := by decide +kernel
theorem dX5_rowFor_42 : decode cX5_rowFor 42 = .ok (.goto (-38), 3) := by decide +kernel
theorem dX5_rowFor_45 : decode cX5_rowFor 45 = .ok (.iconst 0, 1) := by decide +kernel
theorem dX5_rowFor_46 : decode cX5_rowFor 46 = .ok (.ireturn, 1) := by decide +kernel
theorem dX5_wayAt_0 : decode cX5_wayAt 0 = .ok (.iload_n 1, 1) := by decide +kernel
theorem dX5_wayAt_1 : decode cX5_wayAt 1 = .ok (.ifCond .lt 18, 3) := by decide +kernel
theorem dX5_wayAt_4 : decode cX5_wayAt 4 = .ok (.iload_n 1, 1) := by decide +kernel
theorem dX5_wayAt_5 : decode cX5_wayAt 5 = .ok (.bipush 29, 2) := by decide +kernel
theorem dX5_wayAt_7 : decode cX5_wayAt 7 = .ok (.if_icmp .gt 12, 3) := by decide +kernel
theorem dX5_wayAt_10 : decode cX5_wayAt 10 = .ok (.aload_n 0, 1) := by decide +kernel
theorem dX5_wayAt_11 : decode cX5_wayAt 11 = .ok (.getfield 9, 3) := by decide +kernel
theorem dX5_wayAt_14 : decode cX5_wayAt 14 = .ok (.iload_n 1, 1) := by decide +kernel
theorem dX5_wayAt_15 : decode cX5_wayAt 15 = .ok (.iaload, 1) := by decide +kernel
theorem dX5_wayAt_16 : decode cX5_wayAt 16 = .ok (.goto 4, 3) := by decide +kernel
theorem dX5_wayAt_19 : decode cX5_wayAt 19 = .ok (.iconst 0, 1) := by decide +kernel
theorem dX5_wayAt_20 : decode cX5_wayAt 20 = .ok (.ireturn, 1) := by decide +kernel
theorem dX5_numberAt_0 : decode cX5_numberAt 0 = .ok (.iload_n 1, 1) := by decide +kernel
theorem dX5_numberAt_1 : decode cX5_numberAt 1 = .ok (.ifCond .lt 18, 3) := by decide +kernel
theorem dX5_numberAt_4 : decode cX5_numberAt 4 = .ok (.iload_n 1, 1) := by decide +kernel
theorem dX5_numberAt_5 : decode cX5_numberAt 5 = .ok (.bipush 29, 2) := by decide +kernel
theorem dX5_numberAt_7 : decode cX5_numberAt 7 = .ok (.if_icmp .gt 12, 3) := by decide +kernel
theorem dX5_numberAt_10 : decode cX5_numberAt 10 = .ok (.aload_n 0, 1) := by decide +kernel
theorem dX5_numberAt_11 : decode cX5_numberAt 11 = .ok (.getfield 15, 3) := by decide +kernel
theorem dX5_numberAt_14 : decode cX5_numberAt 14 = .ok (.iload_n 1, 1) := by decide +kernel
theorem dX5_numberAt_15 : decode cX5_numberAt 15 = .ok (.iaload, 1) := by decide +kernel
theorem dX5_numberAt_16 : decode cX5_numberAt 16 = .ok (.goto 4, 3) := by decide +kernel
theorem dX5_numberAt_19 : decode cX5_numberAt 19 = .ok (.iconst 0, 1) := by decide +kernel
theorem dX5_numberAt_20 : decode cX5_numberAt 20 = .ok (.ireturn, 1) := by decide +kernel
theorem dX5_isWithin_0 : decode cX5_isWithin 0 = .ok (.iload_n 1, 1) := by decide +kernel
theorem dX5_isWithin_1 : decode cX5_isWithin 1 = .ok (.istore_n 3, 1) := by decide +kernel
theorem dX5_isWithin_2 : decode cX5_isWithin 2 = .ok (.iconst 0, 1) := by decide +kernel
theorem dX5_isWithin_3 : decode cX5_isWithin 3 = .ok (.istore 4, 2) := by decide +kernel
theorem dX5_isWithin_5 : decode cX5_isWithin 5 = .ok (.iload 4, 2) := by decide +kernel
theorem dX5_isWithin_7 : decode cX5_isWithin 7 = .ok (.iconst 5, 1) := by decide +kernel
theorem dX5_isWithin_8 : decode cX5_isWithin 8 = .ok (.if_icmp .ge 35, 3) := by decide +kernel
theorem dX5_isWithin_11 : decode cX5_isWithin 11 = .ok (.iload_n 3, 1) := by decide +kernel
theorem dX5_isWithin_12 : decode cX5_isWithin 12 = .ok (.iload_n 2, 1) := by decide +kernel
theorem dX5_isWithin_13 : decode cX5_isWithin 13 = .ok (.if_icmp .ne 5, 3) := by decide +kernel
theorem dX5_isWithin_16 : decode cX5_isWithin 16 = .ok (.iconst 1, 1) := by decide +kernel
theorem dX5_isWithin_17 : decode cX5_isWithin 17 = .ok (.ireturn, 1) := by decide +kernel
theorem dX5_isWithin_18 : decode cX5_isWithin 18 = .ok (.iload_n 3, 1) := by decide +kernel
theorem dX5_isWithin_19 : decode cX5_isWithin 19 = .ok (.iconst 1, 1) := by decide +kernel
theorem dX5_isWithin_20 : decode cX5_isWithin 20 = .ok (.if_icmp .lt 9, 3) := by decide +kernel
theorem dX5_isWithin_23 : decode cX5_isWithin 23 = .ok (.iload_n 3, 1) := by decide +kernel
theorem dX5_isWithin_24 : decode cX5_isWithin 24 = .ok (.bipush 29, 2) := by decide +kernel
theorem dX5_isWithin_26 : decode cX5_isWithin 26 = .ok (.if_icmp .le 5, 3) := by decide +kernel
theorem dX5_isWithin_29 : decode cX5_isWithin 29 = .ok (.iconst 0, 1) := by decide +kernel
theorem dX5_isWithin_30 : decode cX5_isWithin 30 = .ok (.ireturn, 1) := by decide +kernel
theorem dX5_isWithin_31 : decode cX5_isWithin 31 = .ok (.getstatic 24, 3) := by decide +kernel
theorem dX5_isWithin_34 : decode cX5_isWithin 34 = .ok (.iload_n 3, 1) := by decide +kernel
theorem dX5_isWithin_35 : decode cX5_isWithin 35 = .ok (.iaload, 1) := by decide +kernel
theorem dX5_isWithin_36 : decode cX5_isWithin 36 = .ok (.istore_n 3, 1) := by decide +kernel
theorem dX5_isWithin_37 : decode cX5_isWithin 37 = .ok (.iinc 4 1, 3) := by decide +kernel
theorem dX5_isWithin_40 : decode cX5_isWithin 40 = .ok (.goto (-35), 3) := by decide +kernel
theorem dX5_isWithin_43 : decode cX5_isWithin 43 = .ok (.iconst 0, 1) := by decide +kernel
theorem dX5_isWithin_44 : decode cX5_isWithin 44 = .ok (.ireturn, 1) := by decide +kernel
theorem dX6_init_0 : decode cX6_init 0 = .ok (.aload_n 0, 1) := by decide +kernel
theorem dX6_init_1 : decode cX6_init 1 = .ok (.invokespecial 3, 3) := by decide +kernel
theorem dX6_init_4 : decode cX6_init 4 = .ok (.aload_n 0, 1) := by decide +kernel
theorem dX6_init_5 : decode cX6_init 5 = .ok (.bipush 31, 2) := by decide +kernel
theorem dX6_init_7 : decode cX6_init 7 = .ok (.newarray .int, 2) := by decide +kernel
theorem dX6_init_9 : decode cX6_init 9 = .ok (.putfield 11, 3) := by decide +kernel
theorem dX6_init_12 : decode cX6_init 12 = .ok (.aload_n 0, 1) := by decide +kernel
theorem dX6_init_13 : decode cX6_init 13 = .ok (.bipush 31, 2) := by decide +kernel
theorem dX6_init_15 : decode cX6_init 15 = .ok (.newarray .int, 2) := by decide +kernel
theorem dX6_init_17 : decode cX6_init 17 = .ok (.putfield 15, 3) := by decide +kernel
theorem dX6_init_20 : decode cX6_init 20 = .ok (.return_, 1) := by decide +kernel
theorem dX6_clear_0 : decode cX6_clear 0 = .ok (.aload_n 0, 1) := by decide +kernel
theorem dX6_clear_1 : decode cX6_clear 1 = .ok (.iconst 0, 1) := by decide +kernel
theorem dX6_clear_2 : decode cX6_clear 2 = .ok (.putfield 18, 3) := by decide +kernel
theorem dX6_clear_5 : decode cX6_clear 5 = .ok (.return_, 1) := by decide +kernel
theorem dX6_add_0 : decode cX6_add 0 = .ok (.aload_n 0, 1) := by decide +kernel
theorem dX6_add_1 : decode cX6_add 1 = .ok (.getfield 18, 3) := by decide +kernel
theorem dX6_add_4 : decode cX6_add 4 = .ok (.bipush 31, 2) := by decide +kernel
theorem dX6_add_6 : decode cX6_add 6 = .ok (.if_icmp .ge 33, 3) := by decide +kernel
theorem dX6_add_9 : decode cX6_add 9 = .ok (.aload_n 0, 1) := by decide +kernel
theorem dX6_add_10 : decode cX6_add 10 = .ok (.getfield 11, 3) := by decide +kernel
theorem dX6_add_13 : decode cX6_add 13 = .ok (.aload_n 0, 1) := by decide +kernel
theorem dX6_add_14 : decode cX6_add 14 = .ok (.getfield 18, 3) := by decide +kernel
theorem dX6_add_17 : decode cX6_add 17 = .ok (.iload_n 1, 1) := by decide +kernel
theorem dX6_add_18 : decode cX6_add 18 = .ok (.iastore, 1) := by decide +kernel
theorem dX6_add_19 : decode cX6_add 19 = .ok (.aload_n 0, 1) := by decide +kernel
theorem dX6_add_20 : decode cX6_add 20 = .ok (.getfield 15, 3) := by decide +kernel
theorem dX6_add_23 : decode cX6_add 23 = .ok (.aload_n 0, 1) := by decide +kernel
theorem dX6_add_24 : decode cX6_add 24 = .ok (.getfield 18, 3) := by decide +kernel
theorem dX6_add_27 : decode cX6_add 27 = .ok (.iload_n 2, 1) := by decide +kernel
theorem dX6_add_28 : decode cX6_add 28 = .ok (.iastore, 1) := by decide +kernel
theorem dX6_add_29 : decode cX6_add 29 = .ok (.aload_n 0, 1) := by decide +kernel
theorem dX6_add_30 : decode cX6_add 30 = .ok (.dup, 1) := by decide +kernel
theorem dX6_add_31 : decode cX6_add 31 = .ok (.getfield 18, 3) := by decide +kernel
theorem dX6_add_34 : decode cX6_add 34 = .ok (.iconst 1, 1) := by decide +kernel
theorem dX6_add_35 : decode cX6_add 35 = .ok (.iadd, 1) := by decide +kernel
theorem dX6_add_36 : decode cX6_add 36 = .ok (.putfield 18, 3) := by decide +kernel
theorem dX6_add_39 : decode cX6_add 39 = .ok (.return_, 1) := by decide +kernel
theorem dX6_at_0 : decode cX6_at 0 = .ok (.iload_n 1, 1) := by decide +kernel
theorem dX6_at_1 : decode cX6_at 1 = .ok (.ifCond .lt 26, 3) := by decide +kernel
theorem dX6_at_4 : decode cX6_at 4 = .ok (.iload_n 1, 1) := by decide +kernel
theorem dX6_at_5 : decode cX6_at 5 = .ok (.aload_n 0, 1) := by decide +kernel
theorem dX6_at_6 : decode cX6_at 6 = .ok (.getfield 18, 3) := by decide +kernel
theorem dX6_at_9 : decode cX6_at 9 = .ok (.if_icmp .ge 18, 3) := by decide +kernel
theorem dX6_at_12 : decode cX6_at 12 = .ok (.iload_n 1, 1) := by decide +kernel
theorem dX6_at_13 : decode cX6_at 13 = .ok (.bipush 31, 2) := by decide +kernel
theorem dX6_at_15 : decode cX6_at 15 = .ok (.if_icmp .ge 12, 3) := by decide +kernel
theorem dX6_at_18 : decode cX6_at 18 = .ok (.aload_n 0, 1) := by decide +kernel
theorem dX6_at_19 : decode cX6_at 19 = .ok (.getfield 11, 3) := by decide +kernel
theorem dX6_at_22 : decode cX6_at 22 = .ok (.iload_n 1, 1) := by decide +kernel
theorem dX6_at_23 : decode cX6_at 23 = .ok (.iaload, 1) := by decide +kernel
theorem dX6_at_24 : decode cX6_at 24 = .ok (.goto 4, 3) := by decide +kernel
theorem dX6_at_27 : decode cX6_at 27 = .ok (.iconst (-1), 1) := by decide +kernel
theorem dX6_at_28 : decode cX6_at 28 = .ok (.ireturn, 1) := by decide +kernel
theorem dX6_placeOf_0 : decode cX6_placeOf 0 = .ok (.iload_n 1, 1) := by decide +kernel
theorem dX6_placeOf_1 : decode cX6_placeOf 1 = .ok (.ifCond .lt 26, 3) := by decide +kernel
theorem dX6_placeOf_4 : decode cX6_placeOf 4 = .ok (.iload_n 1, 1) := by decide +kernel
theorem dX6_placeOf_5 : decode cX6_placeOf 5 = .ok (.aload_n 0, 1) := by decide +kernel
theorem dX6_placeOf_6 : decode cX6_placeOf 6 = .ok (.getfield 18, 3) := by decide +kernel
theorem dX6_placeOf_9 : decode cX6_placeOf 9 = .ok (.if_icmp .ge 18, 3) := by decide +kernel
theorem dX6_placeOf_12 : decode cX6_placeOf 12 = .ok (.iload_n 1, 1) := by decide +kernel
theorem dX6_placeOf_13 : decode cX6_placeOf 13 = .ok (.bipush 31, 2) := by decide +kernel
theorem dX6_placeOf_15 : decode cX6_placeOf 15 = .ok (.if_icmp .ge 12, 3) := by decide +kernel
theorem dX6_placeOf_18 : decode cX6_placeOf 18 = .ok (.aload_n 0, 1) := by decide +kernel
theorem dX6_placeOf_19 : decode cX6_placeOf 19 = .ok (.getfield 15, 3) := by decide +kernel
theorem dX6_placeOf_22 : decode cX6_placeOf 22 = .ok (.iload_n 1, 1) := by decide +kernel
theorem dX6_placeOf_23 : decode cX6_placeOf 23 = .ok (.iaload, 1) := by decide +kernel
theorem dX6_placeOf_24 : decode cX6_placeOf 24 = .ok (.goto 4, 3) := by decide +kernel
theorem dX6_placeOf_27 : decode cX6_placeOf 27 = .ok (.iconst (-1), 1) := by decide +kernel
theorem dX6_placeOf_28 : decode cX6_placeOf 28 = .ok (.ireturn, 1) := by decide +kernel
set_option maxRecDepth 20000 in
theorem ggX6_faultAs_X6_firstBadOfName : GoodIn wsX6_faultAs wsX6_firstBadOfName := goodIn_r _ [6, 1, 7, 8, 9, 5, 10, 11, 12, 13, 14, 26, 27, 28] (by decide +kernel) (by decide +kernel)
set_option maxRecDepth 20000 in
theorem gX6_faultAs_X6_firstBadOfName : GoodIn wsX6_faultAs (wsV RX6 22 RX6 yX6_firstBadOfName wsX6_firstBadOfName) := goodIn_app (goodIn_of _ (by decide +kernel)) ggX6_faultAs_X6_firstBadOfName
set_option maxRecDepth 20000 in
theorem ggX6_faultAs_X6_at : GoodIn wsX6_faultAs wsX6_at := goodIn_r _ [10, 1, 11, 26, 27, 28] (by decide +kernel) (by decide +kernel)
set_option maxRecDepth 20000 in
theorem gX6_faultAs_X6_at : GoodIn wsX6_faultAs (wsV RX6 26 RX6 yX6_at wsX6_at) := goodIn_app (goodIn_of _ (by decide +kernel)) ggX6_faultAs_X6_at
set_option maxRecDepth 20000 in
theorem ggX6_faultAs_X6_digits : GoodIn wsX6_faultAs wsX6_digits := goodIn_r _ [18, 1, 7, 8, 9, 5, 10, 11, 26, 27, 28] (by decide +kernel) (by decide +kernel)
set_option maxRecDepth 20000 in
theorem gX6_faultAs_X6_digits : GoodIn wsX6_faultAs (wsV RX6 30 RX6 yX6_digits wsX6_digits) := goodIn_app (goodIn_of _ (by decide +kernel)) ggX6_faultAs_X6_digits
set_option maxRecDepth 20000 in
theorem ggX6_faultAs_X6_number : GoodIn wsX6_faultAs wsX6_number := goodIn_r _ [22, 1, 7, 8, 9, 5, 10, 11, 26, 27, 28] (by decide +kernel) (by decide +kernel)
set_option maxRecDepth 20000 in
theorem gX6_faultAs_X6_number : GoodIn wsX6_faultAs (wsV RX6 33 RX6 yX6_number wsX6_number) := goodIn_app (goodIn_of _ (by decide +kernel)) ggX6_faultAs_X6_number
set_option maxRecDepth 20000 in
theorem ggX6_faultAs_X6_mostOf : GoodIn wsX6_faultAs wsX6_mostOf := goodIn_r _ [25] (by decide +kernel) (by decide +kernel)
set_option maxRecDepth 20000 in
theorem gX6_faultAs_X6_mostOf : GoodIn wsX6_faultAs (va_wsS RX6 36 yX6_mostOf wsX6_mostOf) := goodIn_app (goodIn_of _ (by decide +kernel)) ggX6_faultAs_X6_mostOf
theorem dX6_faultAs_0 : decode cX6_faultAs 0 = .ok (.iload_n 1, 1) := by decide +kernel
theorem dX6_faultAs_1 : decode cX6_faultAs 1 = .ok (.tableswitch 114 1 3 #[27, 49, 84], 27) := by decide +kernel
theorem dX6_faultAs_28 : decode cX6_faultAs 28 = .ok (.aload_n 0, 1) := by decide +kernel
theorem dX6_faultAs_29 : decode cX6_faultAs 29 = .ok (.getfield 18, 3) := by decide +kernel
theorem dX6_faultAs_32 : decode cX6_faultAs 32 = .ok (.ifCond .ne 5, 3) := by decide +kernel
theorem dX6_faultAs_35 : decode cX6_faultAs 35 = .ok (.iconst 2, 1) := by decide +kernel
theorem dX6_faultAs_36 : decode cX6_faultAs 36 = .ok (.ireturn, 1) := by decide +kernel
theorem dX6_faultAs_37 : decode cX6_faultAs 37 = .ok (.aload_n 0, 1) := by decide +kernel
theorem dX6_faultAs_38 : decode cX6_faultAs 38 = .ok (.invokevirtual 22, 3) := by decide +kernel
theorem dX6_faultAs_41 : decode cX6_faultAs 41 = .ok (.ifCond .ge 7, 3) := by decide +kernel
theorem dX6_faultAs_44 : decode cX6_faultAs 44 = .ok (.iconst 0, 1) := by decide +kernel
theorem dX6_faultAs_45 : decode cX6_faultAs 45 = .ok (.goto 4, 3) := by decide +kernel
theorem dX6_faultAs_48 : decode cX6_faultAs 48 = .ok (.iconst 3, 1) := by decide +kernel
theorem dX6_faultAs_49 : decode cX6_faultAs 49 = .ok (.ireturn, 1) := by decide +kernel
theorem dX6_faultAs_50 : decode cX6_faultAs 50 = .ok (.aload_n 0, 1) := by decide +kernel
theorem dX6_faultAs_51 : decode cX6_faultAs 51 = .ok (.getfield 18, 3) := by decide +kernel
theorem dX6_faultAs_54 : decode cX6_faultAs 54 = .ok (.iconst 1, 1) := by decide +kernel
theorem dX6_faultAs_55 : decode cX6_faultAs 55 = .ok (.if_icmp .ne 27, 3) := by decide +kernel
theorem dX6_faultAs_58 : decode cX6_faultAs 58 = .ok (.aload_n 0, 1) := by decide +kernel
theorem dX6_faultAs_59 : decode cX6_faultAs 59 = .ok (.iconst 0, 1) := by decide +kernel
theorem dX6_faultAs_60 : decode cX6_faultAs 60 = .ok (.invokevirtual 26, 3) := by decide +kernel
theorem dX6_faultAs_63 : decode cX6_faultAs 63 = .ok (.bipush 109, 2) := by decide +kernel
theorem dX6_faultAs_65 : decode cX6_faultAs 65 = .ok (.if_icmp .eq 13, 3) := by decide +kernel
theorem dX6_faultAs_68 : decode cX6_faultAs 68 = .ok (.aload_n 0, 1) := by decide +kernel
theorem dX6_faultAs_69 : decode cX6_faultAs 69 = .ok (.iconst 0, 1) := by decide +kernel
theorem dX6_faultAs_70 : decode cX6_faultAs 70 = .ok (.invokevirtual 26, 3) := by decide +kernel
theorem dX6_faultAs_73 : decode cX6_faultAs 73 = .ok (.bipush 102, 2) := by decide +kernel
theorem dX6_faultAs_75 : decode cX6_faultAs 75 = .ok (.if_icmp .ne 7, 3) := by decide +kernel
theorem dX6_faultAs_78 : decode cX6_faultAs 78 = .ok (.iconst 0, 1) := by decide +kernel
theorem dX6_faultAs_79 : decode cX6_faultAs 79 = .ok (.goto 5, 3) := by decide +kernel
theorem dX6_faultAs_82 : decode cX6_faultAs 82 = .ok (.bipush 6, 2) := by decide +kernel
theorem dX6_faultAs_84 : decode cX6_faultAs 84 = .ok (.ireturn, 1) := by decide +kernel
theorem dX6_faultAs_85 : decode cX6_faultAs 85 = .ok (.aload_n 0, 1) := by decide +kernel
theorem dX6_faultAs_86 : decode cX6_faultAs 86 = .ok (.getfield 18, 3) := by decide +kernel
theorem dX6_faultAs_89 : decode cX6_faultAs 89 = .ok (.ifCond .eq 19, 3) := by decide +kernel
theorem dX6_faultAs_92 : decode cX6_faultAs 92 = .ok (.aload_n 0, 1) := by decide +kernel
theorem dX6_faultAs_93 : decode cX6_faultAs 93 = .ok (.getfield 18, 3) := by decide +kernel
theorem dX6_faultAs_96 : decode cX6_faultAs 96 = .ok (.iconst 1, 1) := by decide +kernel
theorem dX6_faultAs_97 : decode cX6_faultAs 97 = .ok (.if_icmp .ne 15, 3) := by decide +kernel
theorem dX6_faultAs_100 : decode cX6_faultAs 100 = .ok (.aload_n 0, 1) := by decide +kernel
theorem dX6_faultAs_101 : decode cX6_faultAs 101 = .ok (.invokevirtual 30, 3) := by decide +kernel
theorem dX6_faultAs_104 : decode cX6_faultAs 104 = .ok (.iconst 1, 1) := by decide +kernel
theorem dX6_faultAs_105 : decode cX6_faultAs 105 = .ok (.if_icmp .ne 7, 3) := by decide +kernel
theorem dX6_faultAs_108 : decode cX6_faultAs 108 = .ok (.iconst 0, 1) := by decide +kernel
theorem dX6_faultAs_109 : decode cX6_faultAs 109 = .ok (.goto 5, 3) := by decide +kernel
theorem dX6_faultAs_112 : decode cX6_faultAs 112 = .ok (.bipush 7, 2) := by decide +kernel
theorem dX6_faultAs_114 : decode cX6_faultAs 114 = .ok (.ireturn, 1) := by decide +kernel
theorem dX6_faultAs_115 : decode cX6_faultAs 115 = .ok (.aload_n 0, 1) := by decide +kernel
theorem dX6_faultAs_116 : decode cX6_faultAs 116 = .ok (.getfield 18, 3) := by decide +kernel
theorem dX6_faultAs_119 : decode cX6_faultAs 119 = .ok (.ifCond .eq 23, 3) := by decide +kernel
theorem dX6_faultAs_122 : decode cX6_faultAs 122 = .ok (.aload_n 0, 1) := by decide +kernel
theorem dX6_faultAs_123 : decode cX6_faultAs 123 = .ok (.getfield 18, 3) := by decide +kernel
theorem dX6_faultAs_126 : decode cX6_faultAs 126 = .ok (.bipush 6, 2) := by decide +kernel
theorem dX6_faultAs_128 : decode cX6_faultAs 128 = .ok (.if_icmp .gt 14, 3) := by decide +kernel
theorem dX6_faultAs_131 : decode cX6_faultAs 131 = .ok (.aload_n 0, 1) := by decide +kernel
theorem dX6_faultAs_132 : decode cX6_faultAs 132 = .ok (.invokevirtual 30, 3) := by decide +kernel
theorem dX6_faultAs_135 : decode cX6_faultAs 135 = .ok (.aload_n 0, 1) := by decide +kernel
theorem dX6_faultAs_136 : decode cX6_faultAs 136 = .ok (.getfield 18, 3) := by decide +kernel
theorem dX6_faultAs_139 : decode cX6_faultAs 139 = .ok (.if_icmp .ge 5, 3) := by decide +kernel
theorem dX6_faultAs_142 : decode cX6_faultAs 142 = .ok (.iconst 4, 1) := by decide +kernel
theorem dX6_faultAs_143 : decode cX6_faultAs 143 = .ok (.ireturn, 1) := by decide +kernel
theorem dX6_faultAs_144 : decode cX6_faultAs 144 = .ok (.aload_n 0, 1) := by decide +kernel
theorem dX6_faultAs_145 : decode cX6_faultAs 145 = .ok (.invokevirtual 33, 3) := by decide +kernel
theorem dX6_faultAs_148 : decode cX6_faultAs 148 = .ok (.iload_n 1, 1) := by decide +kernel
theorem dX6_faultAs_149 : decode cX6_faultAs 149 = .ok (.invokestatic 36, 3) := by decide +kernel
theorem dX6_faultAs_152 : decode cX6_faultAs 152 = .ok (.if_icmp .le 7, 3) := by decide +kernel
theorem dX6_faultAs_155 : decode cX6_faultAs 155 = .ok (.iconst 5, 1) := by decide +kernel
theorem dX6_faultAs_156 : decode cX6_faultAs 156 = .ok (.goto 4, 3) := by decide +kernel
theorem dX6_faultAs_159 : decode cX6_faultAs 159 = .ok (.iconst 0, 1) := by decide +kernel
theorem dX6_faultAs_160 : decode cX6_faultAs 160 = .ok (.ireturn, 1) := by decide +kernel
set_option maxRecDepth 20000 in
theorem ggX6_valueAs_X6_at : GoodIn wsX6_valueAs wsX6_at := goodIn_r _ [5, 6, 7, 12, 13, 14] (by decide +kernel) (by decide +kernel)
set_option maxRecDepth 20000 in
theorem gX6_valueAs_X6_at : GoodIn wsX6_valueAs (wsV RX6 26 RX6 yX6_at wsX6_at) := goodIn_app (goodIn_of _ (by decide +kernel)) ggX6_valueAs_X6_at
set_option maxRecDepth 20000 in
theorem ggX6_valueAs_X6_number : GoodIn wsX6_valueAs wsX6_number := goodIn_r _ [11, 6, 1, 2, 3, 4, 5, 7, 12, 13, 14] (by decide +kernel) (by decide +kernel)
set_option maxRecDepth 20000 in
theorem gX6_valueAs_X6_number : GoodIn wsX6_valueAs (wsV RX6 33 RX6 yX6_number wsX6_number) := goodIn_app (goodIn_of _ (by decide +kernel)) ggX6_valueAs_X6_number
theorem dX6_valueAs_0 : decode cX6_valueAs 0 = .ok (.iload_n 1, 1) := by decide +kernel
theorem dX6_valueAs_1 : decode cX6_valueAs 1 = .ok (.iconst 2, 1) := by decide +kernel
theorem dX6_valueAs_2 : decode cX6_valueAs 2 = .ok (.if_icmp .ne 19, 3) := by decide +kernel
theorem dX6_valueAs_5 : decode cX6_valueAs 5 = .ok (.aload_n 0, 1) := by decide +kernel
theorem dX6_valueAs_6 : decode cX6_valueAs 6 = .ok (.iconst 0, 1) := by decide +kernel
theorem dX6_valueAs_7 : decode cX6_valueAs 7 = .ok (.invokevirtual 26, 3) := by decide +kernel
theorem dX6_valueAs_10 : decode cX6_valueAs 10 = .ok (.bipush 109, 2) := by decide +kernel
theorem dX6_valueAs_12 : decode cX6_valueAs 12 = .ok (.if_icmp .ne 7, 3) := by decide +kernel
theorem dX6_valueAs_15 : decode cX6_valueAs 15 = .ok (.iconst 0, 1) := by decide +kernel
theorem dX6_valueAs_16 : decode cX6_valueAs 16 = .ok (.goto 4, 3) := by decide +kernel
theorem dX6_valueAs_19 : decode cX6_valueAs 19 = .ok (.iconst 1, 1) := by decide +kernel
theorem dX6_valueAs_20 : decode cX6_valueAs 20 = .ok (.ireturn, 1) := by decide +kernel
theorem dX6_valueAs_21 : decode cX6_valueAs 21 = .ok (.aload_n 0, 1) := by decide +kernel
theorem dX6_valueAs_22 : decode cX6_valueAs 22 = .ok (.invokevirtual 33, 3) := by decide +kernel
theorem dX6_valueAs_25 : decode cX6_valueAs 25 = .ok (.ireturn, 1) := by decide +kernel
theorem dX6_mostOf_0 : decode cX6_mostOf 0 = .ok (.iload_n 0, 1) := by decide +kernel
theorem dX6_mostOf_1 : decode cX6_mostOf 1 = .ok (.iconst 4, 1) := by decide +kernel
theorem dX6_mostOf_2 : decode cX6_mostOf 2 = .ok (.if_icmp .ne 7, 3) := by decide +kernel
theorem dX6_mostOf_5 : decode cX6_mostOf 5 = .ok (.sipush 9999, 3) := by decide +kernel
theorem dX6_mostOf_8 : decode cX6_mostOf 8 = .ok (.ireturn, 1) := by decide +kernel
theorem dX6_mostOf_9 : decode cX6_mostOf 9 = .ok (.iload_n 0, 1) := by decide +kernel
theorem dX6_mostOf_10 : decode cX6_mostOf 10 = .ok (.iconst 5, 1) := by decide +kernel
theorem dX6_mostOf_11 : decode cX6_mostOf 11 = .ok (.if_icmp .ne 8, 3) := by decide +kernel
theorem dX6_mostOf_14 : decode cX6_mostOf 14 = .ok (.bipush 99, 2) := by decide +kernel
theorem dX6_mostOf_16 : decode cX6_mostOf 16 = .ok (.goto 5, 3) := by decide +kernel
theorem dX6_mostOf_19 : decode cX6_mostOf 19 = .ok (.bipush 120, 2) := by decide +kernel
theorem dX6_mostOf_21 : decode cX6_mostOf 21 = .ok (.ireturn, 1) := by decide +kernel
set_option maxRecDepth 20000 in
theorem ggX6_firstBadOfName_X6_at : GoodIn wsX6_firstBadOfName wsX6_at := goodIn_r _ [6, 1, 7, 11, 12, 13] (by decide +kernel) (by decide +kernel)
set_option maxRecDepth 20000 in
theorem gX6_firstBadOfName_X6_at : GoodIn wsX6_firstBadOfName (wsV RX6 26 RX6 yX6_at wsX6_at) := goodIn_app (goodIn_of _ (by decide +kernel)) ggX6_firstBadOfName_X6_at
set_option maxRecDepth 20000 in
theorem ggX6_firstBadOfName_X6_isOfNames : GoodIn wsX6_firstBadOfName wsX6_isOfNames := goodIn_r _ [10] (by decide +kernel) (by decide +kernel)
set_option maxRecDepth 20000 in
theorem gX6_firstBadOfName_X6_isOfNames : GoodIn wsX6_firstBadOfName (va_wsS RX6 39 yX6_isOfNames wsX6_isOfNames) := goodIn_app (goodIn_of _ (by decide +kernel)) ggX6_firstBadOfName_X6_isOfNames
theorem dX6_firstBadOfName_0 : decode cX6_firstBadOfName 0 = .ok (.iconst 0, 1) := by decide +kernel
theorem dX6_firstBadOfName_1 : decode cX6_firstBadOfName 1 = .ok (.istore_n 1, 1) := by decide +kernel
theorem dX6_firstBadOfName_2 : decode cX6_firstBadOfName 2 = .ok (.iload_n 1, 1) := by decide +kernel
theorem dX6_firstBadOfName_3 : decode cX6_firstBadOfName 3 = .ok (.aload_n 0, 1) := by decide +kernel
theorem dX6_firstBadOfName_4 : decode cX6_firstBadOfName 4 = .ok (.getfield 18, 3) := by decide +kernel
theorem dX6_firstBadOfName_7 : decode cX6_firstBadOfName 7 = .ok (.if_icmp .ge 28, 3) := by decide +kernel
theorem dX6_firstBadOfName_10 : decode cX6_firstBadOfName 10 = .ok (.iload_n 1, 1) := by decide +kernel
theorem dX6_firstBadOfName_11 : decode cX6_firstBadOfName 11 = .ok (.bipush 30, 2) := by decide +kernel
theorem dX6_firstBadOfName_13 : decode cX6_firstBadOfName 13 = .ok (.if_icmp .ge 14, 3) := by decide +kernel
theorem dX6_firstBadOfName_16 : decode cX6_firstBadOfName 16 = .ok (.aload_n 0, 1) := by decide +kernel
theorem dX6_firstBadOfName_17 : decode cX6_firstBadOfName 17 = .ok (.iload_n 1, 1) := by decide +kernel
theorem dX6_firstBadOfName_18 : decode cX6_firstBadOfName 18 = .ok (.invokevirtual 26, 3) := by decide +kernel
theorem dX6_firstBadOfName_21 : decode cX6_firstBadOfName 21 = .ok (.invokestatic 39, 3) := by decide +kernel
theorem dX6_firstBadOfName_24 : decode cX6_firstBadOfName 24 = .ok (.ifCond .ne 5, 3) := by decide +kernel
theorem dX6_firstBadOfName_27 : decode cX6_firstBadOfName 27 = .ok (.iload_n 1, 1) := by decide +kernel
theorem dX6_firstBadOfName_28 : decode cX6_firstBadOfName 28 = .ok (.ireturn, 1) := by decide +kernel
theorem dX6_firstBadOfName_29 : decode cX6_firstBadOfName 29 = .ok (.iinc 1 1, 3) := by decide +kernel
theorem dX6_firstBadOfName_32 : decode cX6_firstBadOfName 32 = .ok (.goto (-30), 3) := by decide +kernel
theorem dX6_firstBadOfName_35 : decode cX6_firstBadOfName 35 = .ok (.iconst (-1), 1) := by decide +kernel
theorem dX6_firstBadOfName_36 : decode cX6_firstBadOfName 36 = .ok (.ireturn, 1) := by decide +kernel
theorem dX6_isOfNames_0 : decode cX6_isOfNames 0 = .ok (.iload_n 0, 1) := by decide +kernel
theorem dX6_isOfNames_1 : decode cX6_isOfNames 1 = .ok (.bipush 97, 2) := by decide +kernel
theorem dX6_isOfNames_3 : decode cX6_isOfNames 3 = .ok (.if_icmp .lt 9, 3) := by decide +kernel
theorem dX6_isOfNames_6 : decode cX6_isOfNames 6 = .ok (.iload_n 0, 1) := by decide +kernel
theorem dX6_isOfNames_7 : decode cX6_isOfNames 7 = .ok (.bipush 122, 2) := by decide +kernel
theorem dX6_isOfNames_9 : decode cX6_isOfNames 9 = .ok (.if_icmp .le 27, 3) := by decide +kernel
theorem dX6_isOfNames_12 : decode cX6_isOfNames 12 = .ok (.iload_n 0, 1) := by decide +kernel
theorem dX6_isOfNames_13 : decode cX6_isOfNames 13 = .ok (.bipush 65, 2) := by decide +kernel
theorem dX6_isOfNames_15 : decode cX6_isOfNames 15 = .ok (.if_icmp .lt 9, 3) := by decide +kernel
theorem dX6_isOfNames_18 : decode cX6_isOfNames 18 = .ok (.iload_n 0, 1) := by decide +kernel
theorem dX6_isOfNames_19 : decode cX6_isOfNames 19 = .ok (.bipush 90, 2) := by decide +kernel
theorem dX6_isOfNames_21 : decode cX6_isOfNames 21 = .ok (.if_icmp .le 15, 3) := by decide +kernel
theorem dX6_isOfNames_24 : decode cX6_isOfNames 24 = .ok (.iload_n 0, 1) := by decide +kernel
theorem dX6_isOfNames_25 : decode cX6_isOfNames 25 = .ok (.bipush 32, 2) := by decide +kernel
theorem dX6_isOfNames_27 : decode cX6_isOfNames 27 = .ok (.if_icmp .eq 9, 3) := by decide +kernel
theorem dX6_isOfNames_30 : decode cX6_isOfNames 30 = .ok (.iload_n 0, 1) := by decide +kernel
theorem dX6_isOfNames_31 : decode cX6_isOfNames 31 = .ok (.bipush 45, 2) := by decide +kernel
theorem dX6_isOfNames_33 : decode cX6_isOfNames 33 = .ok (.if_icmp .ne 7, 3) := by decide +kernel
theorem dX6_isOfNames_36 : decode cX6_isOfNames 36 = .ok (.iconst 1, 1) := by decide +kernel
theorem dX6_isOfNames_37 : decode cX6_isOfNames 37 = .ok (.goto 4, 3) := by decide +kernel
theorem dX6_isOfNames_40 : decode cX6_isOfNames 40 = .ok (.iconst 0, 1) := by decide +kernel
theorem dX6_isOfNames_41 : decode cX6_isOfNames 41 = .ok (.ireturn, 1) := by decide +kernel
set_option maxRecDepth 20000 in
theorem ggX6_digits_X6_at : GoodIn wsX6_digits wsX6_at := goodIn_r _ [6, 1, 7, 8, 9, 10] (by decide +kernel) (by decide +kernel)
set_option maxRecDepth 20000 in
theorem gX6_digits_X6_at : GoodIn wsX6_digits (wsV RX6 26 RX6 yX6_at wsX6_at) := goodIn_app (goodIn_of _ (by decide +kernel)) ggX6_digits_X6_at
theorem dX6_digits_0 : decode cX6_digits 0 = .ok (.iconst 0, 1) := by decide +kernel
theorem dX6_digits_1 : decode cX6_digits 1 = .ok (.istore_n 1, 1) := by decide +kernel
theorem dX6_digits_2 : decode cX6_digits 2 = .ok (.iconst 0, 1) := by decide +kernel
theorem dX6_digits_3 : decode cX6_digits 3 = .ok (.istore_n 2, 1) := by decide +kernel
theorem dX6_digits_4 : decode cX6_digits 4 = .ok (.iload_n 2, 1) := by decide +kernel
theorem dX6_digits_5 : decode cX6_digits 5 = .ok (.aload_n 0, 1) := by decide +kernel
theorem dX6_digits_6 : decode cX6_digits 6 = .ok (.getfield 18, 3) := by decide +kernel
theorem dX6_digits_9 : decode cX6_digits 9 = .ok (.if_icmp .ge 40, 3) := by decide +kernel
theorem dX6_digits_12 : decode cX6_digits 12 = .ok (.iload_n 2, 1) := by decide +kernel
theorem dX6_digits_13 : decode cX6_digits 13 = .ok (.bipush 6, 2) := by decide +kernel
theorem dX6_digits_15 : decode cX6_digits 15 = .ok (.if_icmp .ge 34, 3) := by decide +kernel
theorem dX6_digits_18 : decode cX6_digits 18 = .ok (.aload_n 0, 1) := by decide +kernel
theorem dX6_digits_19 : decode cX6_digits 19 = .ok (.iload_n 2, 1) := by decide +kernel
theorem dX6_digits_20 : decode cX6_digits 20 = .ok (.invokevirtual 26, 3) := by decide +kernel
theorem dX6_digits_23 : decode cX6_digits 23 = .ok (.bipush 48, 2) := by decide +kernel
theorem dX6_digits_25 : decode cX6_digits 25 = .ok (.if_icmp .lt 13, 3) := by decide +kernel
theorem dX6_digits_28 : decode cX6_digits 28 = .ok (.aload_n 0, 1) := by decide +kernel
theorem dX6_digits_29 : decode cX6_digits 29 = .ok (.iload_n 2, 1) := by decide +kernel
theorem dX6_digits_30 : decode cX6_digits 30 = .ok (.invokevirtual 26, 3) := by decide +kernel
theorem dX6_digits_33 : decode cX6_digits 33 = .ok (.bipush 57, 2) := by decide +kernel
theorem dX6_digits_35 : decode cX6_digits 35 = .ok (.if_icmp .le 5, 3) := by decide +kernel
theorem dX6_digits_38 : decode cX6_digits 38 = .ok (.iload_n 1, 1) := by decide +kernel
theorem dX6_digits_39 : decode cX6_digits 39 = .ok (.ireturn, 1) := by decide +kernel
theorem dX6_digits_40 : decode cX6_digits 40 = .ok (.iinc 1 1, 3) := by decide +kernel
theorem dX6_digits_43 : decode cX6_digits 43 = .ok (.iinc 2 1, 3) := by decide +kernel
theorem dX6_digits_46 : decode cX6_digits 46 = .ok (.goto (-42), 3) := by decide +kernel
theorem dX6_digits_49 : decode cX6_digits 49 = .ok (.iload_n 1, 1) := by decide +kernel
theorem dX6_digits_50 : decode cX6_digits 50 = .ok (.ireturn, 1) := by decide +kernel
set_option maxRecDepth 20000 in
theorem ggX6_number_X6_at : GoodIn wsX6_number wsX6_at := goodIn_r _ [6, 1, 7, 8, 9, 10] (by decide +kernel) (by decide +kernel)
set_option maxRecDepth 20000 in
theorem gX6_number_X6_at : GoodIn wsX6_number (wsV RX6 26 RX6 yX6_at wsX6_at) := goodIn_app (goodIn_of _ (by decide +kernel)) ggX6_number_X6_at
theorem dX6_number_0 : decode cX6_number 0 = .ok (.iconst 0, 1) := by decide +kernel
theorem dX6_number_1 : decode cX6_number 1 = .ok (.istore_n 1, 1) := by decide +kernel
theorem dX6_number_2 : decode cX6_number 2 = .ok (.iconst 0, 1) := by decide +kernel
theorem dX6_number_3 : decode cX6_number 3 = .ok (.istore_n 2, 1) := by decide +kernel
theorem dX6_number_4 : decode cX6_number 4 = .ok (.iload_n 2, 1) := by decide +kernel
theorem dX6_number_5 : decode cX6_number 5 = .ok (.aload_n 0, 1) := by decide +kernel
theorem dX6_number_6 : decode cX6_number 6 = .ok (.getfield 18, 3) := by decide +kernel
theorem dX6_number_9 : decode cX6_number 9 = .ok (.if_icmp .ge 51, 3) := by decide +kernel
theorem dX6_number_12 : decode cX6_number 12 = .ok (.iload_n 2, 1) := by decide +kernel
theorem dX6_number_13 : decode cX6_number 13 = .ok (.bipush 6, 2) := by decide +kernel
theorem dX6_number_15 : decode cX6_number 15 = .ok (.if_icmp .ge 45, 3) := by decide +kernel
theorem dX6_number_18 : decode cX6_number 18 = .ok (.aload_n 0, 1) := by decide +kernel
theorem dX6_number_19 : decode cX6_number 19 = .ok (.iload_n 2, 1) := by decide +kernel
theorem dX6_number_20 : decode cX6_number 20 = .ok (.invokevirtual 26, 3) := by decide +kernel
theorem dX6_number_23 : decode cX6_number 23 = .ok (.bipush 48, 2) := by decide +kernel
theorem dX6_number_25 : decode cX6_number 25 = .ok (.if_icmp .lt 13, 3) := by decide +kernel
theorem dX6_number_28 : decode cX6_number 28 = .ok (.aload_n 0, 1) := by decide +kernel
theorem dX6_number_29 : decode cX6_number 29 = .ok (.iload_n 2, 1) := by decide +kernel
theorem dX6_number_30 : decode cX6_number 30 = .ok (.invokevirtual 26, 3) := by decide +kernel
theorem dX6_number_33 : decode cX6_number 33 = .ok (.bipush 57, 2) := by decide +kernel
theorem dX6_number_35 : decode cX6_number 35 = .ok (.if_icmp .le 5, 3) := by decide +kernel
theorem dX6_number_38 : decode cX6_number 38 = .ok (.iload_n 1, 1) := by decide +kernel
theorem dX6_number_39 : decode cX6_number 39 = .ok (.ireturn, 1) := by decide +kernel
theorem dX6_number_40 : decode cX6_number 40 = .ok (.iload_n 1, 1) := by decide +kernel
theorem dX6_number_41 : decode cX6_number 41 = .ok (.bipush 10, 2) := by decide +kernel
theorem dX6_number_43 : decode cX6_number 43 = .ok (.imul, 1) := by decide +kernel
theorem dX6_number_44 : decode cX6_number 44 = .ok (.aload_n 0, 1) := by decide +kernel
theorem dX6_number_45 : decode cX6_number 45 = .ok (.iload_n 2, 1) := by decide +kernel
theorem dX6_number_46 : decode cX6_number 46 = .ok (.invokevirtual 26, 3) := by decide +kernel
theorem dX6_number_49 : decode cX6_number 49 = .ok (.bipush 48, 2) := by decide +kernel
theorem dX6_number_51 : decode cX6_number 51 = .ok (.isub, 1) := by decide +kernel
theorem dX6_number_52 : decode cX6_number 52 = .ok (.iadd, 1) := by decide +kernel
theorem dX6_number_53 : decode cX6_number 53 = .ok (.istore_n 1, 1) := by decide +kernel
theorem dX6_number_54 : decode cX6_number 54 = .ok (.iinc 2 1, 3) := by decide +kernel
theorem dX6_number_57 : decode cX6_number 57 = .ok (.goto (-53), 3) := by decide +kernel
theorem dX6_number_60 : decode cX6_number 60 = .ok (.iload_n 1, 1) := by decide +kernel
theorem dX6_number_61 : decode cX6_number 61 = .ok (.ireturn, 1) := by decide +kernel
theorem dX7_init_0 : decode cX7_init 0 = .ok (.aload_n 0, 1) := by decide +kernel
theorem dX7_init_1 : decode cX7_init 1 = .ok (.invokespecial 3, 3) := by decide +kernel
theorem dX7_init_4 : decode cX7_init 4 = .ok (.aload_n 0, 1) := by decide +kernel
theorem dX7_init_5 : decode cX7_init 5 = .ok (.sipush 4000, 3) := by decide +kernel
theorem dX7_init_8 : decode cX7_init 8 = .ok (.newarray .byte, 2) := by decide +kernel
theorem dX7_init_10 : decode cX7_init 10 = .ok (.putfield 11, 3) := by decide +kernel
theorem dX7_init_13 : decode cX7_init 13 = .ok (.return_, 1) := by decide +kernel
theorem dX7_hasRoomFor_0 : decode cX7_hasRoomFor 0 = .ok (.aload_n 0, 1) := by decide +kernel
theorem dX7_hasRoomFor_1 : decode cX7_hasRoomFor 1 = .ok (.getfield 15, 3) := by decide +kernel
theorem dX7_hasRoomFor_4 : decode cX7_hasRoomFor 4 = .ok (.iload_n 1, 1) := by decide +kernel
theorem dX7_hasRoomFor_5 : decode cX7_hasRoomFor 5 = .ok (.iadd, 1) := by decide +kernel
theorem dX7_hasRoomFor_6 : decode cX7_hasRoomFor 6 = .ok (.sipush 4000, 3) := by decide +kernel
theorem dX7_hasRoomFor_9 : decode cX7_hasRoomFor 9 = .ok (.if_icmp .gt 7, 3) := by decide +kernel
theorem dX7_hasRoomFor_12 : decode cX7_hasRoomFor 12 = .ok (.iconst 1, 1) := by decide +kernel
theorem dX7_hasRoomFor_13 : decode cX7_hasRoomFor 13 = .ok (.goto 4, 3) := by decide +kernel
theorem dX7_hasRoomFor_16 : decode cX7_hasRoomFor 16 = .ok (.iconst 0, 1) := by decide +kernel
theorem dX7_hasRoomFor_17 : decode cX7_hasRoomFor 17 = .ok (.ireturn, 1) := by decide +kernel
theorem dX7_append_0 : decode cX7_append 0 = .ok (.bipush 24, 2) := by decide +kernel
theorem dX7_append_2 : decode cX7_append 2 = .ok (.istore_n 2, 1) := by decide +kernel
theorem dX7_append_3 : decode cX7_append 3 = .ok (.iload_n 2, 1) := by decide +kernel
theorem dX7_append_4 : decode cX7_append 4 = .ok (.ifCond .lt 42, 3) := by decide +kernel
theorem dX7_append_7 : decode cX7_append 7 = .ok (.aload_n 0, 1) := by decide +kernel
theorem dX7_append_8 : decode cX7_append 8 = .ok (.getfield 15, 3) := by decide +kernel
theorem dX7_append_11 : decode cX7_append 11 = .ok (.sipush 4000, 3) := by decide +kernel
theorem dX7_append_14 : decode cX7_append 14 = .ok (.if_icmp .ge 26, 3) := by decide +kernel
theorem dX7_append_17 : decode cX7_append 17 = .ok (.aload_n 0, 1) := by decide +kernel
theorem dX7_append_18 : decode cX7_append 18 = .ok (.getfield 11, 3) := by decide +kernel
theorem dX7_append_21 : decode cX7_append 21 = .ok (.aload_n 0, 1) := by decide +kernel
theorem dX7_append_22 : decode cX7_append 22 = .ok (.getfield 15, 3) := by decide +kernel
theorem dX7_append_25 : decode cX7_append 25 = .ok (.iload_n 1, 1) := by decide +kernel
theorem dX7_append_26 : decode cX7_append 26 = .ok (.iload_n 2, 1) := by decide +kernel
theorem dX7_append_27 : decode cX7_append 27 = .ok (.iushr, 1) := by decide +kernel
theorem dX7_append_28 : decode cX7_append 28 = .ok (.i2b, 1) := by decide +kernel
theorem dX7_append_29 : decode cX7_append 29 = .ok (.bastore, 1) := by decide +kernel
theorem dX7_append_30 : decode cX7_append 30 = .ok (.aload_n 0, 1) := by decide +kernel
theorem dX7_append_31 : decode cX7_append 31 = .ok (.dup, 1) := by decide +kernel
theorem dX7_append_32 : decode cX7_append 32 = .ok (.getfield 15, 3) := by decide +kernel
theorem dX7_append_35 : decode cX7_append 35 = .ok (.iconst 1, 1) := by decide +kernel
theorem dX7_append_36 : decode cX7_append 36 = .ok (.iadd, 1) := by decide +kernel
theorem dX7_append_37 : decode cX7_append 37 = .ok (.putfield 15, 3) := by decide +kernel
theorem dX7_append_40 : decode cX7_append 40 = .ok (.iinc 2 (-8), 3) := by decide +kernel
theorem dX7_append_43 : decode cX7_append 43 = .ok (.goto (-40), 3) := by decide +kernel
theorem dX7_append_46 : decode cX7_append 46 = .ok (.return_, 1) := by decide +kernel
theorem dX7_keepFirst_0 : decode cX7_keepFirst 0 = .ok (.iload_n 1, 1) := by decide +kernel
theorem dX7_keepFirst_1 : decode cX7_keepFirst 1 = .ok (.ifCond .lt 16, 3) := by decide +kernel
theorem dX7_keepFirst_4 : decode cX7_keepFirst 4 = .ok (.iload_n 1, 1) := by decide +kernel
theorem dX7_keepFirst_5 : decode cX7_keepFirst 5 = .ok (.aload_n 0, 1) := by decide +kernel
theorem dX7_keepFirst_6 : decode cX7_keepFirst 6 = .ok (.getfield 15, 3) := by decide +kernel
theorem dX7_keepFirst_9 : decode cX7_keepFirst 9 = .ok (.if_icmp .gt 8, 3) := by decide +kernel
theorem dX7_keepFirst_12 : decode cX7_keepFirst 12 = .ok (.aload_n 0, 1) := by decide +kernel
theorem dX7_keepFirst_13 : decode cX7_keepFirst 13 = .ok (.iload_n 1, 1) := by decide +kernel
theorem dX7_keepFirst_14 : decode cX7_keepFirst 14 = .ok (.putfield 15, 3) := by decide +kernel
theorem dX7_keepFirst_17 : decode cX7_keepFirst 17 = .ok (.return_, 1) := by decide +kernel
theorem dX7_at_0 : decode cX7_at 0 = .ok (.iload_n 1, 1) := by decide +kernel
theorem dX7_at_1 : decode cX7_at 1 = .ok (.ifCond .lt 24, 3) := by decide +kernel
theorem dX7_at_4 : decode cX7_at 4 = .ok (.iload_n 1, 1) := by decide +kernel
theorem dX7_at_5 : decode cX7_at 5 = .ok (.aload_n 0, 1) := by decide +kernel
theorem dX7_at_6 : decode cX7_at 6 = .ok (.getfield 15, 3) := by decide +kernel
theorem dX7_at_9 : decode cX7_at 9 = .ok (.if_icmp .ge 16, 3) := by decide +kernel
theorem dX7_at_12 : decode cX7_at 12 = .ok (.aload_n 0, 1) := by decide +kernel
theorem dX7_at_13 : decode cX7_at 13 = .ok (.getfield 11, 3) := by decide +kernel
theorem dX7_at_16 : decode cX7_at 16 = .ok (.iload_n 1, 1) := by decide +kernel
theorem dX7_at_17 : decode cX7_at 17 = .ok (.baload, 1) := by decide +kernel
theorem dX7_at_18 : decode cX7_at 18 = .ok (.sipush 255, 3) := by decide +kernel
theorem dX7_at_21 : decode cX7_at 21 = .ok (.iand, 1) := by decide +kernel
theorem dX7_at_22 : decode cX7_at 22 = .ok (.goto 4, 3) := by decide +kernel
theorem dX7_at_25 : decode cX7_at 25 = .ok (.iconst (-1), 1) := by decide +kernel
theorem dX7_at_26 : decode cX7_at 26 = .ok (.ireturn, 1) := by decide +kernel
set_option maxRecDepth 20000 in
theorem ggX7_lineEnd_X7_at : GoodIn wsX7_lineEnd wsX7_at := goodIn_r _ [6, 1, 7, 8, 9] (by decide +kernel) (by decide +kernel)
set_option maxRecDepth 20000 in
theorem gX7_lineEnd_X7_at : GoodIn wsX7_lineEnd (wsV RX7 19 RX7 yX7_at wsX7_at) := goodIn_app (goodIn_of _ (by decide +kernel)) ggX7_lineEnd_X7_at
theorem dX7_lineEnd_0 : decode cX7_lineEnd 0 = .ok (.iload_n 1, 1) := by decide +kernel
theorem dX7_lineEnd_1 : decode cX7_lineEnd 1 = .ok (.istore_n 2, 1) := by decide +kernel
theorem dX7_lineEnd_2 : decode cX7_lineEnd 2 = .ok (.iload_n 2, 1) := by decide +kernel
theorem dX7_lineEnd_3 : decode cX7_lineEnd 3 = .ok (.aload_n 0, 1) := by decide +kernel
theorem dX7_lineEnd_4 : decode cX7_lineEnd 4 = .ok (.getfield 15, 3) := by decide +kernel
theorem dX7_lineEnd_7 : decode cX7_lineEnd 7 = .ok (.if_icmp .ge 21, 3) := by decide +kernel
theorem dX7_lineEnd_10 : decode cX7_lineEnd 10 = .ok (.aload_n 0, 1) := by decide +kernel
theorem dX7_lineEnd_11 : decode cX7_lineEnd 11 = .ok (.iload_n 2, 1) := by decide +kernel
theorem dX7_lineEnd_12 : decode cX7_lineEnd 12 = .ok (.invokevirtual 19, 3) := by decide +kernel
theorem dX7_lineEnd_15 : decode cX7_lineEnd 15 = .ok (.bipush 10, 2) := by decide +kernel
theorem dX7_lineEnd_17 : decode cX7_lineEnd 17 = .ok (.if_icmp .ne 5, 3) := by decide +kernel
theorem dX7_lineEnd_20 : decode cX7_lineEnd 20 = .ok (.iload_n 2, 1) := by decide +kernel
theorem dX7_lineEnd_21 : decode cX7_lineEnd 21 = .ok (.ireturn, 1) := by decide +kernel
theorem dX7_lineEnd_22 : decode cX7_lineEnd 22 = .ok (.iinc 2 1, 3) := by decide +kernel
theorem dX7_lineEnd_25 : decode cX7_lineEnd 25 = .ok (.goto (-23), 3) := by decide +kernel
theorem dX7_lineEnd_28 : decode cX7_lineEnd 28 = .ok (.aload_n 0, 1) := by decide +kernel
theorem dX7_lineEnd_29 : decode cX7_lineEnd 29 = .ok (.getfield 15, 3) := by decide +kernel
theorem dX7_lineEnd_32 : decode cX7_lineEnd 32 = .ok (.ireturn, 1) := by decide +kernel
set_option maxRecDepth 20000 in
theorem ggX7_behindEmptyLines_X7_at : GoodIn wsX7_behindEmptyLines wsX7_at := goodIn_r _ [6, 1, 7, 8, 9] (by decide +kernel) (by decide +kernel)
set_option maxRecDepth 20000 in
theorem gX7_behindEmptyLines_X7_at : GoodIn wsX7_behindEmptyLines (wsV RX7 19 RX7 yX7_at wsX7_at) := goodIn_app (goodIn_of _ (by decide +kernel)) ggX7_behindEmptyLines_X7_at
theorem dX7_behindEmptyLines_0 : decode cX7_behindEmptyLines 0 = .ok (.iload_n 1, 1) := by decide +kernel
theorem dX7_behindEmptyLines_1 : decode cX7_behindEmptyLines 1 = .ok (.istore_n 2, 1) := by decide +kernel
theorem dX7_behindEmptyLines_2 : decode cX7_behindEmptyLines 2 = .ok (.iload_n 2, 1) := by decide +kernel
theorem dX7_behindEmptyLines_3 : decode cX7_behindEmptyLines 3 = .ok (.aload_n 0, 1) := by decide +kernel
theorem dX7_behindEmptyLines_4 : decode cX7_behindEmptyLines 4 = .ok (.getfield 15, 3) := by decide +kernel
theorem dX7_behindEmptyLines_7 : decode cX7_behindEmptyLines 7 = .ok (.if_icmp .ge 21, 3) := by decide +kernel
theorem dX7_behindEmptyLines_10 : decode cX7_behindEmptyLines 10 = .ok (.aload_n 0, 1) := by decide +kernel
theorem dX7_behindEmptyLines_11 : decode cX7_behindEmptyLines 11 = .ok (.iload_n 2, 1) := by decide +kernel
theorem dX7_behindEmptyLines_12 : decode cX7_behindEmptyLines 12 = .ok (.invokevirtual 19, 3) := by decide +kernel
theorem dX7_behindEmptyLines_15 : decode cX7_behindEmptyLines 15 = .ok (.bipush 10, 2) := by decide +kernel
theorem dX7_behindEmptyLines_17 : decode cX7_behindEmptyLines 17 = .ok (.if_icmp .eq 5, 3) := by decide +kernel
theorem dX7_behindEmptyLines_20 : decode cX7_behindEmptyLines 20 = .ok (.iload_n 2, 1) := by decide +kernel
theorem dX7_behindEmptyLines_21 : decode cX7_behindEmptyLines 21 = .ok (.ireturn, 1) := by decide +kernel
theorem dX7_behindEmptyLines_22 : decode cX7_behindEmptyLines 22 = .ok (.iinc 2 1, 3) := by decide +kernel
theorem dX7_behindEmptyLines_25 : decode cX7_behindEmptyLines 25 = .ok (.goto (-23), 3) := by decide +kernel
theorem dX7_behindEmptyLines_28 : decode cX7_behindEmptyLines 28 = .ok (.aload_n 0, 1) := by decide +kernel
theorem dX7_behindEmptyLines_29 : decode cX7_behindEmptyLines 29 = .ok (.getfield 15, 3) := by decide +kernel
theorem dX7_behindEmptyLines_32 : decode cX7_behindEmptyLines 32 = .ok (.ireturn, 1) := by decide +kernel
set_option maxRecDepth 20000 in
theorem ggX8_init_X7_init : GoodIn wsX8_init wsX7_init := goodIn_r _ [25, 26, 2, 3, 27, 28, 96, 97] (by decide +kernel) (by decide +kernel)
set_option maxRecDepth 20000 in
theorem gX8_init_X7_init_n9 : GoodIn wsX8_init (wsX7_init) := ggX8_init_X7_init
set_option maxRecDepth 20000 in
theorem ggX8_init_X5_init : GoodIn wsX8_init wsX5_init := goodIn_r _ [31, 32, 2, 3, 33, 34, 35, 36, 37, 38, 39, 108, 109] (by decide +kernel) (by decide +kernel)
set_option maxRecDepth 20000 in
theorem gX8_init_X5_init : GoodIn wsX8_init (wsX5_init) := ggX8_init_X5_init
set_option maxRecDepth 20000 in
theorem ggX8_init_X1_init : GoodIn wsX8_init wsX1_init := goodIn_r _ [41, 42, 2, 3, 43, 33, 44, 45, 46, 47, 110, 111, 112, 113, 114] (by decide +kernel) (by decide +kernel)
set_option maxRecDepth 20000 in
theorem gX8_init_X1_init_n25 : GoodIn wsX8_init (wsX1_init) := ggX8_init_X1_init
set_option maxRecDepth 20000 in
theorem ggX8_init_X0_init : GoodIn wsX8_init wsX0_init := goodIn_r _ [49, 50, 2, 3, 51, 33, 52, 53, 27, 54, 55, 115, 116, 117, 118, 119, 120, 121, 122, 123, 124] (by decide +kernel) (by decide +kernel)
set_option maxRecDepth 20000 in
theorem gX8_init_X0_init_n32 : GoodIn wsX8_init (wsX0_init) := ggX8_init_X0_init
set_option maxRecDepth 20000 in
theorem ggX8_init_X4_init : GoodIn wsX8_init wsX4_init := goodIn_r _ [58, 59, 2, 3, 60, 61, 62, 63, 64, 65, 66, 67, 68, 69, 70, 71, 33, 72, 73, 74, 75, 76, 77, 78, 79, 80, 81, 82, 83, 84, 85, 86, 87, 88, 89, 90, 91, 92, 93, 94, 27, 95, 144, 145, 146, 147, 148, 149, 150, 125, 126, 127, 128, 129, 130, 131, 132, 133, 134, 135, 136, 137, 138, 139, 140, 141, 142, 143, 151, 152, 153, 154, 155, 156, 157, 158, 159, 160, 161, 162, 163, 164, 165, 166] (by decide +kernel) (by decide +kernel)
set_option maxRecDepth 20000 in
theorem gX8_init_X4_init : GoodIn wsX8_init (wsX4_init) := ggX8_init_X4_init
theorem dX8_init_0 : decode cX8_init 0 = .ok (.aload_n 0, 1) := by decide +kernel
theorem dX8_init_1 : decode cX8_init 1 = .ok (.invokespecial 1, 3) := by decide +kernel
theorem dX8_init_4 : decode cX8_init 4 = .ok (.aload_n 0, 1) := by decide +kernel
theorem dX8_init_5 : decode cX8_init 5 = .ok (.new 7, 3) := by decide +kernel
theorem dX8_init_8 : decode cX8_init 8 = .ok (.dup, 1) := by decide +kernel
theorem dX8_init_9 : decode cX8_init 9 = .ok (.invokespecial 9, 3) := by decide +kernel
theorem dX8_init_12 : decode cX8_init 12 = .ok (.putfield 10, 3) := by decide +kernel
theorem dX8_init_15 : decode cX8_init 15 = .ok (.aload_n 0, 1) := by decide +kernel
theorem dX8_init_16 : decode cX8_init 16 = .ok (.new 16, 3) := by decide +kernel
theorem dX8_init_19 : decode cX8_init 19 = .ok (.dup, 1) := by decide +kernel
theorem dX8_init_20 : decode cX8_init 20 = .ok (.invokespecial 18, 3) := by decide +kernel
theorem dX8_init_23 : decode cX8_init 23 = .ok (.putfield 19, 3) := by decide +kernel
theorem dX8_init_26 : decode cX8_init 26 = .ok (.aload_n 0, 1) := by decide +kernel
theorem dX8_init_27 : decode cX8_init 27 = .ok (.new 23, 3) := by decide +kernel
theorem dX8_init_30 : decode cX8_init 30 = .ok (.dup, 1) := by decide +kernel
theorem dX8_init_31 : decode cX8_init 31 = .ok (.invokespecial 25, 3) := by decide +kernel
theorem dX8_init_34 : decode cX8_init 34 = .ok (.putfield 26, 3) := by decide +kernel
theorem dX8_init_37 : decode cX8_init 37 = .ok (.aload_n 0, 1) := by decide +kernel
theorem dX8_init_38 : decode cX8_init 38 = .ok (.new 30, 3) := by decide +kernel
theorem dX8_init_41 : decode cX8_init 41 = .ok (.dup, 1) := by decide +kernel
theorem dX8_init_42 : decode cX8_init 42 = .ok (.invokespecial 32, 3) := by decide +kernel
theorem dX8_init_45 : decode cX8_init 45 = .ok (.putfield 33, 3) := by decide +kernel
theorem dX8_init_48 : decode cX8_init 48 = .ok (.aload_n 0, 1) := by decide +kernel
theorem dX8_init_49 : decode cX8_init 49 = .ok (.new 37, 3) := by decide +kernel
theorem dX8_init_52 : decode cX8_init 52 = .ok (.dup, 1) := by decide +kernel
theorem dX8_init_53 : decode cX8_init 53 = .ok (.aload_n 0, 1) := by decide +kernel
theorem dX8_init_54 : decode cX8_init 54 = .ok (.getfield 10, 3) := by decide +kernel
theorem dX8_init_57 : decode cX8_init 57 = .ok (.aload_n 0, 1) := by decide +kernel
theorem dX8_init_58 : decode cX8_init 58 = .ok (.getfield 19, 3) := by decide +kernel
theorem dX8_init_61 : decode cX8_init 61 = .ok (.aload_n 0, 1) := by decide +kernel
theorem dX8_init_62 : decode cX8_init 62 = .ok (.getfield 26, 3) := by decide +kernel
theorem dX8_init_65 : decode cX8_init 65 = .ok (.aload_n 0, 1) := by decide +kernel
theorem dX8_init_66 : decode cX8_init 66 = .ok (.getfield 33, 3) := by decide +kernel
theorem dX8_init_69 : decode cX8_init 69 = .ok (.invokespecial 39, 3) := by decide +kernel
theorem dX8_init_72 : decode cX8_init 72 = .ok (.putfield 42, 3) := by decide +kernel
theorem dX8_init_75 : decode cX8_init 75 = .ok (.return_, 1) := by decide +kernel
set_option maxRecDepth 20000 in
theorem ggX8_feed_X7_hasRoomFor : GoodIn wsX8_feed wsX7_hasRoomFor := goodIn_r _ [7, 8, 24, 25] (by decide +kernel) (by decide +kernel)
set_option maxRecDepth 20000 in
theorem gX8_feed_X7_hasRoomFor : GoodIn wsX8_feed (wsV RX8 46 RX7 yX7_hasRoomFor wsX7_hasRoomFor) := goodIn_app (goodIn_of _ (by decide +kernel)) ggX8_feed_X7_hasRoomFor
set_option maxRecDepth 20000 in
theorem ggX8_feed_X7_append : GoodIn wsX8_feed wsX7_append := goodIn_r _ [12, 8, 13, 24, 25] (by decide +kernel) (by decide +kernel)
set_option maxRecDepth 20000 in
theorem gX8_feed_X7_append : GoodIn wsX8_feed (wsV RX8 54 RX7 yX7_append wsX7_append) := goodIn_app (goodIn_of _ (by decide +kernel)) ggX8_feed_X7_append
theorem dX8_feed_0 : decode cX8_feed 0 = .ok (.aload_n 0, 1) := by decide +kernel
theorem dX8_feed_1 : decode cX8_feed 1 = .ok (.getfield 10, 3) := by decide +kernel
theorem dX8_feed_4 : decode cX8_feed 4 = .ok (.bipush 20, 2) := by decide +kernel
theorem dX8_feed_6 : decode cX8_feed 6 = .ok (.invokevirtual 46, 3) := by decide +kernel
theorem dX8_feed_9 : decode cX8_feed 9 = .ok (.ifCond .ne 5, 3) := by decide +kernel
theorem dX8_feed_12 : decode cX8_feed 12 = .ok (.iconst (-1), 1) := by decide +kernel
theorem dX8_feed_13 : decode cX8_feed 13 = .ok (.ireturn, 1) := by decide +kernel
theorem dX8_feed_14 : decode cX8_feed 14 = .ok (.aload_n 0, 1) := by decide +kernel
theorem dX8_feed_15 : decode cX8_feed 15 = .ok (.getfield 50, 3) := by decide +kernel
theorem dX8_feed_18 : decode cX8_feed 18 = .ok (.ifCond .eq 6, 3) := by decide +kernel
theorem dX8_feed_21 : decode cX8_feed 21 = .ok (.bipush (-2), 2) := by decide +kernel
theorem dX8_feed_23 : decode cX8_feed 23 = .ok (.ireturn, 1) := by decide +kernel
theorem dX8_feed_24 : decode cX8_feed 24 = .ok (.aload_n 0, 1) := by decide +kernel
theorem dX8_feed_25 : decode cX8_feed 25 = .ok (.getfield 10, 3) := by decide +kernel
theorem dX8_feed_28 : decode cX8_feed 28 = .ok (.iload_n 1, 1) := by decide +kernel
theorem dX8_feed_29 : decode cX8_feed 29 = .ok (.invokevirtual 54, 3) := by decide +kernel
theorem dX8_feed_32 : decode cX8_feed 32 = .ok (.aload_n 0, 1) := by decide +kernel
theorem dX8_feed_33 : decode cX8_feed 33 = .ok (.getfield 10, 3) := by decide +kernel
theorem dX8_feed_36 : decode cX8_feed 36 = .ok (.iload_n 2, 1) := by decide +kernel
theorem dX8_feed_37 : decode cX8_feed 37 = .ok (.invokevirtual 54, 3) := by decide +kernel
theorem dX8_feed_40 : decode cX8_feed 40 = .ok (.aload_n 0, 1) := by decide +kernel
theorem dX8_feed_41 : decode cX8_feed 41 = .ok (.getfield 10, 3) := by decide +kernel
theorem dX8_feed_44 : decode cX8_feed 44 = .ok (.iload_n 3, 1) := by decide +kernel
theorem dX8_feed_45 : decode cX8_feed 45 = .ok (.invokevirtual 54, 3) := by decide +kernel
theorem dX8_feed_48 : decode cX8_feed 48 = .ok (.aload_n 0, 1) := by decide +kernel
theorem dX8_feed_49 : decode cX8_feed 49 = .ok (.getfield 10, 3) := by decide +kernel
theorem dX8_feed_52 : decode cX8_feed 52 = .ok (.iload 4, 2) := by decide +kernel
theorem dX8_feed_54 : decode cX8_feed 54 = .ok (.invokevirtual 54, 3) := by decide +kernel
theorem dX8_feed_57 : decode cX8_feed 57 = .ok (.aload_n 0, 1) := by decide +kernel
theorem dX8_feed_58 : decode cX8_feed 58 = .ok (.getfield 10, 3) := by decide +kernel
theorem dX8_feed_61 : decode cX8_feed 61 = .ok (.iload 5, 2) := by decide +kernel
theorem dX8_feed_63 : decode cX8_feed 63 = .ok (.invokevirtual 54, 3) := by decide +kernel
theorem dX8_feed_66 : decode cX8_feed 66 = .ok (.aload_n 0, 1) := by decide +kernel
theorem dX8_feed_67 : decode cX8_feed 67 = .ok (.getfield 10, 3) := by decide +kernel
theorem dX8_feed_70 : decode cX8_feed 70 = .ok (.getfield 58, 3) := by decide +kernel
theorem dX8_feed_73 : decode cX8_feed 73 = .ok (.ireturn, 1) := by decide +kernel
set_option maxRecDepth 20000 in
theorem ggX8_end_X7_keepFirst : GoodIn wsX8_end wsX7_keepFirst := goodIn_r _ [7, 8, 19, 20] (by decide +kernel) (by decide +kernel)
set_option maxRecDepth 20000 in
theorem gX8_end_X7_keepFirst : GoodIn wsX8_end (wsV RX8 62 RX7 yX7_keepFirst wsX7_keepFirst) := goodIn_app (goodIn_of _ (by decide +kernel)) ggX8_end_X7_keepFirst
theorem dX8_end_0 : decode cX8_end 0 = .ok (.iload_n 1, 1) := by decide +kernel
theorem dX8_end_1 : decode cX8_end 1 = .ok (.ifCond .lt 14, 3) := by decide +kernel
theorem dX8_end_4 : decode cX8_end 4 = .ok (.iload_n 1, 1) := by decide +kernel
theorem dX8_end_5 : decode cX8_end 5 = .ok (.aload_n 0, 1) := by decide +kernel
theorem dX8_end_6 : decode cX8_end 6 = .ok (.getfield 10, 3) := by decide +kernel
theorem dX8_end_9 : decode cX8_end 9 = .ok (.getfield 58, 3) := by decide +kernel
theorem dX8_end_12 : decode cX8_end 12 = .ok (.if_icmp .le 5, 3) := by decide +kernel
theorem dX8_end_15 : decode cX8_end 15 = .ok (.iconst (-1), 1) := by decide +kernel
theorem dX8_end_16 : decode cX8_end 16 = .ok (.ireturn, 1) := by decide +kernel
theorem dX8_end_17 : decode cX8_end 17 = .ok (.aload_n 0, 1) := by decide +kernel
theorem dX8_end_18 : decode cX8_end 18 = .ok (.getfield 50, 3) := by decide +kernel
theorem dX8_end_21 : decode cX8_end 21 = .ok (.ifCond .eq 6, 3) := by decide +kernel
theorem dX8_end_24 : decode cX8_end 24 = .ok (.bipush (-2), 2) := by decide +kernel
theorem dX8_end_26 : decode cX8_end 26 = .ok (.ireturn, 1) := by decide +kernel
theorem dX8_end_27 : decode cX8_end 27 = .ok (.aload_n 0, 1) := by decide +kernel
theorem dX8_end_28 : decode cX8_end 28 = .ok (.getfield 10, 3) := by decide +kernel
theorem dX8_end_31 : decode cX8_end 31 = .ok (.iload_n 1, 1) := by decide +kernel
theorem dX8_end_32 : decode cX8_end 32 = .ok (.invokevirtual 62, 3) := by decide +kernel
theorem dX8_end_35 : decode cX8_end 35 = .ok (.iload_n 1, 1) := by decide +kernel
theorem dX8_end_36 : decode cX8_end 36 = .ok (.ireturn, 1) := by decide +kernel
set_option maxRecDepth 20000 in
theorem ggX8_rule_X5_change : GoodIn wsX8_rule wsX5_change := goodIn_r _ [8, 9, 10, 21, 22] (by decide +kernel) (by decide +kernel)
set_option maxRecDepth 20000 in
theorem gX8_rule_X5_change : GoodIn wsX8_rule (wsV RX8 66 RX5 yX5_change wsX5_change) := goodIn_app (goodIn_of _ (by decide +kernel)) ggX8_rule_X5_change
theorem dX8_rule_0 : decode cX8_rule 0 = .ok (.iload_n 1, 1) := by decide +kernel
theorem dX8_rule_1 : decode cX8_rule 1 = .ok (.iconst 1, 1) := by decide +kernel
theorem dX8_rule_2 : decode cX8_rule 2 = .ok (.if_icmp .lt 9, 3) := by decide +kernel
theorem dX8_rule_5 : decode cX8_rule 5 = .ok (.iload_n 1, 1) := by decide +kernel
theorem dX8_rule_6 : decode cX8_rule 6 = .ok (.bipush 29, 2) := by decide +kernel
theorem dX8_rule_8 : decode cX8_rule 8 = .ok (.if_icmp .le 6, 3) := by decide +kernel
theorem dX8_rule_11 : decode cX8_rule 11 = .ok (.bipush (-3), 2) := by decide +kernel
theorem dX8_rule_13 : decode cX8_rule 13 = .ok (.ireturn, 1) := by decide +kernel
theorem dX8_rule_14 : decode cX8_rule 14 = .ok (.iload_n 2, 1) := by decide +kernel
theorem dX8_rule_15 : decode cX8_rule 15 = .ok (.iconst (-1), 1) := by decide +kernel
theorem dX8_rule_16 : decode cX8_rule 16 = .ok (.if_icmp .lt 8, 3) := by decide +kernel
theorem dX8_rule_19 : decode cX8_rule 19 = .ok (.iload_n 2, 1) := by decide +kernel
theorem dX8_rule_20 : decode cX8_rule 20 = .ok (.iconst 4, 1) := by decide +kernel
theorem dX8_rule_21 : decode cX8_rule 21 = .ok (.if_icmp .le 6, 3) := by decide +kernel
theorem dX8_rule_24 : decode cX8_rule 24 = .ok (.bipush (-3), 2) := by decide +kernel
theorem dX8_rule_26 : decode cX8_rule 26 = .ok (.ireturn, 1) := by decide +kernel
theorem dX8_rule_27 : decode cX8_rule 27 = .ok (.iload_n 3, 1) := by decide +kernel
theorem dX8_rule_28 : decode cX8_rule 28 = .ok (.iconst (-1), 1) := by decide +kernel
theorem dX8_rule_29 : decode cX8_rule 29 = .ok (.if_icmp .lt 9, 3) := by decide +kernel
theorem dX8_rule_32 : decode cX8_rule 32 = .ok (.iload_n 3, 1) := by decide +kernel
theorem dX8_rule_33 : decode cX8_rule 33 = .ok (.ldc 65, 2) := by decide +kernel
theorem dX8_rule_35 : decode cX8_rule 35 = .ok (.if_icmp .le 6, 3) := by decide +kernel
theorem dX8_rule_38 : decode cX8_rule 38 = .ok (.bipush (-3), 2) := by decide +kernel
theorem dX8_rule_40 : decode cX8_rule 40 = .ok (.ireturn, 1) := by decide +kernel
theorem dX8_rule_41 : decode cX8_rule 41 = .ok (.aload_n 0, 1) := by decide +kernel
theorem dX8_rule_42 : decode cX8_rule 42 = .ok (.getfield 50, 3) := by decide +kernel
theorem dX8_rule_45 : decode cX8_rule 45 = .ok (.ifCond .eq 6, 3) := by decide +kernel
theorem dX8_rule_48 : decode cX8_rule 48 = .ok (.bipush (-2), 2) := by decide +kernel
theorem dX8_rule_50 : decode cX8_rule 50 = .ok (.ireturn, 1) := by decide +kernel
theorem dX8_rule_51 : decode cX8_rule 51 = .ok (.aload_n 0, 1) := by decide +kernel
theorem dX8_rule_52 : decode cX8_rule 52 = .ok (.getfield 19, 3) := by decide +kernel
theorem dX8_rule_55 : decode cX8_rule 55 = .ok (.iload_n 1, 1) := by decide +kernel
theorem dX8_rule_56 : decode cX8_rule 56 = .ok (.iload_n 2, 1) := by decide +kernel
theorem dX8_rule_57 : decode cX8_rule 57 = .ok (.iload_n 3, 1) := by decide +kernel
theorem dX8_rule_58 : decode cX8_rule 58 = .ok (.invokevirtual 66, 3) := by decide +kernel
theorem dX8_rule_61 : decode cX8_rule 61 = .ok (.ireturn, 1) := by decide +kernel
set_option maxRecDepth 20000 in
theorem ggX8_receive_X1_forget : GoodIn wsX8_receive wsX1_forget := goodIn_r _ [9, 10, 11, 12, 13, 14, 15, 16, 17, 18, 19, 8, 20, 21, 343, 344, 345, 346, 347] (by decide +kernel) (by decide +kernel)
set_option maxRecDepth 20000 in
theorem gX8_receive_X1_forget : GoodIn wsX8_receive (wsV RX8 73 RX1 yX1_forget wsX1_forget) := goodIn_app (goodIn_of _ (by decide +kernel)) ggX8_receive_X1_forget
set_option maxRecDepth 20000 in
theorem ggX8_receive_X4_begin : GoodIn wsX8_receive wsX4_begin := goodIn_r _ [26, 27, 28, 29, 30, 31, 32, 33, 34, 35, 36, 348, 349, 350, 351, 352, 353, 354, 355, 356, 357, 358, 359, 360, 361, 362, 363, 364, 365, 366, 367, 368, 369, 370, 371, 372, 373, 374, 375, 376, 377, 378, 379] (by decide +kernel) (by decide +kernel)
set_option maxRecDepth 20000 in
theorem gX8_receive_X4_begin : GoodIn wsX8_receive (wsV RX8 76 RX4 yX4_begin wsX4_begin) := goodIn_app (goodIn_of _ (by decide +kernel)) ggX8_receive_X4_begin
set_option maxRecDepth 20000 in
theorem ggX8_receive_X4_readOn : GoodIn wsX8_receive wsX4_readOn := goodIn_r _ [40, 41, 31, 36, 33, 34, 42, 43, 44, 45, 46, 47, 48, 49, 50, 51, 52, 53, 54, 55, 25, 56, 57, 58, 59, 60, 61, 35, 62, 63, 64, 65, 32, 66, 67, 68, 69, 70, 71, 72, 73, 74, 75, 76, 77, 78, 79, 80, 81, 82, 83, 84, 85, 86, 87, 88, 89, 90, 91, 92, 8, 93, 94, 21, 12, 10, 95, 11, 96, 97, 98, 99, 100, 101, 102, 103, 29, 104, 105, 106, 107, 108, 28, 30, 109, 110, 111, 112, 113, 114, 115, 116, 117, 118, 119, 120, 121, 122, 123, 124, 125, 126, 127, 128, 129, 130, 131, 132, 133, 134, 135, 27, 136, 137, 138, 139, 140, 141, 142, 143, 144, 145, 146, 147, 148, 149, 150, 151, 152, 153, 154, 155, 156, 157, 158, 159, 160, 161, 162, 163, 164, 165, 166, 167, 168, 18, 19, 20, 13, 14, 15, 16, 169, 170, 171, 172, 173, 174, 175, 176, 177, 178, 179, 180, 181, 182, 183, 184, 185, 186, 187, 188, 189, 190, 191, 192, 193, 194, 195, 196, 197, 198, 199, 200, 201, 202, 203, 204, 205, 206, 207, 208, 209, 210, 211, 212, 213, 214, 215, 216, 217, 218, 219, 220, 221, 222, 223, 224, 225, 226, 227, 228, 229, 230, 231, 232, 233, 234, 235, 236, 237, 238, 239, 240, 241, 242, 243, 244, 245, 246, 247, 248, 249, 250, 251, 252, 253, 254, 255, 256, 257, 258, 259, 260, 261, 262, 263, 264, 265, 266, 267, 268, 269, 270, 271, 272, 273, 274, 275, 276, 277, 278, 279, 280, 281, 282, 283, 284, 285, 286, 287, 288, 289, 290, 291, 292, 293, 294, 295, 296, 297, 298, 299, 300, 301, 302, 303, 304, 305, 306, 307, 308, 309, 310, 311, 348, 349, 350, 351, 352, 353, 354, 355, 356, 357, 358, 359, 360, 361, 362, 363, 364, 365, 366, 367, 368, 369, 370, 371, 372, 373, 374, 375, 376, 377, 378, 379, 380, 381, 382, 383, 343, 344, 345, 346, 347, 384, 385, 386, 387, 388, 389, 390, 391, 392, 393, 394, 395, 396, 397, 398, 399, 400, 401, 402, 403] (by decide +kernel) (by decide +kernel)
set_option maxRecDepth 20000 in
theorem gX8_receive_X4_readOn : GoodIn wsX8_receive (wsV RX8 79 RX4 yX4_readOn wsX4_readOn) := goodIn_app (goodIn_of _ (by decide +kernel)) ggX8_receive_X4_readOn
set_option maxRecDepth 20000 in
theorem ggX8_receive_X8_conclude : GoodIn wsX8_receive wsX8_conclude := goodIn_r _ [316, 1, 317, 318, 4, 2, 319, 320, 321, 322, 323, 112, 324, 114, 115, 116, 121, 325, 326, 327, 328, 329, 330, 331, 332, 333, 334, 335, 336, 337, 338, 339, 340, 341, 342, 348, 349, 350, 351, 352, 353, 354, 355, 356, 357, 358, 359, 360, 361, 362, 363, 364, 365, 366, 384, 385, 386, 387, 388, 389, 390, 391, 392, 393] (by decide +kernel) (by decide +kernel)
set_option maxRecDepth 20000 in
theorem gX8_receive_X8_conclude : GoodIn wsX8_receive (wsV RX8 83 RX8 yX8_conclude wsX8_conclude) := goodIn_app (goodIn_of _ (by decide +kernel)) ggX8_receive_X8_conclude
theorem dX8_receive_0 : decode cX8_receive 0 = .ok (.aload_n 0, 1) := by decide +kernel
theorem dX8_receive_1 : decode cX8_receive 1 = .ok (.getfield 50, 3) := by decide +kernel
theorem dX8_receive_4 : decode cX8_receive 4 = .ok (.ifCond .eq 6, 3) := by decide +kernel
theorem dX8_receive_7 : decode cX8_receive 7 = .ok (.bipush (-2), 2) := by decide +kernel
theorem dX8_receive_9 : decode cX8_receive 9 = .ok (.ireturn, 1) := by decide +kernel
theorem dX8_receive_10 : decode cX8_receive 10 = .ok (.aload_n 0, 1) := by decide +kernel
theorem dX8_receive_11 : decode cX8_receive 11 = .ok (.dup, 1) := by decide +kernel
theorem dX8_receive_12 : decode cX8_receive 12 = .ok (.getfield 70, 3) := by decide +kernel
theorem dX8_receive_15 : decode cX8_receive 15 = .ok (.iconst 1, 1) := by decide +kernel
theorem dX8_receive_16 : decode cX8_receive 16 = .ok (.iadd, 1) := by decide +kernel
theorem dX8_receive_17 : decode cX8_receive 17 = .ok (.putfield 70, 3) := by decide +kernel
theorem dX8_receive_20 : decode cX8_receive 20 = .ok (.aload_n 0, 1) := by decide +kernel
theorem dX8_receive_21 : decode cX8_receive 21 = .ok (.getfield 26, 3) := by decide +kernel
theorem dX8_receive_24 : decode cX8_receive 24 = .ok (.invokevirtual 73, 3) := by decide +kernel
theorem dX8_receive_27 : decode cX8_receive 27 = .ok (.aload_n 0, 1) := by decide +kernel
theorem dX8_receive_28 : decode cX8_receive 28 = .ok (.getfield 42, 3) := by decide +kernel
theorem dX8_receive_31 : decode cX8_receive 31 = .ok (.invokevirtual 76, 3) := by decide +kernel
theorem dX8_receive_34 : decode cX8_receive 34 = .ok (.aload_n 0, 1) := by decide +kernel
theorem dX8_receive_35 : decode cX8_receive 35 = .ok (.aload_n 0, 1) := by decide +kernel
theorem dX8_receive_36 : decode cX8_receive 36 = .ok (.getfield 42, 3) := by decide +kernel
theorem dX8_receive_39 : decode cX8_receive 39 = .ok (.invokevirtual 79, 3) := by decide +kernel
theorem dX8_receive_42 : decode cX8_receive 42 = .ok (.invokevirtual 83, 3) := by decide +kernel
theorem dX8_receive_45 : decode cX8_receive 45 = .ok (.ireturn, 1) := by decide +kernel
set_option maxRecDepth 20000 in
theorem ggX8_resume_X4_readOn : GoodIn wsX8_resume wsX4_readOn := goodIn_r _ [7, 8, 9, 10, 11, 12, 13, 14, 15, 16, 17, 18, 19, 20, 21, 22, 23, 24, 25, 26, 6, 27, 28, 29, 30, 31, 32, 33, 34, 35, 36, 37, 38, 39, 40, 41, 42, 43, 44, 45, 46, 47, 48, 49, 50, 51, 52, 53, 54, 55, 56, 57, 58, 59, 60, 61, 62, 63, 64, 65, 66, 67, 68, 69, 70, 71, 72, 73, 74, 75, 76, 77, 78, 79, 80, 81, 82, 83, 84, 85, 86, 87, 88, 89, 90, 91, 92, 93, 94, 95, 96, 97, 98, 99, 100, 101, 102, 103, 104, 105, 106, 107, 108, 109, 110, 111, 112, 113, 114, 115, 116, 117, 118, 119, 120, 121, 122, 123, 124, 125, 126, 127, 128, 129, 130, 131, 132, 133, 134, 135, 136, 137, 138, 139, 140, 141, 142, 143, 144, 145, 146, 147, 148, 149, 150, 151, 152, 153, 154, 155, 156, 157, 158, 159, 160, 161, 162, 163, 164, 165, 166, 167, 168, 169, 170, 171, 172, 173, 174, 175, 176, 177, 178, 179, 180, 181, 182, 183, 184, 185, 186, 187, 188, 189, 190, 191, 192, 193, 194, 195, 196, 197, 198, 199, 200, 201, 202, 203, 204, 205, 206, 207, 208, 209, 210, 211, 212, 213, 214, 215, 216, 217, 218, 219, 220, 221, 222, 223, 224, 225, 226, 227, 228, 229, 230, 231, 232, 233, 234, 235, 236, 237, 238, 239, 240, 241, 242, 243, 244, 245, 246, 247, 248, 249, 250, 251, 252, 253, 254, 255, 256, 257, 258, 259, 260, 261, 262, 263, 264, 265, 266, 267, 268, 269, 270, 271, 272, 273, 274, 275, 276, 277, 278, 279, 280, 281, 282, 283, 284, 285, 286, 287, 288, 289, 290, 291, 292, 293, 294, 295, 296, 297, 298, 299, 300, 333, 334, 335, 336, 337, 338, 339, 340, 341, 342, 343, 344, 345, 346, 347, 348, 349, 350, 351, 352, 353, 354, 355, 356, 357, 358, 359, 360, 361, 362, 363, 364, 365, 366, 367, 368, 369, 370, 371, 372, 373, 374, 375, 376, 377, 378, 379, 380, 381, 382, 383, 384, 385, 386, 387, 388, 389, 390, 391, 392, 393] (by decide +kernel) (by decide +kernel)
set_option maxRecDepth 20000 in
theorem gX8_resume_X4_readOn : GoodIn wsX8_resume (wsV RX8 79 RX4 yX4_readOn wsX4_readOn) := goodIn_app (goodIn_of _ (by decide +kernel)) ggX8_resume_X4_readOn
set_option maxRecDepth 20000 in
theorem ggX8_resume_X8_conclude : GoodIn wsX8_resume wsX8_conclude := goodIn_r _ [305, 1, 306, 307, 2, 308, 309, 310, 311, 312, 313, 93, 314, 95, 96, 97, 102, 315, 316, 317, 318, 319, 320, 321, 322, 323, 324, 325, 326, 327, 328, 329, 330, 331, 332, 333, 334, 335, 336, 337, 338, 339, 340, 341, 342, 343, 344, 345, 346, 347, 348, 349, 350, 351, 374, 375, 376, 377, 378, 379, 380, 381, 382, 383] (by decide +kernel) (by decide +kernel)
set_option maxRecDepth 20000 in
theorem gX8_resume_X8_conclude : GoodIn wsX8_resume (wsV RX8 83 RX8 yX8_conclude wsX8_conclude) := goodIn_app (goodIn_of _ (by decide +kernel)) ggX8_resume_X8_conclude
theorem dX8_resume_0 : decode cX8_resume 0 = .ok (.aload_n 0, 1) := by decide +kernel
theorem dX8_resume_1 : decode cX8_resume 1 = .ok (.getfield 50, 3) := by decide +kernel
theorem dX8_resume_4 : decode cX8_resume 4 = .ok (.ifCond .ne 5, 3) := by decide +kernel
theorem dX8_resume_7 : decode cX8_resume 7 = .ok (.iconst (-1), 1) := by decide +kernel
theorem dX8_resume_8 : decode cX8_resume 8 = .ok (.ireturn, 1) := by decide +kernel
theorem dX8_resume_9 : decode cX8_resume 9 = .ok (.aload_n 0, 1) := by decide +kernel
theorem dX8_resume_10 : decode cX8_resume 10 = .ok (.iconst 0, 1) := by decide +kernel
theorem dX8_resume_11 : decode cX8_resume 11 = .ok (.putfield 50, 3) := by decide +kernel
theorem dX8_resume_14 : decode cX8_resume 14 = .ok (.aload_n 0, 1) := by decide +kernel
theorem dX8_resume_15 : decode cX8_resume 15 = .ok (.aload_n 0, 1) := by decide +kernel
theorem dX8_resume_16 : decode cX8_resume 16 = .ok (.getfield 42, 3) := by decide +kernel
theorem dX8_resume_19 : decode cX8_resume 19 = .ok (.invokevirtual 79, 3) := by decide +kernel
theorem dX8_resume_22 : decode cX8_resume 22 = .ok (.invokevirtual 83, 3) := by decide +kernel
theorem dX8_resume_25 : decode cX8_resume 25 = .ok (.ireturn, 1) := by decide +kernel
theorem dX8_drop_0 : decode cX8_drop 0 = .ok (.aload_n 0, 1) := by decide +kernel
theorem dX8_drop_1 : decode cX8_drop 1 = .ok (.getfield 50, 3) := by decide +kernel
theorem dX8_drop_4 : decode cX8_drop 4 = .ok (.ifCond .ne 5, 3) := by decide +kernel
theorem dX8_drop_7 : decode cX8_drop 7 = .ok (.iconst (-1), 1) := by decide +kernel
theorem dX8_drop_8 : decode cX8_drop 8 = .ok (.ireturn, 1) := by decide +kernel
theorem dX8_drop_9 : decode cX8_drop 9 = .ok (.aload_n 0, 1) := by decide +kernel
theorem dX8_drop_10 : decode cX8_drop 10 = .ok (.iconst 0, 1) := by decide +kernel
theorem dX8_drop_11 : decode cX8_drop 11 = .ok (.putfield 50, 3) := by decide +kernel
theorem dX8_drop_14 : decode cX8_drop 14 = .ok (.aload_n 0, 1) := by decide +kernel
theorem dX8_drop_15 : decode cX8_drop 15 = .ok (.dup, 1) := by decide +kernel
theorem dX8_drop_16 : decode cX8_drop 16 = .ok (.getfield 87, 3) := by decide +kernel
theorem dX8_drop_19 : decode cX8_drop 19 = .ok (.iconst 1, 1) := by decide +kernel
theorem dX8_drop_20 : decode cX8_drop 20 = .ok (.iadd, 1) := by decide +kernel
theorem dX8_drop_21 : decode cX8_drop 21 = .ok (.putfield 87, 3) := by decide +kernel
theorem dX8_drop_24 : decode cX8_drop 24 = .ok (.aload_n 0, 1) := by decide +kernel
theorem dX8_drop_25 : decode cX8_drop 25 = .ok (.getfield 42, 3) := by decide +kernel
theorem dX8_drop_28 : decode cX8_drop 28 = .ok (.getfield 90, 3) := by decide +kernel
theorem dX8_drop_31 : decode cX8_drop 31 = .ok (.ireturn, 1) := by decide +kernel
theorem dX8_failures_0 : decode cX8_failures 0 = .ok (.aload_n 0, 1) := by decide +kernel
theorem dX8_failures_1 : decode cX8_failures 1 = .ok (.getfield 26, 3) := by decide +kernel
theorem dX8_failures_4 : decode cX8_failures 4 = .ok (.getfield 93, 3) := by decide +kernel
theorem dX8_failures_7 : decode cX8_failures 7 = .ok (.ireturn, 1) := by decide +kernel
set_option maxRecDepth 20000 in
theorem ggX8_failure_X1_tell : GoodIn wsX8_failure wsX1_tell := goodIn_r _ [6, 7, 8, 9, 10, 5, 11, 12, 23, 24, 25, 26, 27] (by decide +kernel) (by decide +kernel)
set_option maxRecDepth 20000 in
theorem gX8_failure_X1_tell : GoodIn wsX8_failure (wsV RX8 96 RX1 yX1_tell wsX1_tell) := goodIn_app (goodIn_of _ (by decide +kernel)) ggX8_failure_X1_tell
theorem dX8_failure_0 : decode cX8_failure 0 = .ok (.aload_n 0, 1) := by decide +kernel
theorem dX8_failure_1 : decode cX8_failure 1 = .ok (.getfield 26, 3) := by decide +kernel
theorem dX8_failure_4 : decode cX8_failure 4 = .ok (.iload_n 1, 1) := by decide +kernel
theorem dX8_failure_5 : decode cX8_failure 5 = .ok (.iload_n 2, 1) := by decide +kernel
theorem dX8_failure_6 : decode cX8_failure 6 = .ok (.invokevirtual 96, 3) := by decide +kernel
theorem dX8_failure_9 : decode cX8_failure 9 = .ok (.ireturn, 1) := by decide +kernel
set_option maxRecDepth 20000 in
theorem ggX8_many_X5_isWithin : GoodIn wsX8_many wsX5_isWithin := goodIn_r _ [7, 8] (by decide +kernel) (by decide +kernel)
set_option maxRecDepth 20000 in
theorem gX8_many_X5_isWithin : GoodIn wsX8_many (wsV RX8 100 RX5 yX5_isWithin wsX5_isWithin) := goodIn_app (goodIn_of _ (by decide +kernel)) ggX8_many_X5_isWithin
set_option maxRecDepth 20000 in
theorem ggX8_many_X1_ofKind : GoodIn wsX8_many wsX1_ofKind := goodIn_r _ [13, 14, 25, 26, 27, 28, 29] (by decide +kernel) (by decide +kernel)
set_option maxRecDepth 20000 in
theorem gX8_many_X1_ofKind : GoodIn wsX8_many (wsV RX8 104 RX1 yX1_ofKind wsX1_ofKind) := goodIn_app (goodIn_of _ (by decide +kernel)) ggX8_many_X1_ofKind
theorem dX8_many_0 : decode cX8_many 0 = .ok (.iload_n 1, 1) := by decide +kernel
theorem dX8_many_1 : decode cX8_many 1 = .ok (.iconst 1, 1) := by decide +kernel
theorem dX8_many_2 : decode cX8_many 2 = .ok (.if_icmp .lt 9, 3) := by decide +kernel
theorem dX8_many_5 : decode cX8_many 5 = .ok (.iload_n 1, 1) := by decide +kernel
theorem dX8_many_6 : decode cX8_many 6 = .ok (.bipush 29, 2) := by decide +kernel
theorem dX8_many_8 : decode cX8_many 8 = .ok (.if_icmp .le 5, 3) := by decide +kernel
theorem dX8_many_11 : decode cX8_many 11 = .ok (.iconst (-1), 1) := by decide +kernel
theorem dX8_many_12 : decode cX8_many 12 = .ok (.ireturn, 1) := by decide +kernel
theorem dX8_many_13 : decode cX8_many 13 = .ok (.iconst 0, 1) := by decide +kernel
theorem dX8_many_14 : decode cX8_many 14 = .ok (.istore_n 2, 1) := by decide +kernel
theorem dX8_many_15 : decode cX8_many 15 = .ok (.iconst 1, 1) := by decide +kernel
theorem dX8_many_16 : decode cX8_many 16 = .ok (.istore_n 3, 1) := by decide +kernel
theorem dX8_many_17 : decode cX8_many 17 = .ok (.iload_n 3, 1) := by decide +kernel
theorem dX8_many_18 : decode cX8_many 18 = .ok (.bipush 21, 2) := by decide +kernel
theorem dX8_many_20 : decode cX8_many 20 = .ok (.if_icmp .gt 32, 3) := by decide +kernel
theorem dX8_many_23 : decode cX8_many 23 = .ok (.aload_n 0, 1) := by decide +kernel
theorem dX8_many_24 : decode cX8_many 24 = .ok (.getfield 19, 3) := by decide +kernel
theorem dX8_many_27 : decode cX8_many 27 = .ok (.iload_n 3, 1) := by decide +kernel
theorem dX8_many_28 : decode cX8_many 28 = .ok (.iload_n 1, 1) := by decide +kernel
theorem dX8_many_29 : decode cX8_many 29 = .ok (.invokevirtual 100, 3) := by decide +kernel
theorem dX8_many_32 : decode cX8_many 32 = .ok (.ifCond .eq 14, 3) := by decide +kernel
theorem dX8_many_35 : decode cX8_many 35 = .ok (.iload_n 2, 1) := by decide +kernel
theorem dX8_many_36 : decode cX8_many 36 = .ok (.aload_n 0, 1) := by decide +kernel
theorem dX8_many_37 : decode cX8_many 37 = .ok (.getfield 26, 3) := by decide +kernel
theorem dX8_many_40 : decode cX8_many 40 = .ok (.iload_n 3, 1) := by decide +kernel
theorem dX8_many_41 : decode cX8_many 41 = .ok (.invokevirtual 104, 3) := by decide +kernel
theorem dX8_many_44 : decode cX8_many 44 = .ok (.iadd, 1) := by decide +kernel
theorem dX8_many_45 : decode cX8_many 45 = .ok (.istore_n 2, 1) := by decide +kernel
theorem dX8_many_46 : decode cX8_many 46 = .ok (.iinc 3 1, 3) := by decide +kernel
theorem dX8_many_49 : decode cX8_many 49 = .ok (.goto (-32), 3) := by decide +kernel
theorem dX8_many_52 : decode cX8_many 52 = .ok (.iload_n 2, 1) := by decide +kernel
theorem dX8_many_53 : decode cX8_many 53 = .ok (.ireturn, 1) := by decide +kernel
set_option maxRecDepth 20000 in
theorem ggX8_depth_X1_causesBelow : GoodIn wsX8_depth wsX1_causesBelow := goodIn_r _ [6, 7, 8, 9, 10, 5, 11, 12, 23, 24, 25, 26, 27] (by decide +kernel) (by decide +kernel)
set_option maxRecDepth 20000 in
theorem gX8_depth_X1_causesBelow : GoodIn wsX8_depth (wsV RX8 107 RX1 yX1_causesBelow wsX1_causesBelow) := goodIn_app (goodIn_of _ (by decide +kernel)) ggX8_depth_X1_causesBelow
theorem dX8_depth_0 : decode cX8_depth 0 = .ok (.aload_n 0, 1) := by decide +kernel
theorem dX8_depth_1 : decode cX8_depth 1 = .ok (.getfield 26, 3) := by decide +kernel
theorem dX8_depth_4 : decode cX8_depth 4 = .ok (.iload_n 1, 1) := by decide +kernel
theorem dX8_depth_5 : decode cX8_depth 5 = .ok (.invokevirtual 107, 3) := by decide +kernel
theorem dX8_depth_8 : decode cX8_depth 8 = .ok (.ireturn, 1) := by decide +kernel
theorem dX8_sheet_0 : decode cX8_sheet 0 = .ok (.iload_n 1, 1) := by decide +kernel
theorem dX8_sheet_1 : decode cX8_sheet 1 = .ok (.tableswitch 75 0 4 #[35, 43, 51, 59, 67], 35) := by decide +kernel
theorem dX8_sheet_36 : decode cX8_sheet 36 = .ok (.aload_n 0, 1) := by decide +kernel
theorem dX8_sheet_37 : decode cX8_sheet 37 = .ok (.getfield 42, 3) := by decide +kernel
theorem dX8_sheet_40 : decode cX8_sheet 40 = .ok (.getfield 110, 3) := by decide +kernel
theorem dX8_sheet_43 : decode cX8_sheet 43 = .ok (.ireturn, 1) := by decide +kernel
theorem dX8_sheet_44 : decode cX8_sheet 44 = .ok (.aload_n 0, 1) := by decide +kernel
theorem dX8_sheet_45 : decode cX8_sheet 45 = .ok (.getfield 42, 3) := by decide +kernel
theorem dX8_sheet_48 : decode cX8_sheet 48 = .ok (.getfield 90, 3) := by decide +kernel
theorem dX8_sheet_51 : decode cX8_sheet 51 = .ok (.ireturn, 1) := by decide +kernel
theorem dX8_sheet_52 : decode cX8_sheet 52 = .ok (.aload_n 0, 1) := by decide +kernel
theorem dX8_sheet_53 : decode cX8_sheet 53 = .ok (.getfield 42, 3) := by decide +kernel
theorem dX8_sheet_56 : decode cX8_sheet 56 = .ok (.getfield 113, 3) := by decide +kernel
theorem dX8_sheet_59 : decode cX8_sheet 59 = .ok (.ireturn, 1) := by decide +kernel
theorem dX8_sheet_60 : decode cX8_sheet 60 = .ok (.aload_n 0, 1) := by decide +kernel
theorem dX8_sheet_61 : decode cX8_sheet 61 = .ok (.getfield 42, 3) := by decide +kernel
theorem dX8_sheet_64 : decode cX8_sheet 64 = .ok (.getfield 116, 3) := by decide +kernel
theorem dX8_sheet_67 : decode cX8_sheet 67 = .ok (.ireturn, 1) := by decide +kernel
theorem dX8_sheet_68 : decode cX8_sheet 68 = .ok (.aload_n 0, 1) := by decide +kernel
theorem dX8_sheet_69 : decode cX8_sheet 69 = .ok (.getfield 42, 3) := by decide +kernel
theorem dX8_sheet_72 : decode cX8_sheet 72 = .ok (.getfield 119, 3) := by decide +kernel
theorem dX8_sheet_75 : decode cX8_sheet 75 = .ok (.ireturn, 1) := by decide +kernel
theorem dX8_sheet_76 : decode cX8_sheet 76 = .ok (.iconst (-1), 1) := by decide +kernel
theorem dX8_sheet_77 : decode cX8_sheet 77 = .ok (.ireturn, 1) := by decide +kernel
theorem dX8_sum_0 : decode cX8_sum 0 = .ok (.iload_n 1, 1) := by decide +kernel
theorem dX8_sum_1 : decode cX8_sum 1 = .ok (.tableswitch 114 0 8 #[51, 59, 67, 75, 83, 91, 99, 104, 109], 51) := by decide +kernel
theorem dX8_sum_52 : decode cX8_sum 52 = .ok (.aload_n 0, 1) := by decide +kernel
theorem dX8_sum_53 : decode cX8_sum 53 = .ok (.getfield 33, 3) := by decide +kernel
theorem dX8_sum_56 : decode cX8_sum 56 = .ok (.getfield 122, 3) := by decide +kernel
theorem dX8_sum_59 : decode cX8_sum 59 = .ok (.ireturn, 1) := by decide +kernel
theorem dX8_sum_60 : decode cX8_sum 60 = .ok (.aload_n 0, 1) := by decide +kernel
theorem dX8_sum_61 : decode cX8_sum 61 = .ok (.getfield 33, 3) := by decide +kernel
theorem dX8_sum_64 : decode cX8_sum 64 = .ok (.getfield 125, 3) := by decide +kernel
theorem dX8_sum_67 : decode cX8_sum 67 = .ok (.ireturn, 1) := by decide +kernel
theorem dX8_sum_68 : decode cX8_sum 68 = .ok (.aload_n 0, 1) := by decide +kernel
theorem dX8_sum_69 : decode cX8_sum 69 = .ok (.getfield 33, 3) := by decide +kernel
theorem dX8_sum_72 : decode cX8_sum 72 = .ok (.getfield 128, 3) := by decide +kernel
theorem dX8_sum_75 : decode cX8_sum 75 = .ok (.ireturn, 1) := by decide +kernel
theorem dX8_sum_76 : decode cX8_sum 76 = .ok (.aload_n 0, 1) := by decide +kernel
theorem dX8_sum_77 : decode cX8_sum 77 = .ok (.getfield 33, 3) := by decide +kernel
theorem dX8_sum_80 : decode cX8_sum 80 = .ok (.getfield 131, 3) := by decide +kernel
theorem dX8_sum_83 : decode cX8_sum 83 = .ok (.ireturn, 1) := by decide +kernel
theorem dX8_sum_84 : decode cX8_sum 84 = .ok (.aload_n 0, 1) := by decide +kernel
theorem dX8_sum_85 : decode cX8_sum 85 = .ok (.getfield 33, 3) := by decide +kernel
theorem dX8_sum_88 : decode cX8_sum 88 = .ok (.getfield 134, 3) := by decide +kernel
theorem dX8_sum_91 : decode cX8_sum 91 = .ok (.ireturn, 1) := by decide +kernel
theorem dX8_sum_92 : decode cX8_sum 92 = .ok (.aload_n 0, 1) := by decide +kernel
theorem dX8_sum_93 : decode cX8_sum 93 = .ok (.getfield 33, 3) := by decide +kernel
theorem dX8_sum_96 : decode cX8_sum 96 = .ok (.getfield 137, 3) := by decide +kernel
theorem dX8_sum_99 : decode cX8_sum 99 = .ok (.ireturn, 1) := by decide +kernel
theorem dX8_sum_100 : decode cX8_sum 100 = .ok (.aload_n 0, 1) := by decide +kernel
theorem dX8_sum_101 : decode cX8_sum 101 = .ok (.getfield 140, 3) := by decide +kernel
theorem dX8_sum_104 : decode cX8_sum 104 = .ok (.ireturn, 1) := by decide +kernel
theorem dX8_sum_105 : decode cX8_sum 105 = .ok (.aload_n 0, 1) := by decide +kernel
theorem dX8_sum_106 : decode cX8_sum 106 = .ok (.getfield 87, 3) := by decide +kernel
theorem dX8_sum_109 : decode cX8_sum 109 = .ok (.ireturn, 1) := by decide +kernel
theorem dX8_sum_110 : decode cX8_sum 110 = .ok (.aload_n 0, 1) := by decide +kernel
theorem dX8_sum_111 : decode cX8_sum 111 = .ok (.getfield 143, 3) := by decide +kernel
theorem dX8_sum_114 : decode cX8_sum 114 = .ok (.ireturn, 1) := by decide +kernel
theorem dX8_sum_115 : decode cX8_sum 115 = .ok (.iconst (-1), 1) := by decide +kernel
theorem dX8_sum_116 : decode cX8_sum 116 = .ok (.ireturn, 1) := by decide +kernel
set_option maxRecDepth 20000 in
theorem ggX8_house_X0_tellHousehold : GoodIn wsX8_house wsX0_tellHousehold := goodIn_r _ [6, 7, 8, 19, 20, 21, 22, 23, 24, 25, 26, 27, 28] (by decide +kernel) (by decide +kernel)
set_option maxRecDepth 20000 in
theorem gX8_house_X0_tellHousehold : GoodIn wsX8_house (wsV RX8 146 RX0 yX0_tellHousehold wsX0_tellHousehold) := goodIn_app (goodIn_of _ (by decide +kernel)) ggX8_house_X0_tellHousehold
theorem dX8_house_0 : decode cX8_house 0 = .ok (.aload_n 0, 1) := by decide +kernel
theorem dX8_house_1 : decode cX8_house 1 = .ok (.getfield 33, 3) := by decide +kernel
theorem dX8_house_4 : decode cX8_house 4 = .ok (.iload_n 1, 1) := by decide +kernel
theorem dX8_house_5 : decode cX8_house 5 = .ok (.iload_n 2, 1) := by decide +kernel
theorem dX8_house_6 : decode cX8_house 6 = .ok (.invokevirtual 146, 3) := by decide +kernel
theorem dX8_house_9 : decode cX8_house 9 = .ok (.ireturn, 1) := by decide +kernel
set_option maxRecDepth 20000 in
theorem ggX8_person_X0_tellPerson : GoodIn wsX8_person wsX0_tellPerson := goodIn_r _ [6, 7, 8, 19, 20, 21, 22, 23, 24, 25, 26, 27, 28] (by decide +kernel) (by decide +kernel)
set_option maxRecDepth 20000 in
theorem gX8_person_X0_tellPerson : GoodIn wsX8_person (wsV RX8 149 RX0 yX0_tellPerson wsX0_tellPerson) := goodIn_app (goodIn_of _ (by decide +kernel)) ggX8_person_X0_tellPerson
theorem dX8_person_0 : decode cX8_person 0 = .ok (.aload_n 0, 1) := by decide +kernel
theorem dX8_person_1 : decode cX8_person 1 = .ok (.getfield 33, 3) := by decide +kernel
theorem dX8_person_4 : decode cX8_person 4 = .ok (.iload_n 1, 1) := by decide +kernel
theorem dX8_person_5 : decode cX8_person 5 = .ok (.iload_n 2, 1) := by decide +kernel
theorem dX8_person_6 : decode cX8_person 6 = .ok (.invokevirtual 149, 3) := by decide +kernel
theorem dX8_person_9 : decode cX8_person 9 = .ok (.ireturn, 1) := by decide +kernel
set_option maxRecDepth 20000 in
theorem ggX8_sign_X0_signOf : GoodIn wsX8_sign wsX0_signOf := goodIn_r _ [6, 7, 8, 9, 10, 5, 11, 12, 13, 24, 25, 26, 27, 28, 29, 30, 31, 32, 33] (by decide +kernel) (by decide +kernel)
set_option maxRecDepth 20000 in
theorem gX8_sign_X0_signOf : GoodIn wsX8_sign (wsV RX8 152 RX0 yX0_signOf wsX0_signOf) := goodIn_app (goodIn_of _ (by decide +kernel)) ggX8_sign_X0_signOf
theorem dX8_sign_0 : decode cX8_sign 0 = .ok (.aload_n 0, 1) := by decide +kernel
theorem dX8_sign_1 : decode cX8_sign 1 = .ok (.getfield 33, 3) := by decide +kernel
theorem dX8_sign_4 : decode cX8_sign 4 = .ok (.iload_n 1, 1) := by decide +kernel
theorem dX8_sign_5 : decode cX8_sign 5 = .ok (.iload_n 2, 1) := by decide +kernel
theorem dX8_sign_6 : decode cX8_sign 6 = .ok (.invokevirtual 152, 3) := by decide +kernel
theorem dX8_sign_9 : decode cX8_sign 9 = .ok (.ireturn, 1) := by decide +kernel
set_option maxRecDepth 20000 in
theorem ggX8_named_X0_countNamed : GoodIn wsX8_named wsX0_countNamed := goodIn_r _ [6, 7, 8, 9, 10, 5, 11, 12, 13, 14, 15, 16, 17, 18, 19, 20, 21, 22, 23, 24, 25, 26, 27, 28, 29, 30, 41, 42, 43, 44, 45, 46, 47, 48, 49, 50] (by decide +kernel) (by decide +kernel)
set_option maxRecDepth 20000 in
theorem gX8_named_X0_countNamed : GoodIn wsX8_named (wsV RX8 155 RX0 yX0_countNamed wsX0_countNamed) := goodIn_app (goodIn_of _ (by decide +kernel)) ggX8_named_X0_countNamed
theorem dX8_named_0 : decode cX8_named 0 = .ok (.aload_n 0, 1) := by decide +kernel
theorem dX8_named_1 : decode cX8_named 1 = .ok (.getfield 33, 3) := by decide +kernel
theorem dX8_named_4 : decode cX8_named 4 = .ok (.iload_n 1, 1) := by decide +kernel
theorem dX8_named_5 : decode cX8_named 5 = .ok (.iload_n 2, 1) := by decide +kernel
theorem dX8_named_6 : decode cX8_named 6 = .ok (.iload_n 3, 1) := by decide +kernel
theorem dX8_named_7 : decode cX8_named 7 = .ok (.iload 4, 2) := by decide +kernel
theorem dX8_named_9 : decode cX8_named 9 = .ok (.invokevirtual 155, 3) := by decide +kernel
theorem dX8_named_12 : decode cX8_named 12 = .ok (.ireturn, 1) := by decide +kernel
set_option maxRecDepth 20000 in
theorem ggX8_audit_X0_disagreements : GoodIn wsX8_audit wsX0_disagreements := goodIn_r _ [11, 12, 13, 14, 15, 16, 17, 18, 19, 10, 20, 21, 22, 23, 24, 25, 26, 37, 38, 39, 40, 41, 42, 43, 44, 45, 46] (by decide +kernel) (by decide +kernel)
set_option maxRecDepth 20000 in
theorem gX8_audit_X0_disagreements : GoodIn wsX8_audit (wsV RX8 159 RX0 yX0_disagreements wsX0_disagreements) := goodIn_app (goodIn_of _ (by decide +kernel)) ggX8_audit_X0_disagreements
theorem dX8_audit_0 : decode cX8_audit 0 = .ok (.aload_n 0, 1) := by decide +kernel
theorem dX8_audit_1 : decode cX8_audit 1 = .ok (.getfield 33, 3) := by decide +kernel
theorem dX8_audit_4 : decode cX8_audit 4 = .ok (.invokevirtual 159, 3) := by decide +kernel
theorem dX8_audit_7 : decode cX8_audit 7 = .ok (.istore_n 1, 1) := by decide +kernel
theorem dX8_audit_8 : decode cX8_audit 8 = .ok (.aload_n 0, 1) := by decide +kernel
theorem dX8_audit_9 : decode cX8_audit 9 = .ok (.getfield 140, 3) := by decide +kernel
theorem dX8_audit_12 : decode cX8_audit 12 = .ok (.aload_n 0, 1) := by decide +kernel
theorem dX8_audit_13 : decode cX8_audit 13 = .ok (.getfield 87, 3) := by decide +kernel
theorem dX8_audit_16 : decode cX8_audit 16 = .ok (.iadd, 1) := by decide +kernel
theorem dX8_audit_17 : decode cX8_audit 17 = .ok (.aload_n 0, 1) := by decide +kernel
theorem dX8_audit_18 : decode cX8_audit 18 = .ok (.getfield 143, 3) := by decide +kernel
theorem dX8_audit_21 : decode cX8_audit 21 = .ok (.iadd, 1) := by decide +kernel
theorem dX8_audit_22 : decode cX8_audit 22 = .ok (.aload_n 0, 1) := by decide +kernel
theorem dX8_audit_23 : decode cX8_audit 23 = .ok (.getfield 50, 3) := by decide +kernel
theorem dX8_audit_26 : decode cX8_audit 26 = .ok (.ifCond .eq 7, 3) := by decide +kernel
theorem dX8_audit_29 : decode cX8_audit 29 = .ok (.iconst 1, 1) := by decide +kernel
theorem dX8_audit_30 : decode cX8_audit 30 = .ok (.goto 4, 3) := by decide +kernel
theorem dX8_audit_33 : decode cX8_audit 33 = .ok (.iconst 0, 1) := by decide +kernel
theorem dX8_audit_34 : decode cX8_audit 34 = .ok (.iadd, 1) := by decide +kernel
theorem dX8_audit_35 : decode cX8_audit 35 = .ok (.istore_n 2, 1) := by decide +kernel
theorem dX8_audit_36 : decode cX8_audit 36 = .ok (.iload_n 2, 1) := by decide +kernel
theorem dX8_audit_37 : decode cX8_audit 37 = .ok (.aload_n 0, 1) := by decide +kernel
theorem dX8_audit_38 : decode cX8_audit 38 = .ok (.getfield 70, 3) := by decide +kernel
theorem dX8_audit_41 : decode cX8_audit 41 = .ok (.if_icmp .ne 7, 3) := by decide +kernel
theorem dX8_audit_44 : decode cX8_audit 44 = .ok (.iload_n 1, 1) := by decide +kernel
theorem dX8_audit_45 : decode cX8_audit 45 = .ok (.goto 6, 3) := by decide +kernel
theorem dX8_audit_48 : decode cX8_audit 48 = .ok (.iload_n 1, 1) := by decide +kernel
theorem dX8_audit_49 : decode cX8_audit 49 = .ok (.iconst 1, 1) := by decide +kernel
theorem dX8_audit_50 : decode cX8_audit 50 = .ok (.iadd, 1) := by decide +kernel
theorem dX8_audit_51 : decode cX8_audit 51 = .ok (.ireturn, 1) := by decide +kernel
set_option maxRecDepth 20000 in
theorem ggX8_conclude_X0_enter : GoodIn wsX8_conclude wsX0_enter := goodIn_r _ [12, 13, 14, 15, 16, 17, 18, 19, 11, 20, 21, 22, 23, 24, 54, 55, 56, 57, 58, 59, 60, 61, 62, 63] (by decide +kernel) (by decide +kernel)
set_option maxRecDepth 20000 in
theorem gX8_conclude_X0_enter : GoodIn wsX8_conclude (wsV RX8 162 RX0 yX0_enter wsX0_enter) := goodIn_app (goodIn_of _ (by decide +kernel)) ggX8_conclude_X0_enter
theorem dX8_conclude_0 : decode cX8_conclude 0 = .ok (.iload_n 1, 1) := by decide +kernel
theorem dX8_conclude_1 : decode cX8_conclude 1 = .ok (.iconst 2, 1) := by decide +kernel
theorem dX8_conclude_2 : decode cX8_conclude 2 = .ok (.if_icmp .ne 10, 3) := by decide +kernel
theorem dX8_conclude_5 : decode cX8_conclude 5 = .ok (.aload_n 0, 1) := by decide +kernel
theorem dX8_conclude_6 : decode cX8_conclude 6 = .ok (.iconst 1, 1) := by decide +kernel
theorem dX8_conclude_7 : decode cX8_conclude 7 = .ok (.putfield 50, 3) := by decide +kernel
theorem dX8_conclude_10 : decode cX8_conclude 10 = .ok (.iconst 2, 1) := by decide +kernel
theorem dX8_conclude_11 : decode cX8_conclude 11 = .ok (.ireturn, 1) := by decide +kernel
theorem dX8_conclude_12 : decode cX8_conclude 12 = .ok (.iload_n 1, 1) := by decide +kernel
theorem dX8_conclude_13 : decode cX8_conclude 13 = .ok (.iconst 1, 1) := by decide +kernel
theorem dX8_conclude_14 : decode cX8_conclude 14 = .ok (.if_icmp .ne 15, 3) := by decide +kernel
theorem dX8_conclude_17 : decode cX8_conclude 17 = .ok (.aload_n 0, 1) := by decide +kernel
theorem dX8_conclude_18 : decode cX8_conclude 18 = .ok (.dup, 1) := by decide +kernel
theorem dX8_conclude_19 : decode cX8_conclude 19 = .ok (.getfield 87, 3) := by decide +kernel
theorem dX8_conclude_22 : decode cX8_conclude 22 = .ok (.iconst 1, 1) := by decide +kernel
theorem dX8_conclude_23 : decode cX8_conclude 23 = .ok (.iadd, 1) := by decide +kernel
theorem dX8_conclude_24 : decode cX8_conclude 24 = .ok (.putfield 87, 3) := by decide +kernel
theorem dX8_conclude_27 : decode cX8_conclude 27 = .ok (.iconst 1, 1) := by decide +kernel
theorem dX8_conclude_28 : decode cX8_conclude 28 = .ok (.ireturn, 1) := by decide +kernel
theorem dX8_conclude_29 : decode cX8_conclude 29 = .ok (.aload_n 0, 1) := by decide +kernel
theorem dX8_conclude_30 : decode cX8_conclude 30 = .ok (.getfield 33, 3) := by decide +kernel
theorem dX8_conclude_33 : decode cX8_conclude 33 = .ok (.aload_n 0, 1) := by decide +kernel
theorem dX8_conclude_34 : decode cX8_conclude 34 = .ok (.getfield 42, 3) := by decide +kernel
theorem dX8_conclude_37 : decode cX8_conclude 37 = .ok (.getfield 90, 3) := by decide +kernel
theorem dX8_conclude_40 : decode cX8_conclude 40 = .ok (.aload_n 0, 1) := by decide +kernel
theorem dX8_conclude_41 : decode cX8_conclude 41 = .ok (.getfield 42, 3) := by decide +kernel
theorem dX8_conclude_44 : decode cX8_conclude 44 = .ok (.getfield 116, 3) := by decide +kernel
theorem dX8_conclude_47 : decode cX8_conclude 47 = .ok (.aload_n 0, 1) := by decide +kernel
theorem dX8_conclude_48 : decode cX8_conclude 48 = .ok (.getfield 70, 3) := by decide +kernel
theorem dX8_conclude_51 : decode cX8_conclude 51 = .ok (.iconst 1, 1) := by decide +kernel
theorem dX8_conclude_52 : decode cX8_conclude 52 = .ok (.isub, 1) := by decide +kernel
theorem dX8_conclude_53 : decode cX8_conclude 53 = .ok (.invokevirtual 162, 3) := by decide +kernel
theorem dX8_conclude_56 : decode cX8_conclude 56 = .ok (.ifCond .ne 15, 3) := by decide +kernel
theorem dX8_conclude_59 : decode cX8_conclude 59 = .ok (.aload_n 0, 1) := by decide +kernel
theorem dX8_conclude_60 : decode cX8_conclude 60 = .ok (.dup, 1) := by decide +kernel
theorem dX8_conclude_61 : decode cX8_conclude 61 = .ok (.getfield 143, 3) := by decide +kernel
theorem dX8_conclude_64 : decode cX8_conclude 64 = .ok (.iconst 1, 1) := by decide +kernel
theorem dX8_conclude_65 : decode cX8_conclude 65 = .ok (.iadd, 1) := by decide +kernel
theorem dX8_conclude_66 : decode cX8_conclude 66 = .ok (.putfield 143, 3) := by decide +kernel
theorem dX8_conclude_69 : decode cX8_conclude 69 = .ok (.iconst 3, 1) := by decide +kernel
theorem dX8_conclude_70 : decode cX8_conclude 70 = .ok (.ireturn, 1) := by decide +kernel
theorem dX8_conclude_71 : decode cX8_conclude 71 = .ok (.aload_n 0, 1) := by decide +kernel
theorem dX8_conclude_72 : decode cX8_conclude 72 = .ok (.dup, 1) := by decide +kernel
theorem dX8_conclude_73 : decode cX8_conclude 73 = .ok (.getfield 140, 3) := by decide +kernel
theorem dX8_conclude_76 : decode cX8_conclude 76 = .ok (.iconst 1, 1) := by decide +kernel
theorem dX8_conclude_77 : decode cX8_conclude 77 = .ok (.iadd, 1) := by decide +kernel
theorem dX8_conclude_78 : decode cX8_conclude 78 = .ok (.putfield 140, 3) := by decide +kernel
theorem dX8_conclude_81 : decode cX8_conclude 81 = .ok (.iconst 0, 1) := by decide +kernel
theorem dX8_conclude_82 : decode cX8_conclude 82 = .ok (.ireturn, 1) := by decide +kernel
theorem dX9_init_0 : decode cX9_init 0 = .ok (.aload_n 0, 1) := by decide +kernel
theorem dX9_init_1 : decode cX9_init 1 = .ok (.invokespecial 1, 3) := by decide +kernel
theorem dX9_init_4 : decode cX9_init 4 = .ok (.aload_n 0, 1) := by decide +kernel
theorem dX9_init_5 : decode cX9_init 5 = .ok (.sipush 4000, 3) := by decide +kernel
theorem dX9_init_8 : decode cX9_init 8 = .ok (.newarray .byte, 2) := by decide +kernel
theorem dX9_init_10 : decode cX9_init 10 = .ok (.putfield 9, 3) := by decide +kernel
theorem dX9_init_13 : decode cX9_init 13 = .ok (.aload_n 0, 1) := by decide +kernel
theorem dX9_init_14 : decode cX9_init 14 = .ok (.bipush 30, 2) := by decide +kernel
