theorem dX9_failLine_7 : decode cX9_failLine 7 = .ok (.invokevirtual 147, 3) := by decide +kernel
theorem dX9_failLine_10 : decode cX9_failLine 10 = .ok (.istore_n 3, 1) := by decide +kernel
theorem dX9_failLine_11 : decode cX9_failLine 11 = .ok (.aload_n 0, 1) := by decide +kernel
theorem dX9_failLine_12 : decode cX9_failLine 12 = .ok (.getfield 125, 3) := by decide +kernel
theorem dX9_failLine_15 : decode cX9_failLine 15 = .ok (.invokestatic 154, 3) := by decide +kernel
theorem dX9_failLine_18 : decode cX9_failLine 18 = .ok (.ifCond .eq 26, 3) := by decide +kernel
theorem dX9_failLine_21 : decode cX9_failLine 21 = .ok (.aload_n 0, 1) := by decide +kernel
theorem dX9_failLine_22 : decode cX9_failLine 22 = .ok (.aload_n 0, 1) := by decide +kernel
theorem dX9_failLine_23 : decode cX9_failLine 23 = .ok (.getfield 177, 3) := by decide +kernel
theorem dX9_failLine_26 : decode cX9_failLine 26 = .ok (.ifCond .ne 9, 3) := by decide +kernel
theorem dX9_failLine_29 : decode cX9_failLine 29 = .ok (.iload_n 1, 1) := by decide +kernel
theorem dX9_failLine_30 : decode cX9_failLine 30 = .ok (.bipush 9, 2) := by decide +kernel
theorem dX9_failLine_32 : decode cX9_failLine 32 = .ok (.if_icmp .ne 7, 3) := by decide +kernel
theorem dX9_failLine_35 : decode cX9_failLine 35 = .ok (.iconst 1, 1) := by decide +kernel
theorem dX9_failLine_36 : decode cX9_failLine 36 = .ok (.goto 4, 3) := by decide +kernel
theorem dX9_failLine_39 : decode cX9_failLine 39 = .ok (.iconst 0, 1) := by decide +kernel
theorem dX9_failLine_40 : decode cX9_failLine 40 = .ok (.putfield 177, 3) := by decide +kernel
theorem dX9_failLine_43 : decode cX9_failLine 43 = .ok (.return_, 1) := by decide +kernel
theorem dX9_failLine_44 : decode cX9_failLine 44 = .ok (.aload_n 0, 1) := by decide +kernel
theorem dX9_failLine_45 : decode cX9_failLine 45 = .ok (.getfield 125, 3) := by decide +kernel
theorem dX9_failLine_48 : decode cX9_failLine 48 = .ok (.ifCond .ne 7, 3) := by decide +kernel
theorem dX9_failLine_51 : decode cX9_failLine 51 = .ok (.iconst 1, 1) := by decide +kernel
theorem dX9_failLine_52 : decode cX9_failLine 52 = .ok (.goto 4, 3) := by decide +kernel
theorem dX9_failLine_55 : decode cX9_failLine 55 = .ok (.iconst 0, 1) := by decide +kernel
theorem dX9_failLine_56 : decode cX9_failLine 56 = .ok (.istore 4, 2) := by decide +kernel
theorem dX9_failLine_58 : decode cX9_failLine 58 = .ok (.aload_n 0, 1) := by decide +kernel
theorem dX9_failLine_59 : decode cX9_failLine 59 = .ok (.iconst 1, 1) := by decide +kernel
theorem dX9_failLine_60 : decode cX9_failLine 60 = .ok (.putfield 177, 3) := by decide +kernel
theorem dX9_failLine_63 : decode cX9_failLine 63 = .ok (.iload 4, 2) := by decide +kernel
theorem dX9_failLine_65 : decode cX9_failLine 65 = .ok (.ifCond .eq 8, 3) := by decide +kernel
theorem dX9_failLine_68 : decode cX9_failLine 68 = .ok (.aload_n 0, 1) := by decide +kernel
theorem dX9_failLine_69 : decode cX9_failLine 69 = .ok (.iload_n 3, 1) := by decide +kernel
theorem dX9_failLine_70 : decode cX9_failLine 70 = .ok (.invokevirtual 180, 3) := by decide +kernel
theorem dX9_failLine_73 : decode cX9_failLine 73 = .ok (.return_, 1) := by decide +kernel
set_option maxRecDepth 20000 in
theorem ggX9_failField_X9_fail_1 : GoodIn wsX9_failField ([.fieldLink RX9 125 "CensusDeskModel" "way" "I", .fieldLink RX9 128 "CensusDeskModel" "replaced" "I", .fieldLink RX9 13 "CensusDeskModel" "ruleWay" "[I", .fieldLink RX9 17 "CensusDeskModel" "ruleNumber" "[I", .fieldLink RX9 135 "CensusDeskModel" "fails" "I", .fieldLink RX9 141 "CensusDeskModel" "inHouse" "Z", .fieldLink RX9 71 "CensusDeskModel" "firstOut" "[I", .fieldLink RX9 68 "CensusDeskModel" "firstIn" "[I", .fieldLink RX9 50 "CensusDeskModel" "failKind" "[I", .fieldLink RX9 53 "CensusDeskModel" "failPlace" "[I", .fieldLink RX9 56 "CensusDeskModel" "failCause" "[I", .fieldLink RX9 59 "CensusDeskModel" "failFirst" "[I", .fieldLink RX9 62 "CensusDeskModel" "failWay" "[I", .fieldLink RX9 65 "CensusDeskModel" "many" "[I", .fieldLink RX9 144 "CensusDeskModel" "stops" "Z", .methodLink RX9 131 yX9_groupOf, .static yX9_groupOf, .initialized RX9, .code yX9_groupOf cX9_groupOf 1 (some .int), .methodLink RX9 138 yX9_layerOf, .static yX9_layerOf, .code yX9_layerOf cX9_layerOf 1 (some .int)] : List Cond) := goodIn_r _ [1, 8, 9, 10, 11, 12, 13, 14, 15, 16, 17, 18, 19, 20, 21, 22, 23, 6, 24, 25, 26, 27] (by decide +kernel) (by decide +kernel)
set_option maxRecDepth 20000 in
theorem ggX9_failField_X9_fail_2 : GoodIn wsX9_failField wsX90 := goodIn_r _ [53, 54, 55, 56, 57, 58, 59, 60, 61, 62, 63, 64, 65, 66, 67, 68, 69, 70, 71, 72, 73, 74, 75, 76, 77, 78, 79, 80, 81, 82, 83, 84, 85, 86, 87, 88, 89, 90, 91, 92, 93, 94, 95, 96, 97, 98, 99, 100, 101, 102, 103, 104, 105, 106, 107, 108, 109, 110, 111, 112, 113, 114, 115, 116, 117, 118, 119, 120, 121] (by decide +kernel) (by decide +kernel)
set_option maxRecDepth 20000 in
theorem ggX9_failField_X9_fail_0 : GoodIn wsX9_failField [.code yX9_fail cX9_fail 7 (some .int)] := goodIn_r _ [7] (by decide +kernel) (by decide +kernel)
theorem ggX9_failField_X9_fail : GoodIn wsX9_failField wsX9_fail := goodIn_k ggX9_failField_X9_fail_0 (goodIn_app ggX9_failField_X9_fail_1 ggX9_failField_X9_fail_2)
set_option maxRecDepth 20000 in
theorem gX9_failField_X9_fail : GoodIn wsX9_failField (wsV RX9 147 RX9 yX9_fail wsX9_fail) := goodIn_app (goodIn_of _ (by decide +kernel)) ggX9_failField_X9_fail
set_option maxRecDepth 20000 in
theorem ggX9_failField_X9_goesOn : GoodIn wsX9_failField wsX9_goesOn := goodIn_r _ [30] (by decide +kernel) (by decide +kernel)
set_option maxRecDepth 20000 in
theorem gX9_failField_X9_goesOn : GoodIn wsX9_failField (va_wsS RX9 154 yX9_goesOn wsX9_goesOn) := goodIn_app (goodIn_of _ (by decide +kernel)) ggX9_failField_X9_goesOn
set_option maxRecDepth 20000 in
theorem ggX9_failField_X9_failLine_1 : GoodIn wsX9_failField wsX9_failLine_r1 := goodIn_r _ [35, 1, 36, 3, 4, 5, 6, 7, 8, 9, 10, 11, 12, 13, 14, 15, 16, 17, 18, 19, 20, 21, 22, 23] (by decide +kernel) (by decide +kernel)
set_option maxRecDepth 20000 in
theorem ggX9_failField_X9_failLine_2 : GoodIn wsX9_failField wsX9_failLine_r2 := goodIn_r _ [24, 25, 26, 27, 28, 29, 30, 37, 38, 39, 40, 41, 42, 43, 44, 45, 46, 47, 48, 49, 50, 51, 52] (by decide +kernel) (by decide +kernel)
set_option maxRecDepth 20000 in
theorem ggX9_failField_X9_failLine_3 : GoodIn wsX9_failField wsX90 := goodIn_r _ [53, 54, 55, 56, 57, 58, 59, 60, 61, 62, 63, 64, 65, 66, 67, 68, 69, 70, 71, 72, 73, 74, 75, 76, 77, 78, 79, 80, 81, 82, 83, 84, 85, 86, 87, 88, 89, 90, 91, 92, 93, 94, 95, 96, 97, 98, 99, 100, 101, 102, 103, 104, 105, 106, 107, 108, 109, 110, 111, 112, 113, 114, 115, 116, 117, 118, 119, 120, 121] (by decide +kernel) (by decide +kernel)
set_option maxRecDepth 20000 in
theorem ggX9_failField_X9_failLine_0 : GoodIn wsX9_failField [.code yX9_failLine cX9_failLine 5 none] := goodIn_r _ [34] (by decide +kernel) (by decide +kernel)
theorem ggX9_failField_X9_failLine : GoodIn wsX9_failField wsX9_failLine := goodIn_k ggX9_failField_X9_failLine_0 (goodIn_app (goodIn_app ggX9_failField_X9_failLine_1 ggX9_failField_X9_failLine_2) ggX9_failField_X9_failLine_3)
set_option maxRecDepth 20000 in
theorem gX9_failField_X9_failLine : GoodIn wsX9_failField (wsV RX9 187 RX9 yX9_failLine wsX9_failLine) := goodIn_app (goodIn_of _ (by decide +kernel)) ggX9_failField_X9_failLine
theorem dX9_failField_0 : decode cX9_failField 0 = .ok (.aload_n 0, 1) := by decide +kernel
theorem dX9_failField_1 : decode cX9_failField 1 = .ok (.iload_n 1, 1) := by decide +kernel
theorem dX9_failField_2 : decode cX9_failField 2 = .ok (.iload_n 2, 1) := by decide +kernel
theorem dX9_failField_3 : decode cX9_failField 3 = .ok (.iload_n 3, 1) := by decide +kernel
theorem dX9_failField_4 : decode cX9_failField 4 = .ok (.invokevirtual 147, 3) := by decide +kernel
theorem dX9_failField_7 : decode cX9_failField 7 = .ok (.istore 4, 2) := by decide +kernel
theorem dX9_failField_9 : decode cX9_failField 9 = .ok (.aload_n 0, 1) := by decide +kernel
theorem dX9_failField_10 : decode cX9_failField 10 = .ok (.getfield 125, 3) := by decide +kernel
theorem dX9_failField_13 : decode cX9_failField 13 = .ok (.istore 5, 2) := by decide +kernel
theorem dX9_failField_15 : decode cX9_failField 15 = .ok (.iload 5, 2) := by decide +kernel
theorem dX9_failField_17 : decode cX9_failField 17 = .ok (.invokestatic 154, 3) := by decide +kernel
theorem dX9_failField_20 : decode cX9_failField 20 = .ok (.ifCond .ne 21, 3) := by decide +kernel
theorem dX9_failField_23 : decode cX9_failField 23 = .ok (.aload_n 0, 1) := by decide +kernel
theorem dX9_failField_24 : decode cX9_failField 24 = .ok (.iconst 1, 1) := by decide +kernel
theorem dX9_failField_25 : decode cX9_failField 25 = .ok (.putfield 184, 3) := by decide +kernel
theorem dX9_failField_28 : decode cX9_failField 28 = .ok (.iload 5, 2) := by decide +kernel
theorem dX9_failField_30 : decode cX9_failField 30 = .ok (.ifCond .ne 11, 3) := by decide +kernel
theorem dX9_failField_33 : decode cX9_failField 33 = .ok (.aload_n 0, 1) := by decide +kernel
theorem dX9_failField_34 : decode cX9_failField 34 = .ok (.bipush 13, 2) := by decide +kernel
theorem dX9_failField_36 : decode cX9_failField 36 = .ok (.iload 4, 2) := by decide +kernel
theorem dX9_failField_38 : decode cX9_failField 38 = .ok (.invokevirtual 187, 3) := by decide +kernel
theorem dX9_failField_41 : decode cX9_failField 41 = .ok (.iload 5, 2) := by decide +kernel
theorem dX9_failField_43 : decode cX9_failField 43 = .ok (.ireturn, 1) := by decide +kernel
theorem dX9_at_0 : decode cX9_at 0 = .ok (.aload_n 0, 1) := by decide +kernel
theorem dX9_at_1 : decode cX9_at 1 = .ok (.getfield 9, 3) := by decide +kernel
theorem dX9_at_4 : decode cX9_at 4 = .ok (.iload_n 1, 1) := by decide +kernel
theorem dX9_at_5 : decode cX9_at 5 = .ok (.baload, 1) := by decide +kernel
theorem dX9_at_6 : decode cX9_at 6 = .ok (.sipush 255, 3) := by decide +kernel
theorem dX9_at_9 : decode cX9_at 9 = .ok (.iand, 1) := by decide +kernel
theorem dX9_at_10 : decode cX9_at 10 = .ok (.ireturn, 1) := by decide +kernel
set_option maxRecDepth 20000 in
theorem ggX9_readCell_X9_at : GoodIn wsX9_readCell wsX9_at := goodIn_r _ [14, 15, 67, 68, 69, 70, 71, 72, 73, 74, 75, 76, 77, 78, 79, 80, 81, 82, 83, 84, 85, 86, 87, 88, 89, 90, 91, 92, 93, 94, 95, 96, 97, 98, 99, 100, 101, 102, 103, 104, 105, 106, 107, 108, 109, 110, 111, 112, 113, 114, 115, 116, 117, 118, 119, 120, 121, 122, 123, 124, 125, 126, 127, 128, 129, 130, 131, 132, 133, 134, 135] (by decide +kernel) (by decide +kernel)
set_option maxRecDepth 20000 in
theorem gX9_readCell_X9_at : GoodIn wsX9_readCell (wsV RX9 197 RX9 yX9_at wsX9_at) := goodIn_app (goodIn_of _ (by decide +kernel)) ggX9_readCell_X9_at
set_option maxRecDepth 20000 in
theorem ggX9_readCell_X9_fail_1 : GoodIn wsX9_readCell ([.fieldLink RX9 125 "CensusDeskModel" "way" "I", .fieldLink RX9 128 "CensusDeskModel" "replaced" "I", .fieldLink RX9 13 "CensusDeskModel" "ruleWay" "[I", .fieldLink RX9 17 "CensusDeskModel" "ruleNumber" "[I", .fieldLink RX9 135 "CensusDeskModel" "fails" "I", .fieldLink RX9 141 "CensusDeskModel" "inHouse" "Z", .fieldLink RX9 71 "CensusDeskModel" "firstOut" "[I", .fieldLink RX9 68 "CensusDeskModel" "firstIn" "[I", .fieldLink RX9 50 "CensusDeskModel" "failKind" "[I", .fieldLink RX9 53 "CensusDeskModel" "failPlace" "[I", .fieldLink RX9 56 "CensusDeskModel" "failCause" "[I", .fieldLink RX9 59 "CensusDeskModel" "failFirst" "[I", .fieldLink RX9 62 "CensusDeskModel" "failWay" "[I", .fieldLink RX9 65 "CensusDeskModel" "many" "[I", .fieldLink RX9 144 "CensusDeskModel" "stops" "Z", .methodLink RX9 131 yX9_groupOf, .static yX9_groupOf, .initialized RX9, .code yX9_groupOf cX9_groupOf 1 (some .int), .methodLink RX9 138 yX9_layerOf, .static yX9_layerOf, .code yX9_layerOf cX9_layerOf 1 (some .int)] : List Cond) := goodIn_r _ [6, 7, 20, 21, 22, 23, 24, 25, 26, 27, 28, 29, 30, 31, 32, 33, 34, 13, 35, 36, 37, 38] (by decide +kernel) (by decide +kernel)
set_option maxRecDepth 20000 in
theorem ggX9_readCell_X9_fail_2 : GoodIn wsX9_readCell wsX90 := goodIn_r _ [67, 68, 69, 70, 71, 72, 73, 74, 75, 76, 77, 78, 79, 80, 81, 82, 83, 84, 85, 86, 87, 88, 89, 90, 91, 92, 93, 94, 95, 96, 97, 98, 99, 100, 101, 102, 103, 104, 105, 106, 107, 108, 109, 110, 111, 112, 113, 114, 115, 116, 117, 118, 119, 120, 121, 122, 123, 124, 125, 126, 127, 128, 129, 130, 131, 132, 133, 134, 135] (by decide +kernel) (by decide +kernel)
set_option maxRecDepth 20000 in
theorem ggX9_readCell_X9_fail_0 : GoodIn wsX9_readCell [.code yX9_fail cX9_fail 7 (some .int)] := goodIn_r _ [19] (by decide +kernel) (by decide +kernel)
theorem ggX9_readCell_X9_fail : GoodIn wsX9_readCell wsX9_fail := goodIn_k ggX9_readCell_X9_fail_0 (goodIn_app ggX9_readCell_X9_fail_1 ggX9_readCell_X9_fail_2)
set_option maxRecDepth 20000 in
theorem gX9_readCell_X9_fail : GoodIn wsX9_readCell (wsV RX9 147 RX9 yX9_fail wsX9_fail) := goodIn_app (goodIn_of _ (by decide +kernel)) ggX9_readCell_X9_fail
set_option maxRecDepth 20000 in
theorem ggX9_readCell_X9_goesOn : GoodIn wsX9_readCell wsX9_goesOn := goodIn_r _ [41] (by decide +kernel) (by decide +kernel)
set_option maxRecDepth 20000 in
theorem gX9_readCell_X9_goesOn : GoodIn wsX9_readCell (va_wsS RX9 154 yX9_goesOn wsX9_goesOn) := goodIn_app (goodIn_of _ (by decide +kernel)) ggX9_readCell_X9_goesOn
set_option maxRecDepth 20000 in
theorem ggX9_readCell_X9_failField_1 : GoodIn wsX9_readCell wsX9_failField_r1 := goodIn_r _ [6, 1, 16, 17, 18, 13, 19, 7, 20, 21, 22, 23, 24, 25, 26, 27, 28, 29, 30, 31, 32, 33, 34, 35] (by decide +kernel) (by decide +kernel)
set_option maxRecDepth 20000 in
theorem ggX9_readCell_X9_failField_2 : GoodIn wsX9_readCell wsX9_failField_r2 := goodIn_r _ [36, 37, 38, 39, 40, 41, 46, 47, 48, 49, 3, 50, 51, 52, 53, 54, 55, 56, 57, 58, 59, 60, 61, 62] (by decide +kernel) (by decide +kernel)
set_option maxRecDepth 20000 in
theorem ggX9_readCell_X9_failField_3 : GoodIn wsX9_readCell wsX9_failField_r3 := goodIn_r _ [63, 64, 65, 66] (by decide +kernel) (by decide +kernel)
set_option maxRecDepth 20000 in
theorem ggX9_readCell_X9_failField_4 : GoodIn wsX9_readCell wsX90 := goodIn_r _ [67, 68, 69, 70, 71, 72, 73, 74, 75, 76, 77, 78, 79, 80, 81, 82, 83, 84, 85, 86, 87, 88, 89, 90, 91, 92, 93, 94, 95, 96, 97, 98, 99, 100, 101, 102, 103, 104, 105, 106, 107, 108, 109, 110, 111, 112, 113, 114, 115, 116, 117, 118, 119, 120, 121, 122, 123, 124, 125, 126, 127, 128, 129, 130, 131, 132, 133, 134, 135] (by decide +kernel) (by decide +kernel)
set_option maxRecDepth 20000 in
theorem ggX9_readCell_X9_failField_0 : GoodIn wsX9_readCell [.code yX9_failField cX9_failField 6 (some .int)] := goodIn_r _ [45] (by decide +kernel) (by decide +kernel)
theorem ggX9_readCell_X9_failField : GoodIn wsX9_readCell wsX9_failField := goodIn_k ggX9_readCell_X9_failField_0 (goodIn_app (goodIn_app ggX9_readCell_X9_failField_1 (goodIn_app ggX9_readCell_X9_failField_2 ggX9_readCell_X9_failField_3)) ggX9_readCell_X9_failField_4)
set_option maxRecDepth 20000 in
theorem gX9_readCell_X9_failField : GoodIn wsX9_readCell (wsV RX9 203 RX9 yX9_failField wsX9_failField) := goodIn_app (goodIn_of _ (by decide +kernel)) ggX9_readCell_X9_failField
theorem dX9_readCell_0 : decode cX9_readCell 0 = .ok (.aload_n 0, 1) := by decide +kernel
theorem dX9_readCell_1 : decode cX9_readCell 1 = .ok (.iconst 0, 1) := by decide +kernel
theorem dX9_readCell_2 : decode cX9_readCell 2 = .ok (.putfield 184, 3) := by decide +kernel
theorem dX9_readCell_5 : decode cX9_readCell 5 = .ok (.aload_n 0, 1) := by decide +kernel
theorem dX9_readCell_6 : decode cX9_readCell 6 = .ok (.iconst 0, 1) := by decide +kernel
theorem dX9_readCell_7 : decode cX9_readCell 7 = .ok (.putfield 191, 3) := by decide +kernel
theorem dX9_readCell_10 : decode cX9_readCell 10 = .ok (.aload_n 0, 1) := by decide +kernel
theorem dX9_readCell_11 : decode cX9_readCell 11 = .ok (.getfield 171, 3) := by decide +kernel
theorem dX9_readCell_14 : decode cX9_readCell 14 = .ok (.istore_n 2, 1) := by decide +kernel
theorem dX9_readCell_15 : decode cX9_readCell 15 = .ok (.iconst 0, 1) := by decide +kernel
theorem dX9_readCell_16 : decode cX9_readCell 16 = .ok (.istore_n 3, 1) := by decide +kernel
theorem dX9_readCell_17 : decode cX9_readCell 17 = .ok (.iload_n 2, 1) := by decide +kernel
theorem dX9_readCell_18 : decode cX9_readCell 18 = .ok (.aload_n 0, 1) := by decide +kernel
theorem dX9_readCell_19 : decode cX9_readCell 19 = .ok (.getfield 194, 3) := by decide +kernel
theorem dX9_readCell_22 : decode cX9_readCell 22 = .ok (.if_icmp .ge 32, 3) := by decide +kernel
theorem dX9_readCell_25 : decode cX9_readCell 25 = .ok (.iload_n 3, 1) := by decide +kernel
theorem dX9_readCell_26 : decode cX9_readCell 26 = .ok (.iload_n 1, 1) := by decide +kernel
theorem dX9_readCell_27 : decode cX9_readCell 27 = .ok (.if_icmp .ge 27, 3) := by decide +kernel
theorem dX9_readCell_30 : decode cX9_readCell 30 = .ok (.iload_n 3, 1) := by decide +kernel
theorem dX9_readCell_31 : decode cX9_readCell 31 = .ok (.aload_n 0, 1) := by decide +kernel
theorem dX9_readCell_32 : decode cX9_readCell 32 = .ok (.iload_n 2, 1) := by decide +kernel
theorem dX9_readCell_33 : decode cX9_readCell 33 = .ok (.invokevirtual 197, 3) := by decide +kernel
theorem dX9_readCell_36 : decode cX9_readCell 36 = .ok (.bipush 124, 2) := by decide +kernel
theorem dX9_readCell_38 : decode cX9_readCell 38 = .ok (.if_icmp .ne 7, 3) := by decide +kernel
theorem dX9_readCell_41 : decode cX9_readCell 41 = .ok (.iconst 1, 1) := by decide +kernel
theorem dX9_readCell_42 : decode cX9_readCell 42 = .ok (.goto 4, 3) := by decide +kernel
theorem dX9_readCell_45 : decode cX9_readCell 45 = .ok (.iconst 0, 1) := by decide +kernel
theorem dX9_readCell_46 : decode cX9_readCell 46 = .ok (.iadd, 1) := by decide +kernel
theorem dX9_readCell_47 : decode cX9_readCell 47 = .ok (.istore_n 3, 1) := by decide +kernel
theorem dX9_readCell_48 : decode cX9_readCell 48 = .ok (.iinc 2 1, 3) := by decide +kernel
theorem dX9_readCell_51 : decode cX9_readCell 51 = .ok (.goto (-34), 3) := by decide +kernel
theorem dX9_readCell_54 : decode cX9_readCell 54 = .ok (.iload_n 3, 1) := by decide +kernel
theorem dX9_readCell_55 : decode cX9_readCell 55 = .ok (.iload_n 1, 1) := by decide +kernel
theorem dX9_readCell_56 : decode cX9_readCell 56 = .ok (.if_icmp .ne 7, 3) := by decide +kernel
theorem dX9_readCell_59 : decode cX9_readCell 59 = .ok (.iconst 1, 1) := by decide +kernel
theorem dX9_readCell_60 : decode cX9_readCell 60 = .ok (.goto 4, 3) := by decide +kernel
theorem dX9_readCell_63 : decode cX9_readCell 63 = .ok (.iconst 0, 1) := by decide +kernel
theorem dX9_readCell_64 : decode cX9_readCell 64 = .ok (.istore 4, 2) := by decide +kernel
theorem dX9_readCell_66 : decode cX9_readCell 66 = .ok (.aload_n 0, 1) := by decide +kernel
theorem dX9_readCell_67 : decode cX9_readCell 67 = .ok (.iload 4, 2) := by decide +kernel
theorem dX9_readCell_69 : decode cX9_readCell 69 = .ok (.ifCond .eq 7, 3) := by decide +kernel
theorem dX9_readCell_72 : decode cX9_readCell 72 = .ok (.iload_n 2, 1) := by decide +kernel
theorem dX9_readCell_73 : decode cX9_readCell 73 = .ok (.goto 7, 3) := by decide +kernel
theorem dX9_readCell_76 : decode cX9_readCell 76 = .ok (.aload_n 0, 1) := by decide +kernel
theorem dX9_readCell_77 : decode cX9_readCell 77 = .ok (.getfield 194, 3) := by decide +kernel
theorem dX9_readCell_80 : decode cX9_readCell 80 = .ok (.putfield 200, 3) := by decide +kernel
theorem dX9_readCell_83 : decode cX9_readCell 83 = .ok (.iload_n 2, 1) := by decide +kernel
theorem dX9_readCell_84 : decode cX9_readCell 84 = .ok (.istore 5, 2) := by decide +kernel
theorem dX9_readCell_86 : decode cX9_readCell 86 = .ok (.iload 4, 2) := by decide +kernel
theorem dX9_readCell_88 : decode cX9_readCell 88 = .ok (.ifCond .eq 180, 3) := by decide +kernel
theorem dX9_readCell_91 : decode cX9_readCell 91 = .ok (.iload 5, 2) := by decide +kernel
theorem dX9_readCell_93 : decode cX9_readCell 93 = .ok (.aload_n 0, 1) := by decide +kernel
theorem dX9_readCell_94 : decode cX9_readCell 94 = .ok (.getfield 194, 3) := by decide +kernel
theorem dX9_readCell_97 : decode cX9_readCell 97 = .ok (.if_icmp .ge 171, 3) := by decide +kernel
theorem dX9_readCell_100 : decode cX9_readCell 100 = .ok (.aload_n 0, 1) := by decide +kernel
theorem dX9_readCell_101 : decode cX9_readCell 101 = .ok (.iload 5, 2) := by decide +kernel
theorem dX9_readCell_103 : decode cX9_readCell 103 = .ok (.invokevirtual 197, 3) := by decide +kernel
theorem dX9_readCell_106 : decode cX9_readCell 106 = .ok (.bipush 124, 2) := by decide +kernel
theorem dX9_readCell_108 : decode cX9_readCell 108 = .ok (.if_icmp .eq 160, 3) := by decide +kernel
theorem dX9_readCell_111 : decode cX9_readCell 111 = .ok (.aload_n 0, 1) := by decide +kernel
theorem dX9_readCell_112 : decode cX9_readCell 112 = .ok (.getfield 184, 3) := by decide +kernel
theorem dX9_readCell_115 : decode cX9_readCell 115 = .ok (.ifCond .ne 153, 3) := by decide +kernel
theorem dX9_readCell_118 : decode cX9_readCell 118 = .ok (.aload_n 0, 1) := by decide +kernel
theorem dX9_readCell_119 : decode cX9_readCell 119 = .ok (.iload 5, 2) := by decide +kernel
theorem dX9_readCell_121 : decode cX9_readCell 121 = .ok (.invokevirtual 197, 3) := by decide +kernel
theorem dX9_readCell_124 : decode cX9_readCell 124 = .ok (.istore 6, 2) := by decide +kernel
theorem dX9_readCell_126 : decode cX9_readCell 126 = .ok (.iconst 1, 1) := by decide +kernel
theorem dX9_readCell_127 : decode cX9_readCell 127 = .ok (.istore 7, 2) := by decide +kernel
theorem dX9_readCell_129 : decode cX9_readCell 129 = .ok (.iload 6, 2) := by decide +kernel
theorem dX9_readCell_131 : decode cX9_readCell 131 = .ok (.bipush 32, 2) := by decide +kernel
theorem dX9_readCell_133 : decode cX9_readCell 133 = .ok (.if_icmp .lt 10, 3) := by decide +kernel
theorem dX9_readCell_136 : decode cX9_readCell 136 = .ok (.iload 6, 2) := by decide +kernel
theorem dX9_readCell_138 : decode cX9_readCell 138 = .ok (.bipush 126, 2) := by decide +kernel
theorem dX9_readCell_140 : decode cX9_readCell 140 = .ok (.if_icmp .le 85, 3) := by decide +kernel
theorem dX9_readCell_143 : decode cX9_readCell 143 = .ok (.aload_n 0, 1) := by decide +kernel
theorem dX9_readCell_144 : decode cX9_readCell 144 = .ok (.iconst 1, 1) := by decide +kernel
theorem dX9_readCell_145 : decode cX9_readCell 145 = .ok (.iload 5, 2) := by decide +kernel
theorem dX9_readCell_147 : decode cX9_readCell 147 = .ok (.iconst (-1), 1) := by decide +kernel
theorem dX9_readCell_148 : decode cX9_readCell 148 = .ok (.invokevirtual 147, 3) := by decide +kernel
theorem dX9_readCell_151 : decode cX9_readCell 151 = .ok (.istore 8, 2) := by decide +kernel
theorem dX9_readCell_153 : decode cX9_readCell 153 = .ok (.aload_n 0, 1) := by decide +kernel
theorem dX9_readCell_154 : decode cX9_readCell 154 = .ok (.getfield 125, 3) := by decide +kernel
theorem dX9_readCell_157 : decode cX9_readCell 157 = .ok (.invokestatic 154, 3) := by decide +kernel
theorem dX9_readCell_160 : decode cX9_readCell 160 = .ok (.istore 7, 2) := by decide +kernel
theorem dX9_readCell_162 : decode cX9_readCell 162 = .ok (.aload_n 0, 1) := by decide +kernel
theorem dX9_readCell_163 : decode cX9_readCell 163 = .ok (.getfield 125, 3) := by decide +kernel
theorem dX9_readCell_166 : decode cX9_readCell 166 = .ok (.iconst 2, 1) := by decide +kernel
theorem dX9_readCell_167 : decode cX9_readCell 167 = .ok (.if_icmp .ne 33, 3) := by decide +kernel
theorem dX9_readCell_170 : decode cX9_readCell 170 = .ok (.aload_n 0, 1) := by decide +kernel
theorem dX9_readCell_171 : decode cX9_readCell 171 = .ok (.getfield 128, 3) := by decide +kernel
theorem dX9_readCell_174 : decode cX9_readCell 174 = .ok (.bipush 32, 2) := by decide +kernel
theorem dX9_readCell_176 : decode cX9_readCell 176 = .ok (.if_icmp .lt 19, 3) := by decide +kernel
theorem dX9_readCell_179 : decode cX9_readCell 179 = .ok (.aload_n 0, 1) := by decide +kernel
theorem dX9_readCell_180 : decode cX9_readCell 180 = .ok (.getfield 128, 3) := by decide +kernel
theorem dX9_readCell_183 : decode cX9_readCell 183 = .ok (.bipush 126, 2) := by decide +kernel
theorem dX9_readCell_185 : decode cX9_readCell 185 = .ok (.if_icmp .gt 10, 3) := by decide +kernel
theorem dX9_readCell_188 : decode cX9_readCell 188 = .ok (.aload_n 0, 1) := by decide +kernel
theorem dX9_readCell_189 : decode cX9_readCell 189 = .ok (.getfield 128, 3) := by decide +kernel
theorem dX9_readCell_192 : decode cX9_readCell 192 = .ok (.goto 10, 3) := by decide +kernel
theorem dX9_readCell_195 : decode cX9_readCell 195 = .ok (.bipush 63, 2) := by decide +kernel
theorem dX9_readCell_197 : decode cX9_readCell 197 = .ok (.goto 5, 3) := by decide +kernel
theorem dX9_readCell_200 : decode cX9_readCell 200 = .ok (.iload 6, 2) := by decide +kernel
theorem dX9_readCell_202 : decode cX9_readCell 202 = .ok (.istore 6, 2) := by decide +kernel
theorem dX9_readCell_204 : decode cX9_readCell 204 = .ok (.aload_n 0, 1) := by decide +kernel
theorem dX9_readCell_205 : decode cX9_readCell 205 = .ok (.getfield 125, 3) := by decide +kernel
theorem dX9_readCell_208 : decode cX9_readCell 208 = .ok (.ifCond .ne 17, 3) := by decide +kernel
theorem dX9_readCell_211 : decode cX9_readCell 211 = .ok (.aload_n 0, 1) := by decide +kernel
theorem dX9_readCell_212 : decode cX9_readCell 212 = .ok (.bipush 8, 2) := by decide +kernel
theorem dX9_readCell_214 : decode cX9_readCell 214 = .ok (.aload_n 0, 1) := by decide +kernel
theorem dX9_readCell_215 : decode cX9_readCell 215 = .ok (.getfield 200, 3) := by decide +kernel
theorem dX9_readCell_218 : decode cX9_readCell 218 = .ok (.iload 8, 2) := by decide +kernel
theorem dX9_readCell_220 : decode cX9_readCell 220 = .ok (.invokevirtual 203, 3) := by decide +kernel
theorem dX9_readCell_223 : decode cX9_readCell 223 = .ok (.istore 9, 2) := by decide +kernel
theorem dX9_readCell_225 : decode cX9_readCell 225 = .ok (.iload 7, 2) := by decide +kernel
theorem dX9_readCell_227 : decode cX9_readCell 227 = .ok (.ifCond .eq 35, 3) := by decide +kernel
theorem dX9_readCell_230 : decode cX9_readCell 230 = .ok (.aload_n 0, 1) := by decide +kernel
theorem dX9_readCell_231 : decode cX9_readCell 231 = .ok (.getfield 74, 3) := by decide +kernel
theorem dX9_readCell_234 : decode cX9_readCell 234 = .ok (.aload_n 0, 1) := by decide +kernel
theorem dX9_readCell_235 : decode cX9_readCell 235 = .ok (.getfield 191, 3) := by decide +kernel
theorem dX9_readCell_238 : decode cX9_readCell 238 = .ok (.iload 6, 2) := by decide +kernel
theorem dX9_readCell_240 : decode cX9_readCell 240 = .ok (.iastore, 1) := by decide +kernel
theorem dX9_readCell_241 : decode cX9_readCell 241 = .ok (.aload_n 0, 1) := by decide +kernel
theorem dX9_readCell_242 : decode cX9_readCell 242 = .ok (.getfield 77, 3) := by decide +kernel
theorem dX9_readCell_245 : decode cX9_readCell 245 = .ok (.aload_n 0, 1) := by decide +kernel
theorem dX9_readCell_246 : decode cX9_readCell 246 = .ok (.getfield 191, 3) := by decide +kernel
theorem dX9_readCell_249 : decode cX9_readCell 249 = .ok (.iload 5, 2) := by decide +kernel
theorem dX9_readCell_251 : decode cX9_readCell 251 = .ok (.iastore, 1) := by decide +kernel
theorem dX9_readCell_252 : decode cX9_readCell 252 = .ok (.aload_n 0, 1) := by decide +kernel
theorem dX9_readCell_253 : decode cX9_readCell 253 = .ok (.dup, 1) := by decide +kernel
theorem dX9_readCell_254 : decode cX9_readCell 254 = .ok (.getfield 191, 3) := by decide +kernel
theorem dX9_readCell_257 : decode cX9_readCell 257 = .ok (.iconst 1, 1) := by decide +kernel
theorem dX9_readCell_258 : decode cX9_readCell 258 = .ok (.iadd, 1) := by decide +kernel
theorem dX9_readCell_259 : decode cX9_readCell 259 = .ok (.putfield 191, 3) := by decide +kernel
theorem dX9_readCell_262 : decode cX9_readCell 262 = .ok (.iinc 5 1, 3) := by decide +kernel
theorem dX9_readCell_265 : decode cX9_readCell 265 = .ok (.goto (-179), 3) := by decide +kernel
theorem dX9_readCell_268 : decode cX9_readCell 268 = .ok (.return_, 1) := by decide +kernel
theorem dX9_isLetter_0 : decode cX9_isLetter 0 = .ok (.iload_n 0, 1) := by decide +kernel
theorem dX9_isLetter_1 : decode cX9_isLetter 1 = .ok (.bipush 97, 2) := by decide +kernel
theorem dX9_isLetter_3 : decode cX9_isLetter 3 = .ok (.if_icmp .lt 9, 3) := by decide +kernel
theorem dX9_isLetter_6 : decode cX9_isLetter 6 = .ok (.iload_n 0, 1) := by decide +kernel
theorem dX9_isLetter_7 : decode cX9_isLetter 7 = .ok (.bipush 122, 2) := by decide +kernel
theorem dX9_isLetter_9 : decode cX9_isLetter 9 = .ok (.if_icmp .le 15, 3) := by decide +kernel
theorem dX9_isLetter_12 : decode cX9_isLetter 12 = .ok (.iload_n 0, 1) := by decide +kernel
theorem dX9_isLetter_13 : decode cX9_isLetter 13 = .ok (.bipush 65, 2) := by decide +kernel
theorem dX9_isLetter_15 : decode cX9_isLetter 15 = .ok (.if_icmp .lt 13, 3) := by decide +kernel
theorem dX9_isLetter_18 : decode cX9_isLetter 18 = .ok (.iload_n 0, 1) := by decide +kernel
theorem dX9_isLetter_19 : decode cX9_isLetter 19 = .ok (.bipush 90, 2) := by decide +kernel
theorem dX9_isLetter_21 : decode cX9_isLetter 21 = .ok (.if_icmp .gt 7, 3) := by decide +kernel
theorem dX9_isLetter_24 : decode cX9_isLetter 24 = .ok (.iconst 1, 1) := by decide +kernel
theorem dX9_isLetter_25 : decode cX9_isLetter 25 = .ok (.goto 4, 3) := by decide +kernel
theorem dX9_isLetter_28 : decode cX9_isLetter 28 = .ok (.iconst 0, 1) := by decide +kernel
theorem dX9_isLetter_29 : decode cX9_isLetter 29 = .ok (.ireturn, 1) := by decide +kernel
set_option maxRecDepth 20000 in
theorem ggX9_readName_X9_readCell_1 : GoodIn wsX9_readName wsX9_readCell_r1 := goodIn_r _ [1, 2, 11, 12, 3, 13, 14, 4, 5, 15, 16, 17, 9, 18, 19, 20, 21, 22, 23, 24, 25, 26, 27, 28] (by decide +kernel) (by decide +kernel)
set_option maxRecDepth 20000 in
theorem ggX9_readName_X9_readCell_2 : GoodIn wsX9_readName wsX9_readCell_r2 := goodIn_r _ [29, 30, 31, 32, 33, 34, 35, 36, 37, 38, 39, 40, 41, 42, 43, 44, 45, 46, 47, 48, 49, 50, 51, 52] (by decide +kernel) (by decide +kernel)
set_option maxRecDepth 20000 in
theorem ggX9_readName_X9_readCell_3 : GoodIn wsX9_readName wsX9_readCell_r3 := goodIn_r _ [53, 54, 55, 56, 57, 58, 59, 60, 61, 62, 63, 64, 65, 66, 67, 68, 69, 70] (by decide +kernel) (by decide +kernel)
set_option maxRecDepth 20000 in
theorem ggX9_readName_X9_readCell_4 : GoodIn wsX9_readName wsX90 := goodIn_r _ [74, 75, 76, 77, 78, 79, 80, 81, 82, 83, 84, 85, 86, 87, 88, 89, 90, 91, 92, 93, 94, 95, 96, 97, 98, 99, 100, 101, 102, 103, 104, 105, 106, 107, 108, 109, 110, 111, 112, 113, 114, 115, 116, 117, 118, 119, 120, 121, 122, 123, 124, 125, 126, 127, 128, 129, 130, 131, 132, 133, 134, 135, 136, 137, 138, 139, 140, 141, 142] (by decide +kernel) (by decide +kernel)
set_option maxRecDepth 20000 in
theorem ggX9_readName_X9_readCell_0 : GoodIn wsX9_readName [.code yX9_readCell cX9_readCell 10 none] := goodIn_r _ [10] (by decide +kernel) (by decide +kernel)
theorem ggX9_readName_X9_readCell : GoodIn wsX9_readName wsX9_readCell := goodIn_k ggX9_readName_X9_readCell_0 (goodIn_app (goodIn_app ggX9_readName_X9_readCell_1 (goodIn_app ggX9_readName_X9_readCell_2 ggX9_readName_X9_readCell_3)) ggX9_readName_X9_readCell_4)
set_option maxRecDepth 20000 in
theorem gX9_readName_X9_readCell : GoodIn wsX9_readName (wsV RX9 206 RX9 yX9_readCell wsX9_readCell) := goodIn_app (goodIn_of _ (by decide +kernel)) ggX9_readName_X9_readCell
set_option maxRecDepth 20000 in
theorem ggX9_readName_X9_failField_1 : GoodIn wsX9_readName wsX9_failField_r1 := goodIn_r _ [13, 1, 20, 21, 22, 9, 23, 14, 24, 25, 26, 27, 28, 29, 30, 31, 32, 33, 34, 35, 36, 37, 38, 39] (by decide +kernel) (by decide +kernel)
set_option maxRecDepth 20000 in
theorem ggX9_readName_X9_failField_2 : GoodIn wsX9_readName wsX9_failField_r2 := goodIn_r _ [40, 41, 42, 43, 44, 45, 50, 51, 52, 53, 11, 54, 55, 56, 57, 58, 59, 60, 61, 62, 63, 64, 65, 66] (by decide +kernel) (by decide +kernel)
set_option maxRecDepth 20000 in
theorem ggX9_readName_X9_failField_3 : GoodIn wsX9_readName wsX9_failField_r3 := goodIn_r _ [67, 68, 69, 70] (by decide +kernel) (by decide +kernel)
set_option maxRecDepth 20000 in
theorem ggX9_readName_X9_failField_4 : GoodIn wsX9_readName wsX90 := goodIn_r _ [74, 75, 76, 77, 78, 79, 80, 81, 82, 83, 84, 85, 86, 87, 88, 89, 90, 91, 92, 93, 94, 95, 96, 97, 98, 99, 100, 101, 102, 103, 104, 105, 106, 107, 108, 109, 110, 111, 112, 113, 114, 115, 116, 117, 118, 119, 120, 121, 122, 123, 124, 125, 126, 127, 128, 129, 130, 131, 132, 133, 134, 135, 136, 137, 138, 139, 140, 141, 142] (by decide +kernel) (by decide +kernel)
set_option maxRecDepth 20000 in
theorem ggX9_readName_X9_failField_0 : GoodIn wsX9_readName [.code yX9_failField cX9_failField 6 (some .int)] := goodIn_r _ [49] (by decide +kernel) (by decide +kernel)
theorem ggX9_readName_X9_failField : GoodIn wsX9_readName wsX9_failField := goodIn_k ggX9_readName_X9_failField_0 (goodIn_app (goodIn_app ggX9_readName_X9_failField_1 (goodIn_app ggX9_readName_X9_failField_2 ggX9_readName_X9_failField_3)) ggX9_readName_X9_failField_4)
set_option maxRecDepth 20000 in
theorem gX9_readName_X9_failField : GoodIn wsX9_readName (wsV RX9 203 RX9 yX9_failField wsX9_failField) := goodIn_app (goodIn_of _ (by decide +kernel)) ggX9_readName_X9_failField
set_option maxRecDepth 20000 in
theorem ggX9_readName_X9_isLetter : GoodIn wsX9_readName wsX9_isLetter := goodIn_r _ [73] (by decide +kernel) (by decide +kernel)
set_option maxRecDepth 20000 in
theorem gX9_readName_X9_isLetter : GoodIn wsX9_readName (va_wsS RX9 209 yX9_isLetter wsX9_isLetter) := goodIn_app (goodIn_of _ (by decide +kernel)) ggX9_readName_X9_isLetter
theorem dX9_readName_0 : decode cX9_readName 0 = .ok (.aload_n 0, 1) := by decide +kernel
theorem dX9_readName_1 : decode cX9_readName 1 = .ok (.iload_n 1, 1) := by decide +kernel
theorem dX9_readName_2 : decode cX9_readName 2 = .ok (.invokevirtual 206, 3) := by decide +kernel
theorem dX9_readName_5 : decode cX9_readName 5 = .ok (.aload_n 0, 1) := by decide +kernel
theorem dX9_readName_6 : decode cX9_readName 6 = .ok (.getfield 184, 3) := by decide +kernel
theorem dX9_readName_9 : decode cX9_readName 9 = .ok (.ifCond .ne 24, 3) := by decide +kernel
theorem dX9_readName_12 : decode cX9_readName 12 = .ok (.aload_n 0, 1) := by decide +kernel
theorem dX9_readName_13 : decode cX9_readName 13 = .ok (.getfield 191, 3) := by decide +kernel
theorem dX9_readName_16 : decode cX9_readName 16 = .ok (.ifCond .ne 17, 3) := by decide +kernel
theorem dX9_readName_19 : decode cX9_readName 19 = .ok (.aload_n 0, 1) := by decide +kernel
theorem dX9_readName_20 : decode cX9_readName 20 = .ok (.iconst 2, 1) := by decide +kernel
theorem dX9_readName_21 : decode cX9_readName 21 = .ok (.aload_n 0, 1) := by decide +kernel
theorem dX9_readName_22 : decode cX9_readName 22 = .ok (.getfield 200, 3) := by decide +kernel
theorem dX9_readName_25 : decode cX9_readName 25 = .ok (.iconst (-1), 1) := by decide +kernel
theorem dX9_readName_26 : decode cX9_readName 26 = .ok (.invokevirtual 203, 3) := by decide +kernel
theorem dX9_readName_29 : decode cX9_readName 29 = .ok (.istore_n 2, 1) := by decide +kernel
theorem dX9_readName_30 : decode cX9_readName 30 = .ok (.goto 87, 3) := by decide +kernel
theorem dX9_readName_33 : decode cX9_readName 33 = .ok (.aload_n 0, 1) := by decide +kernel
theorem dX9_readName_34 : decode cX9_readName 34 = .ok (.getfield 184, 3) := by decide +kernel
theorem dX9_readName_37 : decode cX9_readName 37 = .ok (.ifCond .ne 80, 3) := by decide +kernel
theorem dX9_readName_40 : decode cX9_readName 40 = .ok (.iconst 0, 1) := by decide +kernel
theorem dX9_readName_41 : decode cX9_readName 41 = .ok (.istore_n 2, 1) := by decide +kernel
theorem dX9_readName_42 : decode cX9_readName 42 = .ok (.iload_n 2, 1) := by decide +kernel
theorem dX9_readName_43 : decode cX9_readName 43 = .ok (.aload_n 0, 1) := by decide +kernel
theorem dX9_readName_44 : decode cX9_readName 44 = .ok (.getfield 191, 3) := by decide +kernel
theorem dX9_readName_47 : decode cX9_readName 47 = .ok (.if_icmp .ge 49, 3) := by decide +kernel
theorem dX9_readName_50 : decode cX9_readName 50 = .ok (.iload_n 2, 1) := by decide +kernel
theorem dX9_readName_51 : decode cX9_readName 51 = .ok (.bipush 30, 2) := by decide +kernel
theorem dX9_readName_53 : decode cX9_readName 53 = .ok (.if_icmp .ge 43, 3) := by decide +kernel
theorem dX9_readName_56 : decode cX9_readName 56 = .ok (.aload_n 0, 1) := by decide +kernel
theorem dX9_readName_57 : decode cX9_readName 57 = .ok (.getfield 74, 3) := by decide +kernel
theorem dX9_readName_60 : decode cX9_readName 60 = .ok (.iload_n 2, 1) := by decide +kernel
theorem dX9_readName_61 : decode cX9_readName 61 = .ok (.iaload, 1) := by decide +kernel
theorem dX9_readName_62 : decode cX9_readName 62 = .ok (.invokestatic 209, 3) := by decide +kernel
theorem dX9_readName_65 : decode cX9_readName 65 = .ok (.ifCond .ne 25, 3) := by decide +kernel
theorem dX9_readName_68 : decode cX9_readName 68 = .ok (.aload_n 0, 1) := by decide +kernel
theorem dX9_readName_69 : decode cX9_readName 69 = .ok (.getfield 74, 3) := by decide +kernel
theorem dX9_readName_72 : decode cX9_readName 72 = .ok (.iload_n 2, 1) := by decide +kernel
theorem dX9_readName_73 : decode cX9_readName 73 = .ok (.iaload, 1) := by decide +kernel
theorem dX9_readName_74 : decode cX9_readName 74 = .ok (.bipush 32, 2) := by decide +kernel
theorem dX9_readName_76 : decode cX9_readName 76 = .ok (.if_icmp .eq 14, 3) := by decide +kernel
theorem dX9_readName_79 : decode cX9_readName 79 = .ok (.aload_n 0, 1) := by decide +kernel
theorem dX9_readName_80 : decode cX9_readName 80 = .ok (.getfield 74, 3) := by decide +kernel
theorem dX9_readName_83 : decode cX9_readName 83 = .ok (.iload_n 2, 1) := by decide +kernel
theorem dX9_readName_84 : decode cX9_readName 84 = .ok (.iaload, 1) := by decide +kernel
theorem dX9_readName_85 : decode cX9_readName 85 = .ok (.bipush 45, 2) := by decide +kernel
theorem dX9_readName_87 : decode cX9_readName 87 = .ok (.if_icmp .ne 9, 3) := by decide +kernel
theorem dX9_readName_90 : decode cX9_readName 90 = .ok (.iinc 2 1, 3) := by decide +kernel
theorem dX9_readName_93 : decode cX9_readName 93 = .ok (.goto (-51), 3) := by decide +kernel
theorem dX9_readName_96 : decode cX9_readName 96 = .ok (.iload_n 2, 1) := by decide +kernel
theorem dX9_readName_97 : decode cX9_readName 97 = .ok (.aload_n 0, 1) := by decide +kernel
theorem dX9_readName_98 : decode cX9_readName 98 = .ok (.getfield 191, 3) := by decide +kernel
theorem dX9_readName_101 : decode cX9_readName 101 = .ok (.if_icmp .ge 16, 3) := by decide +kernel
theorem dX9_readName_104 : decode cX9_readName 104 = .ok (.aload_n 0, 1) := by decide +kernel
theorem dX9_readName_105 : decode cX9_readName 105 = .ok (.iconst 3, 1) := by decide +kernel
theorem dX9_readName_106 : decode cX9_readName 106 = .ok (.aload_n 0, 1) := by decide +kernel
theorem dX9_readName_107 : decode cX9_readName 107 = .ok (.getfield 77, 3) := by decide +kernel
theorem dX9_readName_110 : decode cX9_readName 110 = .ok (.iload_n 2, 1) := by decide +kernel
theorem dX9_readName_111 : decode cX9_readName 111 = .ok (.iaload, 1) := by decide +kernel
theorem dX9_readName_112 : decode cX9_readName 112 = .ok (.iconst (-1), 1) := by decide +kernel
theorem dX9_readName_113 : decode cX9_readName 113 = .ok (.invokevirtual 203, 3) := by decide +kernel
theorem dX9_readName_116 : decode cX9_readName 116 = .ok (.istore_n 3, 1) := by decide +kernel
theorem dX9_readName_117 : decode cX9_readName 117 = .ok (.aload_n 0, 1) := by decide +kernel
theorem dX9_readName_118 : decode cX9_readName 118 = .ok (.aload_n 0, 1) := by decide +kernel
theorem dX9_readName_119 : decode cX9_readName 119 = .ok (.getfield 184, 3) := by decide +kernel
theorem dX9_readName_122 : decode cX9_readName 122 = .ok (.ifCond .eq 7, 3) := by decide +kernel
theorem dX9_readName_125 : decode cX9_readName 125 = .ok (.iconst 0, 1) := by decide +kernel
theorem dX9_readName_126 : decode cX9_readName 126 = .ok (.goto 21, 3) := by decide +kernel
theorem dX9_readName_129 : decode cX9_readName 129 = .ok (.aload_n 0, 1) := by decide +kernel
theorem dX9_readName_130 : decode cX9_readName 130 = .ok (.getfield 191, 3) := by decide +kernel
theorem dX9_readName_133 : decode cX9_readName 133 = .ok (.bipush 30, 2) := by decide +kernel
theorem dX9_readName_135 : decode cX9_readName 135 = .ok (.if_icmp .le 8, 3) := by decide +kernel
theorem dX9_readName_138 : decode cX9_readName 138 = .ok (.bipush 30, 2) := by decide +kernel
theorem dX9_readName_140 : decode cX9_readName 140 = .ok (.goto 7, 3) := by decide +kernel
theorem dX9_readName_143 : decode cX9_readName 143 = .ok (.aload_n 0, 1) := by decide +kernel
theorem dX9_readName_144 : decode cX9_readName 144 = .ok (.getfield 191, 3) := by decide +kernel
theorem dX9_readName_147 : decode cX9_readName 147 = .ok (.putfield 191, 3) := by decide +kernel
theorem dX9_readName_150 : decode cX9_readName 150 = .ok (.return_, 1) := by decide +kernel
theorem dX9_isDigit_0 : decode cX9_isDigit 0 = .ok (.iload_n 0, 1) := by decide +kernel
theorem dX9_isDigit_1 : decode cX9_isDigit 1 = .ok (.bipush 48, 2) := by decide +kernel
theorem dX9_isDigit_3 : decode cX9_isDigit 3 = .ok (.if_icmp .lt 13, 3) := by decide +kernel
theorem dX9_isDigit_6 : decode cX9_isDigit 6 = .ok (.iload_n 0, 1) := by decide +kernel
theorem dX9_isDigit_7 : decode cX9_isDigit 7 = .ok (.bipush 57, 2) := by decide +kernel
theorem dX9_isDigit_9 : decode cX9_isDigit 9 = .ok (.if_icmp .gt 7, 3) := by decide +kernel
theorem dX9_isDigit_12 : decode cX9_isDigit 12 = .ok (.iconst 1, 1) := by decide +kernel
theorem dX9_isDigit_13 : decode cX9_isDigit 13 = .ok (.goto 4, 3) := by decide +kernel
theorem dX9_isDigit_16 : decode cX9_isDigit 16 = .ok (.iconst 0, 1) := by decide +kernel
theorem dX9_isDigit_17 : decode cX9_isDigit 17 = .ok (.ireturn, 1) := by decide +kernel
set_option maxRecDepth 20000 in
theorem ggX9_readNumber_X9_readCell_1 : GoodIn wsX9_readNumber wsX9_readCell_r1 := goodIn_r _ [2, 3, 12, 13, 5, 14, 6, 4, 15, 16, 17, 18, 10, 19, 20, 21, 22, 23, 24, 25, 26, 27, 28, 29] (by decide +kernel) (by decide +kernel)
set_option maxRecDepth 20000 in
theorem ggX9_readNumber_X9_readCell_2 : GoodIn wsX9_readNumber wsX9_readCell_r2 := goodIn_r _ [30, 31, 32, 33, 34, 35, 36, 37, 38, 39, 40, 41, 42, 43, 44, 45, 46, 47, 48, 49, 50, 51, 52, 53] (by decide +kernel) (by decide +kernel)
set_option maxRecDepth 20000 in
theorem ggX9_readNumber_X9_readCell_3 : GoodIn wsX9_readNumber wsX9_readCell_r3 := goodIn_r _ [54, 55, 56, 57, 58, 59, 60, 61, 62, 63, 64, 65, 66, 67, 68, 69, 70, 71] (by decide +kernel) (by decide +kernel)
set_option maxRecDepth 20000 in
theorem ggX9_readNumber_X9_readCell_4 : GoodIn wsX9_readNumber wsX90 := goodIn_r _ [75, 76, 77, 78, 79, 80, 81, 82, 83, 84, 85, 86, 87, 88, 89, 90, 91, 92, 93, 94, 95, 96, 97, 98, 99, 100, 101, 102, 103, 104, 105, 106, 107, 108, 109, 110, 111, 112, 113, 114, 115, 116, 117, 118, 119, 120, 121, 122, 123, 124, 125, 126, 127, 128, 129, 130, 131, 132, 133, 134, 135, 136, 137, 138, 139, 140, 141, 142, 143] (by decide +kernel) (by decide +kernel)
set_option maxRecDepth 20000 in
theorem ggX9_readNumber_X9_readCell_0 : GoodIn wsX9_readNumber [.code yX9_readCell cX9_readCell 10 none] := goodIn_r _ [11] (by decide +kernel) (by decide +kernel)
theorem ggX9_readNumber_X9_readCell : GoodIn wsX9_readNumber wsX9_readCell := goodIn_k ggX9_readNumber_X9_readCell_0 (goodIn_app (goodIn_app ggX9_readNumber_X9_readCell_1 (goodIn_app ggX9_readNumber_X9_readCell_2 ggX9_readNumber_X9_readCell_3)) ggX9_readNumber_X9_readCell_4)
set_option maxRecDepth 20000 in
theorem gX9_readNumber_X9_readCell : GoodIn wsX9_readNumber (wsV RX9 206 RX9 yX9_readCell wsX9_readCell) := goodIn_app (goodIn_of _ (by decide +kernel)) ggX9_readNumber_X9_readCell
set_option maxRecDepth 20000 in
theorem ggX9_readNumber_X9_isDigit : GoodIn wsX9_readNumber wsX9_isDigit := goodIn_r _ [74] (by decide +kernel) (by decide +kernel)
set_option maxRecDepth 20000 in
theorem gX9_readNumber_X9_isDigit : GoodIn wsX9_readNumber (va_wsS RX9 215 yX9_isDigit wsX9_isDigit) := goodIn_app (goodIn_of _ (by decide +kernel)) ggX9_readNumber_X9_isDigit
set_option maxRecDepth 20000 in
theorem ggX9_readNumber_X9_failField_1 : GoodIn wsX9_readNumber wsX9_failField_r1 := goodIn_r _ [14, 2, 21, 22, 23, 10, 24, 6, 25, 26, 27, 28, 29, 30, 31, 32, 33, 34, 35, 36, 37, 38, 39, 40] (by decide +kernel) (by decide +kernel)
set_option maxRecDepth 20000 in
theorem ggX9_readNumber_X9_failField_2 : GoodIn wsX9_readNumber wsX9_failField_r2 := goodIn_r _ [41, 42, 43, 44, 45, 46, 51, 52, 53, 54, 12, 55, 56, 57, 58, 59, 60, 61, 62, 63, 64, 65, 66, 67] (by decide +kernel) (by decide +kernel)
set_option maxRecDepth 20000 in
theorem ggX9_readNumber_X9_failField_3 : GoodIn wsX9_readNumber wsX9_failField_r3 := goodIn_r _ [68, 69, 70, 71] (by decide +kernel) (by decide +kernel)
set_option maxRecDepth 20000 in
theorem ggX9_readNumber_X9_failField_4 : GoodIn wsX9_readNumber wsX90 := goodIn_r _ [75, 76, 77, 78, 79, 80, 81, 82, 83, 84, 85, 86, 87, 88, 89, 90, 91, 92, 93, 94, 95, 96, 97, 98, 99, 100, 101, 102, 103, 104, 105, 106, 107, 108, 109, 110, 111, 112, 113, 114, 115, 116, 117, 118, 119, 120, 121, 122, 123, 124, 125, 126, 127, 128, 129, 130, 131, 132, 133, 134, 135, 136, 137, 138, 139, 140, 141, 142, 143] (by decide +kernel) (by decide +kernel)
set_option maxRecDepth 20000 in
theorem ggX9_readNumber_X9_failField_0 : GoodIn wsX9_readNumber [.code yX9_failField cX9_failField 6 (some .int)] := goodIn_r _ [50] (by decide +kernel) (by decide +kernel)
theorem ggX9_readNumber_X9_failField : GoodIn wsX9_readNumber wsX9_failField := goodIn_k ggX9_readNumber_X9_failField_0 (goodIn_app (goodIn_app ggX9_readNumber_X9_failField_1 (goodIn_app ggX9_readNumber_X9_failField_2 ggX9_readNumber_X9_failField_3)) ggX9_readNumber_X9_failField_4)
set_option maxRecDepth 20000 in
theorem gX9_readNumber_X9_failField : GoodIn wsX9_readNumber (wsV RX9 203 RX9 yX9_failField wsX9_failField) := goodIn_app (goodIn_of _ (by decide +kernel)) ggX9_readNumber_X9_failField
theorem dX9_readNumber_0 : decode cX9_readNumber 0 = .ok (.aload_n 0, 1) := by decide +kernel
theorem dX9_readNumber_1 : decode cX9_readNumber 1 = .ok (.iload_n 1, 1) := by decide +kernel
theorem dX9_readNumber_2 : decode cX9_readNumber 2 = .ok (.invokevirtual 206, 3) := by decide +kernel
theorem dX9_readNumber_5 : decode cX9_readNumber 5 = .ok (.aload_n 0, 1) := by decide +kernel
theorem dX9_readNumber_6 : decode cX9_readNumber 6 = .ok (.iconst (-1), 1) := by decide +kernel
theorem dX9_readNumber_7 : decode cX9_readNumber 7 = .ok (.putfield 212, 3) := by decide +kernel
theorem dX9_readNumber_10 : decode cX9_readNumber 10 = .ok (.aload_n 0, 1) := by decide +kernel
theorem dX9_readNumber_11 : decode cX9_readNumber 11 = .ok (.getfield 184, 3) := by decide +kernel
theorem dX9_readNumber_14 : decode cX9_readNumber 14 = .ok (.ifCond .eq 4, 3) := by decide +kernel
theorem dX9_readNumber_17 : decode cX9_readNumber 17 = .ok (.return_, 1) := by decide +kernel
theorem dX9_readNumber_18 : decode cX9_readNumber 18 = .ok (.iconst 0, 1) := by decide +kernel
theorem dX9_readNumber_19 : decode cX9_readNumber 19 = .ok (.istore_n 3, 1) := by decide +kernel
theorem dX9_readNumber_20 : decode cX9_readNumber 20 = .ok (.iconst 0, 1) := by decide +kernel
theorem dX9_readNumber_21 : decode cX9_readNumber 21 = .ok (.istore 4, 2) := by decide +kernel
theorem dX9_readNumber_23 : decode cX9_readNumber 23 = .ok (.iload_n 3, 1) := by decide +kernel
theorem dX9_readNumber_24 : decode cX9_readNumber 24 = .ok (.aload_n 0, 1) := by decide +kernel
theorem dX9_readNumber_25 : decode cX9_readNumber 25 = .ok (.getfield 191, 3) := by decide +kernel
theorem dX9_readNumber_28 : decode cX9_readNumber 28 = .ok (.if_icmp .ge 44, 3) := by decide +kernel
theorem dX9_readNumber_31 : decode cX9_readNumber 31 = .ok (.aload_n 0, 1) := by decide +kernel
theorem dX9_readNumber_32 : decode cX9_readNumber 32 = .ok (.getfield 74, 3) := by decide +kernel
theorem dX9_readNumber_35 : decode cX9_readNumber 35 = .ok (.iload_n 3, 1) := by decide +kernel
theorem dX9_readNumber_36 : decode cX9_readNumber 36 = .ok (.iaload, 1) := by decide +kernel
theorem dX9_readNumber_37 : decode cX9_readNumber 37 = .ok (.invokestatic 215, 3) := by decide +kernel
theorem dX9_readNumber_40 : decode cX9_readNumber 40 = .ok (.ifCond .eq 32, 3) := by decide +kernel
theorem dX9_readNumber_43 : decode cX9_readNumber 43 = .ok (.iload_n 3, 1) := by decide +kernel
theorem dX9_readNumber_44 : decode cX9_readNumber 44 = .ok (.bipush 6, 2) := by decide +kernel
theorem dX9_readNumber_46 : decode cX9_readNumber 46 = .ok (.if_icmp .ge 26, 3) := by decide +kernel
theorem dX9_readNumber_49 : decode cX9_readNumber 49 = .ok (.bipush 10, 2) := by decide +kernel
theorem dX9_readNumber_51 : decode cX9_readNumber 51 = .ok (.iload 4, 2) := by decide +kernel
theorem dX9_readNumber_53 : decode cX9_readNumber 53 = .ok (.imul, 1) := by decide +kernel
theorem dX9_readNumber_54 : decode cX9_readNumber 54 = .ok (.aload_n 0, 1) := by decide +kernel
theorem dX9_readNumber_55 : decode cX9_readNumber 55 = .ok (.getfield 74, 3) := by decide +kernel
theorem dX9_readNumber_58 : decode cX9_readNumber 58 = .ok (.iload_n 3, 1) := by decide +kernel
theorem dX9_readNumber_59 : decode cX9_readNumber 59 = .ok (.iaload, 1) := by decide +kernel
theorem dX9_readNumber_60 : decode cX9_readNumber 60 = .ok (.iadd, 1) := by decide +kernel
theorem dX9_readNumber_61 : decode cX9_readNumber 61 = .ok (.bipush 48, 2) := by decide +kernel
theorem dX9_readNumber_63 : decode cX9_readNumber 63 = .ok (.isub, 1) := by decide +kernel
theorem dX9_readNumber_64 : decode cX9_readNumber 64 = .ok (.istore 4, 2) := by decide +kernel
theorem dX9_readNumber_66 : decode cX9_readNumber 66 = .ok (.iinc 3 1, 3) := by decide +kernel
theorem dX9_readNumber_69 : decode cX9_readNumber 69 = .ok (.goto (-46), 3) := by decide +kernel
theorem dX9_readNumber_72 : decode cX9_readNumber 72 = .ok (.aload_n 0, 1) := by decide +kernel
theorem dX9_readNumber_73 : decode cX9_readNumber 73 = .ok (.getfield 191, 3) := by decide +kernel
theorem dX9_readNumber_76 : decode cX9_readNumber 76 = .ok (.ifCond .eq 11, 3) := by decide +kernel
theorem dX9_readNumber_79 : decode cX9_readNumber 79 = .ok (.iload_n 3, 1) := by decide +kernel
theorem dX9_readNumber_80 : decode cX9_readNumber 80 = .ok (.aload_n 0, 1) := by decide +kernel
theorem dX9_readNumber_81 : decode cX9_readNumber 81 = .ok (.getfield 191, 3) := by decide +kernel
theorem dX9_readNumber_84 : decode cX9_readNumber 84 = .ok (.if_icmp .ge 45, 3) := by decide +kernel
theorem dX9_readNumber_87 : decode cX9_readNumber 87 = .ok (.aload_n 0, 1) := by decide +kernel
theorem dX9_readNumber_88 : decode cX9_readNumber 88 = .ok (.iconst 4, 1) := by decide +kernel
theorem dX9_readNumber_89 : decode cX9_readNumber 89 = .ok (.aload_n 0, 1) := by decide +kernel
theorem dX9_readNumber_90 : decode cX9_readNumber 90 = .ok (.getfield 200, 3) := by decide +kernel
theorem dX9_readNumber_93 : decode cX9_readNumber 93 = .ok (.iconst (-1), 1) := by decide +kernel
theorem dX9_readNumber_94 : decode cX9_readNumber 94 = .ok (.invokevirtual 203, 3) := by decide +kernel
theorem dX9_readNumber_97 : decode cX9_readNumber 97 = .ok (.istore 5, 2) := by decide +kernel
theorem dX9_readNumber_99 : decode cX9_readNumber 99 = .ok (.aload_n 0, 1) := by decide +kernel
theorem dX9_readNumber_100 : decode cX9_readNumber 100 = .ok (.iload 5, 2) := by decide +kernel
theorem dX9_readNumber_102 : decode cX9_readNumber 102 = .ok (.iconst 1, 1) := by decide +kernel
theorem dX9_readNumber_103 : decode cX9_readNumber 103 = .ok (.if_icmp .ne 8, 3) := by decide +kernel
theorem dX9_readNumber_106 : decode cX9_readNumber 106 = .ok (.iload 4, 2) := by decide +kernel
theorem dX9_readNumber_108 : decode cX9_readNumber 108 = .ok (.goto 17, 3) := by decide +kernel
theorem dX9_readNumber_111 : decode cX9_readNumber 111 = .ok (.iload 5, 2) := by decide +kernel
theorem dX9_readNumber_113 : decode cX9_readNumber 113 = .ok (.iconst 2, 1) := by decide +kernel
theorem dX9_readNumber_114 : decode cX9_readNumber 114 = .ok (.if_icmp .ne 10, 3) := by decide +kernel
theorem dX9_readNumber_117 : decode cX9_readNumber 117 = .ok (.aload_n 0, 1) := by decide +kernel
theorem dX9_readNumber_118 : decode cX9_readNumber 118 = .ok (.getfield 128, 3) := by decide +kernel
theorem dX9_readNumber_121 : decode cX9_readNumber 121 = .ok (.goto 4, 3) := by decide +kernel
theorem dX9_readNumber_124 : decode cX9_readNumber 124 = .ok (.iconst (-1), 1) := by decide +kernel
theorem dX9_readNumber_125 : decode cX9_readNumber 125 = .ok (.putfield 212, 3) := by decide +kernel
theorem dX9_readNumber_128 : decode cX9_readNumber 128 = .ok (.return_, 1) := by decide +kernel
theorem dX9_readNumber_129 : decode cX9_readNumber 129 = .ok (.aload_n 0, 1) := by decide +kernel
theorem dX9_readNumber_130 : decode cX9_readNumber 130 = .ok (.iload 4, 2) := by decide +kernel
theorem dX9_readNumber_132 : decode cX9_readNumber 132 = .ok (.putfield 212, 3) := by decide +kernel
theorem dX9_readNumber_135 : decode cX9_readNumber 135 = .ok (.iload 4, 2) := by decide +kernel
theorem dX9_readNumber_137 : decode cX9_readNumber 137 = .ok (.iload_n 2, 1) := by decide +kernel
theorem dX9_readNumber_138 : decode cX9_readNumber 138 = .ok (.if_icmp .le 44, 3) := by decide +kernel
theorem dX9_readNumber_141 : decode cX9_readNumber 141 = .ok (.aload_n 0, 1) := by decide +kernel
theorem dX9_readNumber_142 : decode cX9_readNumber 142 = .ok (.iconst 5, 1) := by decide +kernel
theorem dX9_readNumber_143 : decode cX9_readNumber 143 = .ok (.aload_n 0, 1) := by decide +kernel
theorem dX9_readNumber_144 : decode cX9_readNumber 144 = .ok (.getfield 200, 3) := by decide +kernel
theorem dX9_readNumber_147 : decode cX9_readNumber 147 = .ok (.iconst (-1), 1) := by decide +kernel
theorem dX9_readNumber_148 : decode cX9_readNumber 148 = .ok (.invokevirtual 203, 3) := by decide +kernel
theorem dX9_readNumber_151 : decode cX9_readNumber 151 = .ok (.istore 5, 2) := by decide +kernel
theorem dX9_readNumber_153 : decode cX9_readNumber 153 = .ok (.aload_n 0, 1) := by decide +kernel
theorem dX9_readNumber_154 : decode cX9_readNumber 154 = .ok (.iload 5, 2) := by decide +kernel
theorem dX9_readNumber_156 : decode cX9_readNumber 156 = .ok (.iconst 1, 1) := by decide +kernel
theorem dX9_readNumber_157 : decode cX9_readNumber 157 = .ok (.if_icmp .ne 8, 3) := by decide +kernel
theorem dX9_readNumber_160 : decode cX9_readNumber 160 = .ok (.iload 4, 2) := by decide +kernel
theorem dX9_readNumber_162 : decode cX9_readNumber 162 = .ok (.goto 17, 3) := by decide +kernel
theorem dX9_readNumber_165 : decode cX9_readNumber 165 = .ok (.iload 5, 2) := by decide +kernel
theorem dX9_readNumber_167 : decode cX9_readNumber 167 = .ok (.iconst 2, 1) := by decide +kernel
theorem dX9_readNumber_168 : decode cX9_readNumber 168 = .ok (.if_icmp .ne 10, 3) := by decide +kernel
theorem dX9_readNumber_171 : decode cX9_readNumber 171 = .ok (.aload_n 0, 1) := by decide +kernel
theorem dX9_readNumber_172 : decode cX9_readNumber 172 = .ok (.getfield 128, 3) := by decide +kernel
theorem dX9_readNumber_175 : decode cX9_readNumber 175 = .ok (.goto 4, 3) := by decide +kernel
theorem dX9_readNumber_178 : decode cX9_readNumber 178 = .ok (.iconst (-1), 1) := by decide +kernel
theorem dX9_readNumber_179 : decode cX9_readNumber 179 = .ok (.putfield 212, 3) := by decide +kernel
theorem dX9_readNumber_182 : decode cX9_readNumber 182 = .ok (.return_, 1) := by decide +kernel
set_option maxRecDepth 20000 in
theorem ggX9_readSex_X9_readCell_1 : GoodIn wsX9_readSex wsX9_readCell_r1 := goodIn_r _ [2, 3, 12, 13, 5, 14, 6, 4, 15, 16, 17, 18, 10, 19, 20, 21, 22, 23, 24, 25, 26, 27, 28, 29] (by decide +kernel) (by decide +kernel)
set_option maxRecDepth 20000 in
theorem ggX9_readSex_X9_readCell_2 : GoodIn wsX9_readSex wsX9_readCell_r2 := goodIn_r _ [30, 31, 32, 33, 34, 35, 36, 37, 38, 39, 40, 41, 42, 43, 44, 45, 46, 47, 48, 49, 50, 51, 52, 53] (by decide +kernel) (by decide +kernel)
set_option maxRecDepth 20000 in
theorem ggX9_readSex_X9_readCell_3 : GoodIn wsX9_readSex wsX9_readCell_r3 := goodIn_r _ [54, 55, 56, 57, 58, 59, 60, 61, 62, 63, 64, 65, 66, 67, 68, 69, 70, 71] (by decide +kernel) (by decide +kernel)
set_option maxRecDepth 20000 in
theorem ggX9_readSex_X9_readCell_4 : GoodIn wsX9_readSex wsX90 := goodIn_r _ [72, 73, 74, 75, 76, 77, 78, 79, 80, 81, 82, 83, 84, 85, 86, 87, 88, 89, 90, 91, 92, 93, 94, 95, 96, 97, 98, 99, 100, 101, 102, 103, 104, 105, 106, 107, 108, 109, 110, 111, 112, 113, 114, 115, 116, 117, 118, 119, 120, 121, 122, 123, 124, 125, 126, 127, 128, 129, 130, 131, 132, 133, 134, 135, 136, 137, 138, 139, 140] (by decide +kernel) (by decide +kernel)
set_option maxRecDepth 20000 in
theorem ggX9_readSex_X9_readCell_0 : GoodIn wsX9_readSex [.code yX9_readCell cX9_readCell 10 none] := goodIn_r _ [11] (by decide +kernel) (by decide +kernel)
theorem ggX9_readSex_X9_readCell : GoodIn wsX9_readSex wsX9_readCell := goodIn_k ggX9_readSex_X9_readCell_0 (goodIn_app (goodIn_app ggX9_readSex_X9_readCell_1 (goodIn_app ggX9_readSex_X9_readCell_2 ggX9_readSex_X9_readCell_3)) ggX9_readSex_X9_readCell_4)
set_option maxRecDepth 20000 in
theorem gX9_readSex_X9_readCell : GoodIn wsX9_readSex (wsV RX9 206 RX9 yX9_readCell wsX9_readCell) := goodIn_app (goodIn_of _ (by decide +kernel)) ggX9_readSex_X9_readCell
set_option maxRecDepth 20000 in
theorem ggX9_readSex_X9_failField_1 : GoodIn wsX9_readSex wsX9_failField_r1 := goodIn_r _ [14, 2, 21, 22, 23, 10, 24, 6, 25, 26, 27, 28, 29, 30, 31, 32, 33, 34, 35, 36, 37, 38, 39, 40] (by decide +kernel) (by decide +kernel)
set_option maxRecDepth 20000 in
theorem ggX9_readSex_X9_failField_2 : GoodIn wsX9_readSex wsX9_failField_r2 := goodIn_r _ [41, 42, 43, 44, 45, 46, 51, 52, 53, 54, 12, 55, 56, 57, 58, 59, 60, 61, 62, 63, 64, 65, 66, 67] (by decide +kernel) (by decide +kernel)
set_option maxRecDepth 20000 in
theorem ggX9_readSex_X9_failField_3 : GoodIn wsX9_readSex wsX9_failField_r3 := goodIn_r _ [68, 69, 70, 71] (by decide +kernel) (by decide +kernel)
set_option maxRecDepth 20000 in
theorem ggX9_readSex_X9_failField_4 : GoodIn wsX9_readSex wsX90 := goodIn_r _ [72, 73, 74, 75, 76, 77, 78, 79, 80, 81, 82, 83, 84, 85, 86, 87, 88, 89, 90, 91, 92, 93, 94, 95, 96, 97, 98, 99, 100, 101, 102, 103, 104, 105, 106, 107, 108, 109, 110, 111, 112, 113, 114, 115, 116, 117, 118, 119, 120, 121, 122, 123, 124, 125, 126, 127, 128, 129, 130, 131, 132, 133, 134, 135, 136, 137, 138, 139, 140] (by decide +kernel) (by decide +kernel)
set_option maxRecDepth 20000 in
theorem ggX9_readSex_X9_failField_0 : GoodIn wsX9_readSex [.code yX9_failField cX9_failField 6 (some .int)] := goodIn_r _ [50] (by decide +kernel) (by decide +kernel)
theorem ggX9_readSex_X9_failField : GoodIn wsX9_readSex wsX9_failField := goodIn_k ggX9_readSex_X9_failField_0 (goodIn_app (goodIn_app ggX9_readSex_X9_failField_1 (goodIn_app ggX9_readSex_X9_failField_2 ggX9_readSex_X9_failField_3)) ggX9_readSex_X9_failField_4)
set_option maxRecDepth 20000 in
theorem gX9_readSex_X9_failField : GoodIn wsX9_readSex (wsV RX9 203 RX9 yX9_failField wsX9_failField) := goodIn_app (goodIn_of _ (by decide +kernel)) ggX9_readSex_X9_failField
theorem dX9_readSex_0 : decode cX9_readSex 0 = .ok (.aload_n 0, 1) := by decide +kernel
theorem dX9_readSex_1 : decode cX9_readSex 1 = .ok (.iload_n 1, 1) := by decide +kernel
theorem dX9_readSex_2 : decode cX9_readSex 2 = .ok (.invokevirtual 206, 3) := by decide +kernel
theorem dX9_readSex_5 : decode cX9_readSex 5 = .ok (.aload_n 0, 1) := by decide +kernel
theorem dX9_readSex_6 : decode cX9_readSex 6 = .ok (.iconst (-1), 1) := by decide +kernel
theorem dX9_readSex_7 : decode cX9_readSex 7 = .ok (.putfield 212, 3) := by decide +kernel
theorem dX9_readSex_10 : decode cX9_readSex 10 = .ok (.aload_n 0, 1) := by decide +kernel
theorem dX9_readSex_11 : decode cX9_readSex 11 = .ok (.getfield 184, 3) := by decide +kernel
theorem dX9_readSex_14 : decode cX9_readSex 14 = .ok (.ifCond .eq 4, 3) := by decide +kernel
theorem dX9_readSex_17 : decode cX9_readSex 17 = .ok (.return_, 1) := by decide +kernel
theorem dX9_readSex_18 : decode cX9_readSex 18 = .ok (.aload_n 0, 1) := by decide +kernel
theorem dX9_readSex_19 : decode cX9_readSex 19 = .ok (.getfield 191, 3) := by decide +kernel
theorem dX9_readSex_22 : decode cX9_readSex 22 = .ok (.iconst 1, 1) := by decide +kernel
theorem dX9_readSex_23 : decode cX9_readSex 23 = .ok (.if_icmp .ne 48, 3) := by decide +kernel
theorem dX9_readSex_26 : decode cX9_readSex 26 = .ok (.aload_n 0, 1) := by decide +kernel
theorem dX9_readSex_27 : decode cX9_readSex 27 = .ok (.getfield 74, 3) := by decide +kernel
theorem dX9_readSex_30 : decode cX9_readSex 30 = .ok (.iconst 0, 1) := by decide +kernel
theorem dX9_readSex_31 : decode cX9_readSex 31 = .ok (.iaload, 1) := by decide +kernel
theorem dX9_readSex_32 : decode cX9_readSex 32 = .ok (.bipush 109, 2) := by decide +kernel
theorem dX9_readSex_34 : decode cX9_readSex 34 = .ok (.if_icmp .eq 14, 3) := by decide +kernel
theorem dX9_readSex_37 : decode cX9_readSex 37 = .ok (.aload_n 0, 1) := by decide +kernel
theorem dX9_readSex_38 : decode cX9_readSex 38 = .ok (.getfield 74, 3) := by decide +kernel
theorem dX9_readSex_41 : decode cX9_readSex 41 = .ok (.iconst 0, 1) := by decide +kernel
theorem dX9_readSex_42 : decode cX9_readSex 42 = .ok (.iaload, 1) := by decide +kernel
theorem dX9_readSex_43 : decode cX9_readSex 43 = .ok (.bipush 102, 2) := by decide +kernel
theorem dX9_readSex_45 : decode cX9_readSex 45 = .ok (.if_icmp .ne 26, 3) := by decide +kernel
theorem dX9_readSex_48 : decode cX9_readSex 48 = .ok (.aload_n 0, 1) := by decide +kernel
theorem dX9_readSex_49 : decode cX9_readSex 49 = .ok (.aload_n 0, 1) := by decide +kernel
theorem dX9_readSex_50 : decode cX9_readSex 50 = .ok (.getfield 74, 3) := by decide +kernel
theorem dX9_readSex_53 : decode cX9_readSex 53 = .ok (.iconst 0, 1) := by decide +kernel
theorem dX9_readSex_54 : decode cX9_readSex 54 = .ok (.iaload, 1) := by decide +kernel
theorem dX9_readSex_55 : decode cX9_readSex 55 = .ok (.bipush 109, 2) := by decide +kernel
theorem dX9_readSex_57 : decode cX9_readSex 57 = .ok (.if_icmp .ne 7, 3) := by decide +kernel
theorem dX9_readSex_60 : decode cX9_readSex 60 = .ok (.iconst 0, 1) := by decide +kernel
theorem dX9_readSex_61 : decode cX9_readSex 61 = .ok (.goto 4, 3) := by decide +kernel
theorem dX9_readSex_64 : decode cX9_readSex 64 = .ok (.iconst 1, 1) := by decide +kernel
theorem dX9_readSex_65 : decode cX9_readSex 65 = .ok (.putfield 212, 3) := by decide +kernel
theorem dX9_readSex_68 : decode cX9_readSex 68 = .ok (.goto 47, 3) := by decide +kernel
theorem dX9_readSex_71 : decode cX9_readSex 71 = .ok (.aload_n 0, 1) := by decide +kernel
theorem dX9_readSex_72 : decode cX9_readSex 72 = .ok (.bipush 6, 2) := by decide +kernel
theorem dX9_readSex_74 : decode cX9_readSex 74 = .ok (.aload_n 0, 1) := by decide +kernel
theorem dX9_readSex_75 : decode cX9_readSex 75 = .ok (.getfield 200, 3) := by decide +kernel
theorem dX9_readSex_78 : decode cX9_readSex 78 = .ok (.iconst (-1), 1) := by decide +kernel
theorem dX9_readSex_79 : decode cX9_readSex 79 = .ok (.invokevirtual 203, 3) := by decide +kernel
theorem dX9_readSex_82 : decode cX9_readSex 82 = .ok (.istore_n 2, 1) := by decide +kernel
theorem dX9_readSex_83 : decode cX9_readSex 83 = .ok (.aload_n 0, 1) := by decide +kernel
theorem dX9_readSex_84 : decode cX9_readSex 84 = .ok (.iload_n 2, 1) := by decide +kernel
theorem dX9_readSex_85 : decode cX9_readSex 85 = .ok (.iconst 2, 1) := by decide +kernel
theorem dX9_readSex_86 : decode cX9_readSex 86 = .ok (.if_icmp .ne 25, 3) := by decide +kernel
theorem dX9_readSex_89 : decode cX9_readSex 89 = .ok (.aload_n 0, 1) := by decide +kernel
theorem dX9_readSex_90 : decode cX9_readSex 90 = .ok (.getfield 128, 3) := by decide +kernel
theorem dX9_readSex_93 : decode cX9_readSex 93 = .ok (.ifCond .eq 11, 3) := by decide +kernel
theorem dX9_readSex_96 : decode cX9_readSex 96 = .ok (.aload_n 0, 1) := by decide +kernel
theorem dX9_readSex_97 : decode cX9_readSex 97 = .ok (.getfield 128, 3) := by decide +kernel
theorem dX9_readSex_100 : decode cX9_readSex 100 = .ok (.iconst 1, 1) := by decide +kernel
theorem dX9_readSex_101 : decode cX9_readSex 101 = .ok (.if_icmp .ne 10, 3) := by decide +kernel
theorem dX9_readSex_104 : decode cX9_readSex 104 = .ok (.aload_n 0, 1) := by decide +kernel
theorem dX9_readSex_105 : decode cX9_readSex 105 = .ok (.getfield 128, 3) := by decide +kernel
theorem dX9_readSex_108 : decode cX9_readSex 108 = .ok (.goto 4, 3) := by decide +kernel
theorem dX9_readSex_111 : decode cX9_readSex 111 = .ok (.iconst (-1), 1) := by decide +kernel
theorem dX9_readSex_112 : decode cX9_readSex 112 = .ok (.putfield 212, 3) := by decide +kernel
theorem dX9_readSex_115 : decode cX9_readSex 115 = .ok (.return_, 1) := by decide +kernel
set_option maxRecDepth 20000 in
theorem ggX9_readTrade_X9_readCell_1 : GoodIn wsX9_readTrade wsX9_readCell_r1 := goodIn_r _ [2, 3, 12, 13, 5, 14, 6, 4, 15, 16, 17, 18, 10, 19, 20, 21, 22, 23, 24, 25, 26, 27, 28, 29] (by decide +kernel) (by decide +kernel)
set_option maxRecDepth 20000 in
theorem ggX9_readTrade_X9_readCell_2 : GoodIn wsX9_readTrade wsX9_readCell_r2 := goodIn_r _ [30, 31, 32, 33, 34, 35, 36, 37, 38, 39, 40, 41, 42, 43, 44, 45, 46, 47, 48, 49, 50, 51, 52, 53] (by decide +kernel) (by decide +kernel)
set_option maxRecDepth 20000 in
theorem ggX9_readTrade_X9_readCell_3 : GoodIn wsX9_readTrade wsX9_readCell_r3 := goodIn_r _ [54, 55, 56, 57, 58, 59, 60, 61, 62, 63, 64, 65, 66, 67, 68, 69, 70, 71] (by decide +kernel) (by decide +kernel)
set_option maxRecDepth 20000 in
theorem ggX9_readTrade_X9_readCell_4 : GoodIn wsX9_readTrade wsX90 := goodIn_r _ [75, 76, 77, 78, 79, 80, 81, 82, 83, 84, 85, 86, 87, 88, 89, 90, 91, 92, 93, 94, 95, 96, 97, 98, 99, 100, 101, 102, 103, 104, 105, 106, 107, 108, 109, 110, 111, 112, 113, 114, 115, 116, 117, 118, 119, 120, 121, 122, 123, 124, 125, 126, 127, 128, 129, 130, 131, 132, 133, 134, 135, 136, 137, 138, 139, 140, 141, 142, 143] (by decide +kernel) (by decide +kernel)
set_option maxRecDepth 20000 in
theorem ggX9_readTrade_X9_readCell_0 : GoodIn wsX9_readTrade [.code yX9_readCell cX9_readCell 10 none] := goodIn_r _ [11] (by decide +kernel) (by decide +kernel)
theorem ggX9_readTrade_X9_readCell : GoodIn wsX9_readTrade wsX9_readCell := goodIn_k ggX9_readTrade_X9_readCell_0 (goodIn_app (goodIn_app ggX9_readTrade_X9_readCell_1 (goodIn_app ggX9_readTrade_X9_readCell_2 ggX9_readTrade_X9_readCell_3)) ggX9_readTrade_X9_readCell_4)
set_option maxRecDepth 20000 in
theorem gX9_readTrade_X9_readCell : GoodIn wsX9_readTrade (wsV RX9 206 RX9 yX9_readCell wsX9_readCell) := goodIn_app (goodIn_of _ (by decide +kernel)) ggX9_readTrade_X9_readCell
set_option maxRecDepth 20000 in
theorem ggX9_readTrade_X9_isDigit : GoodIn wsX9_readTrade wsX9_isDigit := goodIn_r _ [74] (by decide +kernel) (by decide +kernel)
set_option maxRecDepth 20000 in
theorem gX9_readTrade_X9_isDigit : GoodIn wsX9_readTrade (va_wsS RX9 215 yX9_isDigit wsX9_isDigit) := goodIn_app (goodIn_of _ (by decide +kernel)) ggX9_readTrade_X9_isDigit
set_option maxRecDepth 20000 in
theorem ggX9_readTrade_X9_failField_1 : GoodIn wsX9_readTrade wsX9_failField_r1 := goodIn_r _ [14, 2, 21, 22, 23, 10, 24, 6, 25, 26, 27, 28, 29, 30, 31, 32, 33, 34, 35, 36, 37, 38, 39, 40] (by decide +kernel) (by decide +kernel)
set_option maxRecDepth 20000 in
theorem ggX9_readTrade_X9_failField_2 : GoodIn wsX9_readTrade wsX9_failField_r2 := goodIn_r _ [41, 42, 43, 44, 45, 46, 51, 52, 53, 54, 12, 55, 56, 57, 58, 59, 60, 61, 62, 63, 64, 65, 66, 67] (by decide +kernel) (by decide +kernel)
set_option maxRecDepth 20000 in
theorem ggX9_readTrade_X9_failField_3 : GoodIn wsX9_readTrade wsX9_failField_r3 := goodIn_r _ [68, 69, 70, 71] (by decide +kernel) (by decide +kernel)
set_option maxRecDepth 20000 in
theorem ggX9_readTrade_X9_failField_4 : GoodIn wsX9_readTrade wsX90 := goodIn_r _ [75, 76, 77, 78, 79, 80, 81, 82, 83, 84, 85, 86, 87, 88, 89, 90, 91, 92, 93, 94, 95, 96, 97, 98, 99, 100, 101, 102, 103, 104, 105, 106, 107, 108, 109, 110, 111, 112, 113, 114, 115, 116, 117, 118, 119, 120, 121, 122, 123, 124, 125, 126, 127, 128, 129, 130, 131, 132, 133, 134, 135, 136, 137, 138, 139, 140, 141, 142, 143] (by decide +kernel) (by decide +kernel)
set_option maxRecDepth 20000 in
theorem ggX9_readTrade_X9_failField_0 : GoodIn wsX9_readTrade [.code yX9_failField cX9_failField 6 (some .int)] := goodIn_r _ [50] (by decide +kernel) (by decide +kernel)
theorem ggX9_readTrade_X9_failField : GoodIn wsX9_readTrade wsX9_failField := goodIn_k ggX9_readTrade_X9_failField_0 (goodIn_app (goodIn_app ggX9_readTrade_X9_failField_1 (goodIn_app ggX9_readTrade_X9_failField_2 ggX9_readTrade_X9_failField_3)) ggX9_readTrade_X9_failField_4)
set_option maxRecDepth 20000 in
theorem gX9_readTrade_X9_failField : GoodIn wsX9_readTrade (wsV RX9 203 RX9 yX9_failField wsX9_failField) := goodIn_app (goodIn_of _ (by decide +kernel)) ggX9_readTrade_X9_failField
theorem dX9_readTrade_0 : decode cX9_readTrade 0 = .ok (.aload_n 0, 1) := by decide +kernel
theorem dX9_readTrade_1 : decode cX9_readTrade 1 = .ok (.iload_n 1, 1) := by decide +kernel
theorem dX9_readTrade_2 : decode cX9_readTrade 2 = .ok (.invokevirtual 206, 3) := by decide +kernel
theorem dX9_readTrade_5 : decode cX9_readTrade 5 = .ok (.aload_n 0, 1) := by decide +kernel
theorem dX9_readTrade_6 : decode cX9_readTrade 6 = .ok (.iconst (-1), 1) := by decide +kernel
theorem dX9_readTrade_7 : decode cX9_readTrade 7 = .ok (.putfield 212, 3) := by decide +kernel
theorem dX9_readTrade_10 : decode cX9_readTrade 10 = .ok (.aload_n 0, 1) := by decide +kernel
theorem dX9_readTrade_11 : decode cX9_readTrade 11 = .ok (.getfield 184, 3) := by decide +kernel
theorem dX9_readTrade_14 : decode cX9_readTrade 14 = .ok (.ifCond .eq 4, 3) := by decide +kernel
theorem dX9_readTrade_17 : decode cX9_readTrade 17 = .ok (.return_, 1) := by decide +kernel
theorem dX9_readTrade_18 : decode cX9_readTrade 18 = .ok (.aload_n 0, 1) := by decide +kernel
theorem dX9_readTrade_19 : decode cX9_readTrade 19 = .ok (.getfield 191, 3) := by decide +kernel
theorem dX9_readTrade_22 : decode cX9_readTrade 22 = .ok (.ifCond .ne 11, 3) := by decide +kernel
theorem dX9_readTrade_25 : decode cX9_readTrade 25 = .ok (.aload_n 0, 1) := by decide +kernel
theorem dX9_readTrade_26 : decode cX9_readTrade 26 = .ok (.iconst 0, 1) := by decide +kernel
theorem dX9_readTrade_27 : decode cX9_readTrade 27 = .ok (.putfield 212, 3) := by decide +kernel
theorem dX9_readTrade_30 : decode cX9_readTrade 30 = .ok (.goto 68, 3) := by decide +kernel
theorem dX9_readTrade_33 : decode cX9_readTrade 33 = .ok (.aload_n 0, 1) := by decide +kernel
theorem dX9_readTrade_34 : decode cX9_readTrade 34 = .ok (.getfield 191, 3) := by decide +kernel
theorem dX9_readTrade_37 : decode cX9_readTrade 37 = .ok (.iconst 1, 1) := by decide +kernel
theorem dX9_readTrade_38 : decode cX9_readTrade 38 = .ok (.if_icmp .ne 31, 3) := by decide +kernel
theorem dX9_readTrade_41 : decode cX9_readTrade 41 = .ok (.aload_n 0, 1) := by decide +kernel
theorem dX9_readTrade_42 : decode cX9_readTrade 42 = .ok (.getfield 74, 3) := by decide +kernel
theorem dX9_readTrade_45 : decode cX9_readTrade 45 = .ok (.iconst 0, 1) := by decide +kernel
theorem dX9_readTrade_46 : decode cX9_readTrade 46 = .ok (.iaload, 1) := by decide +kernel
theorem dX9_readTrade_47 : decode cX9_readTrade 47 = .ok (.invokestatic 215, 3) := by decide +kernel
theorem dX9_readTrade_50 : decode cX9_readTrade 50 = .ok (.ifCond .eq 19, 3) := by decide +kernel
theorem dX9_readTrade_53 : decode cX9_readTrade 53 = .ok (.aload_n 0, 1) := by decide +kernel
theorem dX9_readTrade_54 : decode cX9_readTrade 54 = .ok (.aload_n 0, 1) := by decide +kernel
theorem dX9_readTrade_55 : decode cX9_readTrade 55 = .ok (.getfield 74, 3) := by decide +kernel
theorem dX9_readTrade_58 : decode cX9_readTrade 58 = .ok (.iconst 0, 1) := by decide +kernel
theorem dX9_readTrade_59 : decode cX9_readTrade 59 = .ok (.iaload, 1) := by decide +kernel
theorem dX9_readTrade_60 : decode cX9_readTrade 60 = .ok (.bipush 48, 2) := by decide +kernel
theorem dX9_readTrade_62 : decode cX9_readTrade 62 = .ok (.isub, 1) := by decide +kernel
theorem dX9_readTrade_63 : decode cX9_readTrade 63 = .ok (.putfield 212, 3) := by decide +kernel
theorem dX9_readTrade_66 : decode cX9_readTrade 66 = .ok (.goto 32, 3) := by decide +kernel
theorem dX9_readTrade_69 : decode cX9_readTrade 69 = .ok (.aload_n 0, 1) := by decide +kernel
theorem dX9_readTrade_70 : decode cX9_readTrade 70 = .ok (.bipush 7, 2) := by decide +kernel
theorem dX9_readTrade_72 : decode cX9_readTrade 72 = .ok (.aload_n 0, 1) := by decide +kernel
theorem dX9_readTrade_73 : decode cX9_readTrade 73 = .ok (.getfield 200, 3) := by decide +kernel
theorem dX9_readTrade_76 : decode cX9_readTrade 76 = .ok (.iconst (-1), 1) := by decide +kernel
theorem dX9_readTrade_77 : decode cX9_readTrade 77 = .ok (.invokevirtual 203, 3) := by decide +kernel
theorem dX9_readTrade_80 : decode cX9_readTrade 80 = .ok (.istore_n 2, 1) := by decide +kernel
theorem dX9_readTrade_81 : decode cX9_readTrade 81 = .ok (.aload_n 0, 1) := by decide +kernel
theorem dX9_readTrade_82 : decode cX9_readTrade 82 = .ok (.iload_n 2, 1) := by decide +kernel
theorem dX9_readTrade_83 : decode cX9_readTrade 83 = .ok (.iconst 2, 1) := by decide +kernel
theorem dX9_readTrade_84 : decode cX9_readTrade 84 = .ok (.if_icmp .ne 10, 3) := by decide +kernel
theorem dX9_readTrade_87 : decode cX9_readTrade 87 = .ok (.aload_n 0, 1) := by decide +kernel
theorem dX9_readTrade_88 : decode cX9_readTrade 88 = .ok (.getfield 128, 3) := by decide +kernel
theorem dX9_readTrade_91 : decode cX9_readTrade 91 = .ok (.goto 4, 3) := by decide +kernel
theorem dX9_readTrade_94 : decode cX9_readTrade 94 = .ok (.iconst (-1), 1) := by decide +kernel
theorem dX9_readTrade_95 : decode cX9_readTrade 95 = .ok (.putfield 212, 3) := by decide +kernel
theorem dX9_readTrade_98 : decode cX9_readTrade 98 = .ok (.return_, 1) := by decide +kernel
set_option maxRecDepth 20000 in
theorem ggX9_isLine_X9_at : GoodIn wsX9_isLine wsX9_at := goodIn_r _ [10, 11, 59, 60, 61, 62, 63, 64, 65, 66, 67, 68, 69, 70, 71, 72, 73, 74, 75, 76, 77, 78, 79, 80, 81, 82, 83, 84, 85, 86, 87, 88, 89, 90, 91, 92, 93, 94, 95, 96, 97, 98, 99, 100, 101, 102, 103, 104, 105, 106, 107, 108, 109, 110, 111, 112, 113, 114, 115, 116, 117, 118, 119, 120, 121, 122, 123, 124, 125, 126, 127] (by decide +kernel) (by decide +kernel)
set_option maxRecDepth 20000 in
theorem gX9_isLine_X9_at : GoodIn wsX9_isLine (wsV RX9 197 RX9 yX9_at wsX9_at) := goodIn_app (goodIn_of _ (by decide +kernel)) ggX9_isLine_X9_at
set_option maxRecDepth 20000 in
theorem ggX9_isLine_X9_failLine_1 : GoodIn wsX9_isLine wsX9_failLine_r1 := goodIn_r _ [3, 16, 1, 17, 18, 19, 9, 20, 21, 22, 23, 24, 4, 25, 26, 27, 28, 29, 30, 31, 32, 33, 34, 35] (by decide +kernel) (by decide +kernel)
set_option maxRecDepth 20000 in
theorem ggX9_isLine_X9_failLine_2 : GoodIn wsX9_isLine wsX9_failLine_r2 := goodIn_r _ [36, 37, 38, 39, 40, 41, 42, 43, 44, 45, 46, 47, 48, 49, 50, 51, 52, 53, 54, 55, 56, 57, 58] (by decide +kernel) (by decide +kernel)
set_option maxRecDepth 20000 in
theorem ggX9_isLine_X9_failLine_3 : GoodIn wsX9_isLine wsX90 := goodIn_r _ [59, 60, 61, 62, 63, 64, 65, 66, 67, 68, 69, 70, 71, 72, 73, 74, 75, 76, 77, 78, 79, 80, 81, 82, 83, 84, 85, 86, 87, 88, 89, 90, 91, 92, 93, 94, 95, 96, 97, 98, 99, 100, 101, 102, 103, 104, 105, 106, 107, 108, 109, 110, 111, 112, 113, 114, 115, 116, 117, 118, 119, 120, 121, 122, 123, 124, 125, 126, 127] (by decide +kernel) (by decide +kernel)
set_option maxRecDepth 20000 in
theorem ggX9_isLine_X9_failLine_0 : GoodIn wsX9_isLine [.code yX9_failLine cX9_failLine 5 none] := goodIn_r _ [15] (by decide +kernel) (by decide +kernel)
theorem ggX9_isLine_X9_failLine : GoodIn wsX9_isLine wsX9_failLine := goodIn_k ggX9_isLine_X9_failLine_0 (goodIn_app (goodIn_app ggX9_isLine_X9_failLine_1 ggX9_isLine_X9_failLine_2) ggX9_isLine_X9_failLine_3)
set_option maxRecDepth 20000 in
theorem gX9_isLine_X9_failLine : GoodIn wsX9_isLine (wsV RX9 187 RX9 yX9_failLine wsX9_failLine) := goodIn_app (goodIn_of _ (by decide +kernel)) ggX9_isLine_X9_failLine
set_option maxRecDepth 20000 in
theorem ggX9_isLine_X9_failSheet_1 : GoodIn wsX9_isLine wsX9_failSheet_r1 := goodIn_r _ [58, 16, 17, 18, 19, 9, 20, 21, 22, 23, 24, 4, 25, 26, 27, 28, 29, 30, 31, 32, 33, 34, 35, 36] (by decide +kernel) (by decide +kernel)
set_option maxRecDepth 20000 in
theorem ggX9_isLine_X9_failSheet_2 : GoodIn wsX9_isLine wsX9_failSheet_r2 := goodIn_r _ [37, 38, 39, 40, 41, 42] (by decide +kernel) (by decide +kernel)
set_option maxRecDepth 20000 in
theorem ggX9_isLine_X9_failSheet_3 : GoodIn wsX9_isLine wsX90 := goodIn_r _ [59, 60, 61, 62, 63, 64, 65, 66, 67, 68, 69, 70, 71, 72, 73, 74, 75, 76, 77, 78, 79, 80, 81, 82, 83, 84, 85, 86, 87, 88, 89, 90, 91, 92, 93, 94, 95, 96, 97, 98, 99, 100, 101, 102, 103, 104, 105, 106, 107, 108, 109, 110, 111, 112, 113, 114, 115, 116, 117, 118, 119, 120, 121, 122, 123, 124, 125, 126, 127] (by decide +kernel) (by decide +kernel)
set_option maxRecDepth 20000 in
theorem ggX9_isLine_X9_failSheet_0 : GoodIn wsX9_isLine [.code yX9_failSheet cX9_failSheet 5 none] := goodIn_r _ [57] (by decide +kernel) (by decide +kernel)
theorem ggX9_isLine_X9_failSheet : GoodIn wsX9_isLine wsX9_failSheet := goodIn_k ggX9_isLine_X9_failSheet_0 (goodIn_app (goodIn_app ggX9_isLine_X9_failSheet_1 ggX9_isLine_X9_failSheet_2) ggX9_isLine_X9_failSheet_3)
set_option maxRecDepth 20000 in
theorem gX9_isLine_X9_failSheet : GoodIn wsX9_isLine (wsV RX9 167 RX9 yX9_failSheet wsX9_failSheet) := goodIn_app (goodIn_of _ (by decide +kernel)) ggX9_isLine_X9_failSheet
theorem dX9_isLine_0 : decode cX9_isLine 0 = .ok (.aload_n 0, 1) := by decide +kernel
theorem dX9_isLine_1 : decode cX9_isLine 1 = .ok (.iconst 0, 1) := by decide +kernel
theorem dX9_isLine_2 : decode cX9_isLine 2 = .ok (.putfield 177, 3) := by decide +kernel
theorem dX9_isLine_5 : decode cX9_isLine 5 = .ok (.iload_n 1, 1) := by decide +kernel
theorem dX9_isLine_6 : decode cX9_isLine 6 = .ok (.bipush 72, 2) := by decide +kernel
theorem dX9_isLine_8 : decode cX9_isLine 8 = .ok (.if_icmp .eq 15, 3) := by decide +kernel
theorem dX9_isLine_11 : decode cX9_isLine 11 = .ok (.iload_n 1, 1) := by decide +kernel
theorem dX9_isLine_12 : decode cX9_isLine 12 = .ok (.bipush 80, 2) := by decide +kernel
theorem dX9_isLine_14 : decode cX9_isLine 14 = .ok (.if_icmp .eq 9, 3) := by decide +kernel
theorem dX9_isLine_17 : decode cX9_isLine 17 = .ok (.iload_n 1, 1) := by decide +kernel
theorem dX9_isLine_18 : decode cX9_isLine 18 = .ok (.bipush 83, 2) := by decide +kernel
theorem dX9_isLine_20 : decode cX9_isLine 20 = .ok (.if_icmp .ne 31, 3) := by decide +kernel
theorem dX9_isLine_23 : decode cX9_isLine 23 = .ok (.aload_n 0, 1) := by decide +kernel
theorem dX9_isLine_24 : decode cX9_isLine 24 = .ok (.getfield 194, 3) := by decide +kernel
theorem dX9_isLine_27 : decode cX9_isLine 27 = .ok (.aload_n 0, 1) := by decide +kernel
theorem dX9_isLine_28 : decode cX9_isLine 28 = .ok (.getfield 171, 3) := by decide +kernel
theorem dX9_isLine_31 : decode cX9_isLine 31 = .ok (.iconst 1, 1) := by decide +kernel
theorem dX9_isLine_32 : decode cX9_isLine 32 = .ok (.iadd, 1) := by decide +kernel
theorem dX9_isLine_33 : decode cX9_isLine 33 = .ok (.if_icmp .le 27, 3) := by decide +kernel
theorem dX9_isLine_36 : decode cX9_isLine 36 = .ok (.aload_n 0, 1) := by decide +kernel
theorem dX9_isLine_37 : decode cX9_isLine 37 = .ok (.aload_n 0, 1) := by decide +kernel
theorem dX9_isLine_38 : decode cX9_isLine 38 = .ok (.getfield 171, 3) := by decide +kernel
theorem dX9_isLine_41 : decode cX9_isLine 41 = .ok (.iconst 1, 1) := by decide +kernel
theorem dX9_isLine_42 : decode cX9_isLine 42 = .ok (.iadd, 1) := by decide +kernel
theorem dX9_isLine_43 : decode cX9_isLine 43 = .ok (.invokevirtual 197, 3) := by decide +kernel
theorem dX9_isLine_46 : decode cX9_isLine 46 = .ok (.bipush 124, 2) := by decide +kernel
theorem dX9_isLine_48 : decode cX9_isLine 48 = .ok (.if_icmp .eq 12, 3) := by decide +kernel
theorem dX9_isLine_51 : decode cX9_isLine 51 = .ok (.aload_n 0, 1) := by decide +kernel
theorem dX9_isLine_52 : decode cX9_isLine 52 = .ok (.bipush 9, 2) := by decide +kernel
theorem dX9_isLine_54 : decode cX9_isLine 54 = .ok (.iconst (-1), 1) := by decide +kernel
theorem dX9_isLine_55 : decode cX9_isLine 55 = .ok (.invokevirtual 187, 3) := by decide +kernel
theorem dX9_isLine_58 : decode cX9_isLine 58 = .ok (.iconst 0, 1) := by decide +kernel
theorem dX9_isLine_59 : decode cX9_isLine 59 = .ok (.ireturn, 1) := by decide +kernel
theorem dX9_isLine_60 : decode cX9_isLine 60 = .ok (.iload_n 1, 1) := by decide +kernel
theorem dX9_isLine_61 : decode cX9_isLine 61 = .ok (.bipush 80, 2) := by decide +kernel
theorem dX9_isLine_63 : decode cX9_isLine 63 = .ok (.if_icmp .ne 23, 3) := by decide +kernel
theorem dX9_isLine_66 : decode cX9_isLine 66 = .ok (.aload_n 0, 1) := by decide +kernel
theorem dX9_isLine_67 : decode cX9_isLine 67 = .ok (.getfield 141, 3) := by decide +kernel
theorem dX9_isLine_70 : decode cX9_isLine 70 = .ok (.ifCond .ne 16, 3) := by decide +kernel
theorem dX9_isLine_73 : decode cX9_isLine 73 = .ok (.aload_n 0, 1) := by decide +kernel
theorem dX9_isLine_74 : decode cX9_isLine 74 = .ok (.bipush 19, 2) := by decide +kernel
theorem dX9_isLine_76 : decode cX9_isLine 76 = .ok (.aload_n 0, 1) := by decide +kernel
theorem dX9_isLine_77 : decode cX9_isLine 77 = .ok (.getfield 171, 3) := by decide +kernel
theorem dX9_isLine_80 : decode cX9_isLine 80 = .ok (.iconst (-1), 1) := by decide +kernel
theorem dX9_isLine_81 : decode cX9_isLine 81 = .ok (.invokevirtual 167, 3) := by decide +kernel
theorem dX9_isLine_84 : decode cX9_isLine 84 = .ok (.iconst 0, 1) := by decide +kernel
theorem dX9_isLine_85 : decode cX9_isLine 85 = .ok (.ireturn, 1) := by decide +kernel
theorem dX9_isLine_86 : decode cX9_isLine 86 = .ok (.aload_n 0, 1) := by decide +kernel
theorem dX9_isLine_87 : decode cX9_isLine 87 = .ok (.iconst 1, 1) := by decide +kernel
theorem dX9_isLine_88 : decode cX9_isLine 88 = .ok (.putfield 218, 3) := by decide +kernel
theorem dX9_isLine_91 : decode cX9_isLine 91 = .ok (.aload_n 0, 1) := by decide +kernel
theorem dX9_isLine_92 : decode cX9_isLine 92 = .ok (.getfield 171, 3) := by decide +kernel
theorem dX9_isLine_95 : decode cX9_isLine 95 = .ok (.istore_n 3, 1) := by decide +kernel
theorem dX9_isLine_96 : decode cX9_isLine 96 = .ok (.iload_n 3, 1) := by decide +kernel
theorem dX9_isLine_97 : decode cX9_isLine 97 = .ok (.aload_n 0, 1) := by decide +kernel
theorem dX9_isLine_98 : decode cX9_isLine 98 = .ok (.getfield 194, 3) := by decide +kernel
theorem dX9_isLine_101 : decode cX9_isLine 101 = .ok (.if_icmp .ge 33, 3) := by decide +kernel
theorem dX9_isLine_104 : decode cX9_isLine 104 = .ok (.aload_n 0, 1) := by decide +kernel
theorem dX9_isLine_105 : decode cX9_isLine 105 = .ok (.dup, 1) := by decide +kernel
theorem dX9_isLine_106 : decode cX9_isLine 106 = .ok (.getfield 218, 3) := by decide +kernel
theorem dX9_isLine_109 : decode cX9_isLine 109 = .ok (.aload_n 0, 1) := by decide +kernel
theorem dX9_isLine_110 : decode cX9_isLine 110 = .ok (.iload_n 3, 1) := by decide +kernel
theorem dX9_isLine_111 : decode cX9_isLine 111 = .ok (.invokevirtual 197, 3) := by decide +kernel
theorem dX9_isLine_114 : decode cX9_isLine 114 = .ok (.bipush 124, 2) := by decide +kernel
theorem dX9_isLine_116 : decode cX9_isLine 116 = .ok (.if_icmp .ne 7, 3) := by decide +kernel
theorem dX9_isLine_119 : decode cX9_isLine 119 = .ok (.iconst 1, 1) := by decide +kernel
theorem dX9_isLine_120 : decode cX9_isLine 120 = .ok (.goto 4, 3) := by decide +kernel
theorem dX9_isLine_123 : decode cX9_isLine 123 = .ok (.iconst 0, 1) := by decide +kernel
theorem dX9_isLine_124 : decode cX9_isLine 124 = .ok (.iadd, 1) := by decide +kernel
theorem dX9_isLine_125 : decode cX9_isLine 125 = .ok (.putfield 218, 3) := by decide +kernel
theorem dX9_isLine_128 : decode cX9_isLine 128 = .ok (.iinc 3 1, 3) := by decide +kernel
theorem dX9_isLine_131 : decode cX9_isLine 131 = .ok (.goto (-35), 3) := by decide +kernel
theorem dX9_isLine_134 : decode cX9_isLine 134 = .ok (.aload_n 0, 1) := by decide +kernel
theorem dX9_isLine_135 : decode cX9_isLine 135 = .ok (.getfield 218, 3) := by decide +kernel
theorem dX9_isLine_138 : decode cX9_isLine 138 = .ok (.iload_n 2, 1) := by decide +kernel
theorem dX9_isLine_139 : decode cX9_isLine 139 = .ok (.if_icmp .eq 23, 3) := by decide +kernel
theorem dX9_isLine_142 : decode cX9_isLine 142 = .ok (.aload_n 0, 1) := by decide +kernel
theorem dX9_isLine_143 : decode cX9_isLine 143 = .ok (.aload_n 0, 1) := by decide +kernel
theorem dX9_isLine_144 : decode cX9_isLine 144 = .ok (.getfield 218, 3) := by decide +kernel
theorem dX9_isLine_147 : decode cX9_isLine 147 = .ok (.iload_n 2, 1) := by decide +kernel
theorem dX9_isLine_148 : decode cX9_isLine 148 = .ok (.if_icmp .ge 8, 3) := by decide +kernel
theorem dX9_isLine_151 : decode cX9_isLine 151 = .ok (.bipush 10, 2) := by decide +kernel
theorem dX9_isLine_153 : decode cX9_isLine 153 = .ok (.goto 5, 3) := by decide +kernel
theorem dX9_isLine_156 : decode cX9_isLine 156 = .ok (.bipush 11, 2) := by decide +kernel
theorem dX9_isLine_158 : decode cX9_isLine 158 = .ok (.iconst (-1), 1) := by decide +kernel
theorem dX9_isLine_159 : decode cX9_isLine 159 = .ok (.invokevirtual 187, 3) := by decide +kernel
theorem dX9_isLine_162 : decode cX9_isLine 162 = .ok (.aload_n 0, 1) := by decide +kernel
theorem dX9_isLine_163 : decode cX9_isLine 163 = .ok (.getfield 177, 3) := by decide +kernel
theorem dX9_isLine_166 : decode cX9_isLine 166 = .ok (.ifCond .ne 7, 3) := by decide +kernel
theorem dX9_isLine_169 : decode cX9_isLine 169 = .ok (.iconst 1, 1) := by decide +kernel
theorem dX9_isLine_170 : decode cX9_isLine 170 = .ok (.goto 4, 3) := by decide +kernel
theorem dX9_isLine_173 : decode cX9_isLine 173 = .ok (.iconst 0, 1) := by decide +kernel
theorem dX9_isLine_174 : decode cX9_isLine 174 = .ok (.ireturn, 1) := by decide +kernel
set_option maxRecDepth 20000 in
theorem ggX9_readHouse_X9_isLine_1 : GoodIn wsX9_readHouse wsX9_isLine_r1 := goodIn_r _ [4, 10, 11, 12, 13, 14, 15, 16, 8, 17, 18, 19, 20, 21, 22, 23, 24, 25, 26, 27, 28, 29, 30, 31] (by decide +kernel) (by decide +kernel)
set_option maxRecDepth 20000 in
theorem ggX9_readHouse_X9_isLine_2 : GoodIn wsX9_readHouse wsX9_isLine_r2 := goodIn_r _ [32, 33, 34, 35, 36, 37, 38, 39, 40, 41, 42, 43, 44, 45, 46, 47, 48, 49, 50, 51, 52, 53, 54, 55] (by decide +kernel) (by decide +kernel)
set_option maxRecDepth 20000 in
theorem ggX9_readHouse_X9_isLine_3 : GoodIn wsX9_readHouse wsX9_isLine_r3 := goodIn_r _ [56, 57, 58, 59, 60, 61, 62, 63, 64, 65] (by decide +kernel) (by decide +kernel)
set_option maxRecDepth 20000 in
theorem ggX9_readHouse_X9_isLine_4 : GoodIn wsX9_readHouse wsX90 := goodIn_r _ [86, 87, 88, 89, 90, 91, 92, 93, 94, 95, 96, 97, 98, 99, 100, 101, 102, 103, 104, 105, 106, 107, 108, 109, 110, 111, 112, 113, 114, 115, 116, 117, 118, 119, 120, 121, 122, 123, 124, 125, 126, 127, 128, 129, 130, 131, 132, 133, 134, 135, 136, 137, 138, 139, 140, 141, 142, 143, 144, 145, 146, 147, 148, 149, 150, 151, 152, 153, 154] (by decide +kernel) (by decide +kernel)
set_option maxRecDepth 20000 in
theorem ggX9_readHouse_X9_isLine_0 : GoodIn wsX9_readHouse [.code yX9_isLine cX9_isLine 4 (some .boolean)] := goodIn_r _ [9] (by decide +kernel) (by decide +kernel)
theorem ggX9_readHouse_X9_isLine : GoodIn wsX9_readHouse wsX9_isLine := goodIn_k ggX9_readHouse_X9_isLine_0 (goodIn_app (goodIn_app ggX9_readHouse_X9_isLine_1 (goodIn_app ggX9_readHouse_X9_isLine_2 ggX9_readHouse_X9_isLine_3)) ggX9_readHouse_X9_isLine_4)
set_option maxRecDepth 20000 in
theorem gX9_readHouse_X9_isLine : GoodIn wsX9_readHouse (wsV RX9 227 RX9 yX9_isLine wsX9_isLine) := goodIn_app (goodIn_of _ (by decide +kernel)) ggX9_readHouse_X9_isLine
set_option maxRecDepth 20000 in
theorem ggX9_readHouse_X9_readNumber_1 : GoodIn wsX9_readHouse wsX9_readNumber_r1 := goodIn_r _ [3, 70, 71, 72, 73, 28, 74, 75, 76, 8, 77, 11, 10, 23, 78, 14, 15, 16, 17, 18, 24, 25, 26, 27] (by decide +kernel) (by decide +kernel)
set_option maxRecDepth 20000 in
theorem ggX9_readHouse_X9_readNumber_2 : GoodIn wsX9_readHouse wsX9_readNumber_r2 := goodIn_r _ [29, 30, 31, 12, 32, 33, 34, 35, 36, 37, 38, 39, 40, 41, 42, 43, 44, 45, 46, 47, 48, 49, 79, 80] (by decide +kernel) (by decide +kernel)
set_option maxRecDepth 20000 in
theorem ggX9_readHouse_X9_readNumber_3 : GoodIn wsX9_readHouse wsX9_readNumber_r3 := goodIn_r _ [81, 82, 19, 20, 21, 22, 4, 50, 51, 52, 53, 54, 55, 56, 57, 58, 59, 60, 61, 62, 63, 64, 65, 83] (by decide +kernel) (by decide +kernel)
set_option maxRecDepth 20000 in
theorem ggX9_readHouse_X9_readNumber_4 : GoodIn wsX9_readHouse wsX9_readNumber_r4 := goodIn_r _ [84, 85] (by decide +kernel) (by decide +kernel)
set_option maxRecDepth 20000 in
theorem ggX9_readHouse_X9_readNumber_5 : GoodIn wsX9_readHouse wsX90 := goodIn_r _ [86, 87, 88, 89, 90, 91, 92, 93, 94, 95, 96, 97, 98, 99, 100, 101, 102, 103, 104, 105, 106, 107, 108, 109, 110, 111, 112, 113, 114, 115, 116, 117, 118, 119, 120, 121, 122, 123, 124, 125, 126, 127, 128, 129, 130, 131, 132, 133, 134, 135, 136, 137, 138, 139, 140, 141, 142, 143, 144, 145, 146, 147, 148, 149, 150, 151, 152, 153, 154] (by decide +kernel) (by decide +kernel)
set_option maxRecDepth 20000 in
theorem ggX9_readHouse_X9_readNumber_0 : GoodIn wsX9_readHouse [.code yX9_readNumber cX9_readNumber 6 none] := goodIn_r _ [69] (by decide +kernel) (by decide +kernel)
theorem ggX9_readHouse_X9_readNumber : GoodIn wsX9_readHouse wsX9_readNumber := goodIn_k ggX9_readHouse_X9_readNumber_0 (goodIn_app (goodIn_app ggX9_readHouse_X9_readNumber_1 (goodIn_app ggX9_readHouse_X9_readNumber_2 (goodIn_app ggX9_readHouse_X9_readNumber_3 ggX9_readHouse_X9_readNumber_4))) ggX9_readHouse_X9_readNumber_5)
set_option maxRecDepth 20000 in
theorem gX9_readHouse_X9_readNumber : GoodIn wsX9_readHouse (wsV RX9 231 RX9 yX9_readNumber wsX9_readNumber) := goodIn_app (goodIn_of _ (by decide +kernel)) ggX9_readHouse_X9_readNumber
theorem dX9_readHouse_0 : decode cX9_readHouse 0 = .ok (.aload_n 0, 1) := by decide +kernel
theorem dX9_readHouse_1 : decode cX9_readHouse 1 = .ok (.iconst (-1), 1) := by decide +kernel
theorem dX9_readHouse_2 : decode cX9_readHouse 2 = .ok (.putfield 221, 3) := by decide +kernel
theorem dX9_readHouse_5 : decode cX9_readHouse 5 = .ok (.aload_n 0, 1) := by decide +kernel
theorem dX9_readHouse_6 : decode cX9_readHouse 6 = .ok (.iconst (-1), 1) := by decide +kernel
theorem dX9_readHouse_7 : decode cX9_readHouse 7 = .ok (.putfield 224, 3) := by decide +kernel
theorem dX9_readHouse_10 : decode cX9_readHouse 10 = .ok (.aload_n 0, 1) := by decide +kernel
theorem dX9_readHouse_11 : decode cX9_readHouse 11 = .ok (.bipush 72, 2) := by decide +kernel
theorem dX9_readHouse_13 : decode cX9_readHouse 13 = .ok (.iconst 3, 1) := by decide +kernel
