theorem dX9_readHouse_14 : decode cX9_readHouse 14 = .ok (.invokevirtual 227, 3) := by decide +kernel
theorem dX9_readHouse_17 : decode cX9_readHouse 17 = .ok (.ifCond .ne 4, 3) := by decide +kernel
theorem dX9_readHouse_20 : decode cX9_readHouse 20 = .ok (.return_, 1) := by decide +kernel
theorem dX9_readHouse_21 : decode cX9_readHouse 21 = .ok (.aload_n 0, 1) := by decide +kernel
theorem dX9_readHouse_22 : decode cX9_readHouse 22 = .ok (.iconst 1, 1) := by decide +kernel
theorem dX9_readHouse_23 : decode cX9_readHouse 23 = .ok (.sipush 9999, 3) := by decide +kernel
theorem dX9_readHouse_26 : decode cX9_readHouse 26 = .ok (.invokevirtual 231, 3) := by decide +kernel
theorem dX9_readHouse_29 : decode cX9_readHouse 29 = .ok (.aload_n 0, 1) := by decide +kernel
theorem dX9_readHouse_30 : decode cX9_readHouse 30 = .ok (.getfield 212, 3) := by decide +kernel
theorem dX9_readHouse_33 : decode cX9_readHouse 33 = .ok (.istore_n 1, 1) := by decide +kernel
theorem dX9_readHouse_34 : decode cX9_readHouse 34 = .ok (.aload_n 0, 1) := by decide +kernel
theorem dX9_readHouse_35 : decode cX9_readHouse 35 = .ok (.getfield 177, 3) := by decide +kernel
theorem dX9_readHouse_38 : decode cX9_readHouse 38 = .ok (.ifCond .eq 4, 3) := by decide +kernel
theorem dX9_readHouse_41 : decode cX9_readHouse 41 = .ok (.return_, 1) := by decide +kernel
theorem dX9_readHouse_42 : decode cX9_readHouse 42 = .ok (.aload_n 0, 1) := by decide +kernel
theorem dX9_readHouse_43 : decode cX9_readHouse 43 = .ok (.iconst 2, 1) := by decide +kernel
theorem dX9_readHouse_44 : decode cX9_readHouse 44 = .ok (.bipush 99, 2) := by decide +kernel
theorem dX9_readHouse_46 : decode cX9_readHouse 46 = .ok (.invokevirtual 231, 3) := by decide +kernel
theorem dX9_readHouse_49 : decode cX9_readHouse 49 = .ok (.aload_n 0, 1) := by decide +kernel
theorem dX9_readHouse_50 : decode cX9_readHouse 50 = .ok (.getfield 177, 3) := by decide +kernel
theorem dX9_readHouse_53 : decode cX9_readHouse 53 = .ok (.ifCond .ne 16, 3) := by decide +kernel
theorem dX9_readHouse_56 : decode cX9_readHouse 56 = .ok (.aload_n 0, 1) := by decide +kernel
theorem dX9_readHouse_57 : decode cX9_readHouse 57 = .ok (.iload_n 1, 1) := by decide +kernel
theorem dX9_readHouse_58 : decode cX9_readHouse 58 = .ok (.putfield 221, 3) := by decide +kernel
theorem dX9_readHouse_61 : decode cX9_readHouse 61 = .ok (.aload_n 0, 1) := by decide +kernel
theorem dX9_readHouse_62 : decode cX9_readHouse 62 = .ok (.aload_n 0, 1) := by decide +kernel
theorem dX9_readHouse_63 : decode cX9_readHouse 63 = .ok (.getfield 212, 3) := by decide +kernel
theorem dX9_readHouse_66 : decode cX9_readHouse 66 = .ok (.putfield 224, 3) := by decide +kernel
theorem dX9_readHouse_69 : decode cX9_readHouse 69 = .ok (.return_, 1) := by decide +kernel
set_option maxRecDepth 20000 in
theorem ggX9_readSums_X9_isLine_1 : GoodIn wsX9_readSums wsX9_isLine_r1 := goodIn_r _ [1, 10, 4, 11, 12, 13, 14, 15, 8, 16, 17, 18, 19, 20, 21, 22, 23, 24, 25, 26, 27, 28, 29, 30] (by decide +kernel) (by decide +kernel)
set_option maxRecDepth 20000 in
theorem ggX9_readSums_X9_isLine_2 : GoodIn wsX9_readSums wsX9_isLine_r2 := goodIn_r _ [31, 32, 33, 34, 35, 36, 37, 38, 39, 40, 41, 42, 43, 44, 45, 46, 47, 48, 49, 50, 51, 52, 53, 54] (by decide +kernel) (by decide +kernel)
set_option maxRecDepth 20000 in
theorem ggX9_readSums_X9_isLine_3 : GoodIn wsX9_readSums wsX9_isLine_r3 := goodIn_r _ [55, 56, 57, 58, 59, 60, 61, 62, 63, 64] (by decide +kernel) (by decide +kernel)
set_option maxRecDepth 20000 in
theorem ggX9_readSums_X9_isLine_4 : GoodIn wsX9_readSums wsX90 := goodIn_r _ [85, 86, 87, 88, 89, 90, 91, 92, 93, 94, 95, 96, 97, 98, 99, 100, 101, 102, 103, 104, 105, 106, 107, 108, 109, 110, 111, 112, 113, 114, 115, 116, 117, 118, 119, 120, 121, 122, 123, 124, 125, 126, 127, 128, 129, 130, 131, 132, 133, 134, 135, 136, 137, 138, 139, 140, 141, 142, 143, 144, 145, 146, 147, 148, 149, 150, 151, 152, 153] (by decide +kernel) (by decide +kernel)
set_option maxRecDepth 20000 in
theorem ggX9_readSums_X9_isLine_0 : GoodIn wsX9_readSums [.code yX9_isLine cX9_isLine 4 (some .boolean)] := goodIn_r _ [9] (by decide +kernel) (by decide +kernel)
theorem ggX9_readSums_X9_isLine : GoodIn wsX9_readSums wsX9_isLine := goodIn_k ggX9_readSums_X9_isLine_0 (goodIn_app (goodIn_app ggX9_readSums_X9_isLine_1 (goodIn_app ggX9_readSums_X9_isLine_2 ggX9_readSums_X9_isLine_3)) ggX9_readSums_X9_isLine_4)
set_option maxRecDepth 20000 in
theorem gX9_readSums_X9_isLine : GoodIn wsX9_readSums (wsV RX9 227 RX9 yX9_isLine wsX9_isLine) := goodIn_app (goodIn_of _ (by decide +kernel)) ggX9_readSums_X9_isLine
set_option maxRecDepth 20000 in
theorem ggX9_readSums_X9_readNumber_1 : GoodIn wsX9_readSums wsX9_readNumber_r1 := goodIn_r _ [2, 69, 70, 71, 72, 27, 73, 74, 75, 8, 76, 4, 10, 22, 77, 13, 14, 15, 16, 17, 23, 24, 25, 26] (by decide +kernel) (by decide +kernel)
set_option maxRecDepth 20000 in
theorem ggX9_readSums_X9_readNumber_2 : GoodIn wsX9_readSums wsX9_readNumber_r2 := goodIn_r _ [28, 29, 30, 11, 31, 32, 33, 34, 35, 36, 37, 38, 39, 40, 41, 42, 43, 44, 45, 46, 47, 48, 78, 79] (by decide +kernel) (by decide +kernel)
set_option maxRecDepth 20000 in
theorem ggX9_readSums_X9_readNumber_3 : GoodIn wsX9_readSums wsX9_readNumber_r3 := goodIn_r _ [80, 81, 18, 19, 20, 21, 1, 49, 50, 51, 52, 53, 54, 55, 56, 57, 58, 59, 60, 61, 62, 63, 64, 82] (by decide +kernel) (by decide +kernel)
set_option maxRecDepth 20000 in
theorem ggX9_readSums_X9_readNumber_4 : GoodIn wsX9_readSums wsX9_readNumber_r4 := goodIn_r _ [83, 84] (by decide +kernel) (by decide +kernel)
set_option maxRecDepth 20000 in
theorem ggX9_readSums_X9_readNumber_5 : GoodIn wsX9_readSums wsX90 := goodIn_r _ [85, 86, 87, 88, 89, 90, 91, 92, 93, 94, 95, 96, 97, 98, 99, 100, 101, 102, 103, 104, 105, 106, 107, 108, 109, 110, 111, 112, 113, 114, 115, 116, 117, 118, 119, 120, 121, 122, 123, 124, 125, 126, 127, 128, 129, 130, 131, 132, 133, 134, 135, 136, 137, 138, 139, 140, 141, 142, 143, 144, 145, 146, 147, 148, 149, 150, 151, 152, 153] (by decide +kernel) (by decide +kernel)
set_option maxRecDepth 20000 in
theorem ggX9_readSums_X9_readNumber_0 : GoodIn wsX9_readSums [.code yX9_readNumber cX9_readNumber 6 none] := goodIn_r _ [68] (by decide +kernel) (by decide +kernel)
theorem ggX9_readSums_X9_readNumber : GoodIn wsX9_readSums wsX9_readNumber := goodIn_k ggX9_readSums_X9_readNumber_0 (goodIn_app (goodIn_app ggX9_readSums_X9_readNumber_1 (goodIn_app ggX9_readSums_X9_readNumber_2 (goodIn_app ggX9_readSums_X9_readNumber_3 ggX9_readSums_X9_readNumber_4))) ggX9_readSums_X9_readNumber_5)
set_option maxRecDepth 20000 in
theorem gX9_readSums_X9_readNumber : GoodIn wsX9_readSums (wsV RX9 231 RX9 yX9_readNumber wsX9_readNumber) := goodIn_app (goodIn_of _ (by decide +kernel)) ggX9_readSums_X9_readNumber
set_option maxRecDepth 20000 in
theorem ggX9_readSums_X9_failSheet_1 : GoodIn wsX9_readSums wsX9_failSheet_r1 := goodIn_r _ [64, 22, 23, 24, 25, 8, 26, 27, 28, 29, 30, 11, 31, 32, 33, 34, 35, 36, 37, 38, 39, 40, 41, 42] (by decide +kernel) (by decide +kernel)
set_option maxRecDepth 20000 in
theorem ggX9_readSums_X9_failSheet_2 : GoodIn wsX9_readSums wsX9_failSheet_r2 := goodIn_r _ [43, 44, 45, 46, 47, 48] (by decide +kernel) (by decide +kernel)
set_option maxRecDepth 20000 in
theorem ggX9_readSums_X9_failSheet_3 : GoodIn wsX9_readSums wsX90 := goodIn_r _ [85, 86, 87, 88, 89, 90, 91, 92, 93, 94, 95, 96, 97, 98, 99, 100, 101, 102, 103, 104, 105, 106, 107, 108, 109, 110, 111, 112, 113, 114, 115, 116, 117, 118, 119, 120, 121, 122, 123, 124, 125, 126, 127, 128, 129, 130, 131, 132, 133, 134, 135, 136, 137, 138, 139, 140, 141, 142, 143, 144, 145, 146, 147, 148, 149, 150, 151, 152, 153] (by decide +kernel) (by decide +kernel)
set_option maxRecDepth 20000 in
theorem ggX9_readSums_X9_failSheet_0 : GoodIn wsX9_readSums [.code yX9_failSheet cX9_failSheet 5 none] := goodIn_r _ [63] (by decide +kernel) (by decide +kernel)
theorem ggX9_readSums_X9_failSheet : GoodIn wsX9_readSums wsX9_failSheet := goodIn_k ggX9_readSums_X9_failSheet_0 (goodIn_app (goodIn_app ggX9_readSums_X9_failSheet_1 ggX9_readSums_X9_failSheet_2) ggX9_readSums_X9_failSheet_3)
set_option maxRecDepth 20000 in
theorem gX9_readSums_X9_failSheet : GoodIn wsX9_readSums (wsV RX9 167 RX9 yX9_failSheet wsX9_failSheet) := goodIn_app (goodIn_of _ (by decide +kernel)) ggX9_readSums_X9_failSheet
theorem dX9_readSums_0 : decode cX9_readSums 0 = .ok (.aload_n 0, 1) := by decide +kernel
theorem dX9_readSums_1 : decode cX9_readSums 1 = .ok (.bipush 83, 2) := by decide +kernel
theorem dX9_readSums_3 : decode cX9_readSums 3 = .ok (.iconst 2, 1) := by decide +kernel
theorem dX9_readSums_4 : decode cX9_readSums 4 = .ok (.invokevirtual 227, 3) := by decide +kernel
theorem dX9_readSums_7 : decode cX9_readSums 7 = .ok (.ifCond .ne 4, 3) := by decide +kernel
theorem dX9_readSums_10 : decode cX9_readSums 10 = .ok (.return_, 1) := by decide +kernel
theorem dX9_readSums_11 : decode cX9_readSums 11 = .ok (.aload_n 0, 1) := by decide +kernel
theorem dX9_readSums_12 : decode cX9_readSums 12 = .ok (.iconst 1, 1) := by decide +kernel
theorem dX9_readSums_13 : decode cX9_readSums 13 = .ok (.bipush 99, 2) := by decide +kernel
theorem dX9_readSums_15 : decode cX9_readSums 15 = .ok (.invokevirtual 231, 3) := by decide +kernel
theorem dX9_readSums_18 : decode cX9_readSums 18 = .ok (.aload_n 0, 1) := by decide +kernel
theorem dX9_readSums_19 : decode cX9_readSums 19 = .ok (.getfield 177, 3) := by decide +kernel
theorem dX9_readSums_22 : decode cX9_readSums 22 = .ok (.ifCond .ne 32, 3) := by decide +kernel
theorem dX9_readSums_25 : decode cX9_readSums 25 = .ok (.aload_n 0, 1) := by decide +kernel
theorem dX9_readSums_26 : decode cX9_readSums 26 = .ok (.getfield 212, 3) := by decide +kernel
theorem dX9_readSums_29 : decode cX9_readSums 29 = .ok (.ifCond .lt 25, 3) := by decide +kernel
theorem dX9_readSums_32 : decode cX9_readSums 32 = .ok (.aload_n 0, 1) := by decide +kernel
theorem dX9_readSums_33 : decode cX9_readSums 33 = .ok (.getfield 212, 3) := by decide +kernel
theorem dX9_readSums_36 : decode cX9_readSums 36 = .ok (.aload_n 0, 1) := by decide +kernel
theorem dX9_readSums_37 : decode cX9_readSums 37 = .ok (.getfield 234, 3) := by decide +kernel
theorem dX9_readSums_40 : decode cX9_readSums 40 = .ok (.if_icmp .eq 14, 3) := by decide +kernel
theorem dX9_readSums_43 : decode cX9_readSums 43 = .ok (.aload_n 0, 1) := by decide +kernel
theorem dX9_readSums_44 : decode cX9_readSums 44 = .ok (.bipush 20, 2) := by decide +kernel
theorem dX9_readSums_46 : decode cX9_readSums 46 = .ok (.aload_n 0, 1) := by decide +kernel
theorem dX9_readSums_47 : decode cX9_readSums 47 = .ok (.getfield 171, 3) := by decide +kernel
theorem dX9_readSums_50 : decode cX9_readSums 50 = .ok (.iconst (-1), 1) := by decide +kernel
theorem dX9_readSums_51 : decode cX9_readSums 51 = .ok (.invokevirtual 167, 3) := by decide +kernel
theorem dX9_readSums_54 : decode cX9_readSums 54 = .ok (.return_, 1) := by decide +kernel
set_option maxRecDepth 20000 in
theorem ggX9_readPerson_X9_isLine_1 : GoodIn wsX9_readPerson wsX9_isLine_r1 := goodIn_r _ [1, 21, 8, 22, 23, 24, 25, 26, 19, 27, 28, 29, 30, 31, 32, 9, 33, 34, 35, 36, 37, 38, 39, 40] (by decide +kernel) (by decide +kernel)
set_option maxRecDepth 20000 in
theorem ggX9_readPerson_X9_isLine_2 : GoodIn wsX9_readPerson wsX9_isLine_r2 := goodIn_r _ [41, 42, 43, 44, 45, 46, 47, 48, 49, 50, 51, 52, 53, 54, 55, 56, 57, 58, 59, 60, 61, 62, 63, 64] (by decide +kernel) (by decide +kernel)
set_option maxRecDepth 20000 in
theorem ggX9_readPerson_X9_isLine_3 : GoodIn wsX9_readPerson wsX9_isLine_r3 := goodIn_r _ [65, 66, 67, 68, 69, 70, 71, 72, 73, 74] (by decide +kernel) (by decide +kernel)
set_option maxRecDepth 20000 in
theorem ggX9_readPerson_X9_isLine_4 : GoodIn wsX9_readPerson wsX90 := goodIn_r _ [113, 114, 115, 116, 117, 118, 119, 120, 121, 122, 123, 124, 125, 126, 127, 128, 129, 130, 131, 132, 133, 134, 135, 136, 137, 138, 139, 140, 141, 142, 143, 144, 145, 146, 147, 148, 149, 150, 151, 152, 153, 154, 155, 156, 157, 158, 159, 160, 161, 162, 163, 164, 165, 166, 167, 168, 169, 170, 171, 172, 173, 174, 175, 176, 177, 178, 179, 180, 181] (by decide +kernel) (by decide +kernel)
set_option maxRecDepth 20000 in
theorem ggX9_readPerson_X9_isLine_0 : GoodIn wsX9_readPerson [.code yX9_isLine cX9_isLine 4 (some .boolean)] := goodIn_r _ [20] (by decide +kernel) (by decide +kernel)
theorem ggX9_readPerson_X9_isLine : GoodIn wsX9_readPerson wsX9_isLine := goodIn_k ggX9_readPerson_X9_isLine_0 (goodIn_app (goodIn_app ggX9_readPerson_X9_isLine_1 (goodIn_app ggX9_readPerson_X9_isLine_2 ggX9_readPerson_X9_isLine_3)) ggX9_readPerson_X9_isLine_4)
set_option maxRecDepth 20000 in
theorem gX9_readPerson_X9_isLine : GoodIn wsX9_readPerson (wsV RX9 227 RX9 yX9_isLine wsX9_isLine) := goodIn_app (goodIn_of _ (by decide +kernel)) ggX9_readPerson_X9_isLine
set_option maxRecDepth 20000 in
theorem ggX9_readPerson_X9_readName_1 : GoodIn wsX9_readPerson wsX9_readName_r1 := goodIn_r _ [79, 2, 80, 5, 81, 82, 83, 84, 19, 85, 8, 21, 9, 37, 24, 25, 26, 27, 28, 33, 34, 35, 36, 38] (by decide +kernel) (by decide +kernel)
set_option maxRecDepth 20000 in
theorem ggX9_readPerson_X9_readName_2 : GoodIn wsX9_readPerson wsX9_readName_r2 := goodIn_r _ [39, 40, 22, 41, 42, 43, 44, 45, 46, 47, 48, 49, 50, 51, 52, 53, 54, 55, 56, 57, 58, 86, 87, 88] (by decide +kernel) (by decide +kernel)
set_option maxRecDepth 20000 in
theorem ggX9_readPerson_X9_readName_3 : GoodIn wsX9_readPerson wsX9_readName_r3 := goodIn_r _ [89, 29, 30, 31, 32, 1, 59, 60, 61, 62, 63, 64, 65, 66, 67, 68, 69, 70, 71, 72, 73, 74, 90, 91] (by decide +kernel) (by decide +kernel)
set_option maxRecDepth 20000 in
theorem ggX9_readPerson_X9_readName_4 : GoodIn wsX9_readPerson wsX9_readName_r4 := goodIn_r _ [92] (by decide +kernel) (by decide +kernel)
set_option maxRecDepth 20000 in
theorem ggX9_readPerson_X9_readName_5 : GoodIn wsX9_readPerson wsX90 := goodIn_r _ [113, 114, 115, 116, 117, 118, 119, 120, 121, 122, 123, 124, 125, 126, 127, 128, 129, 130, 131, 132, 133, 134, 135, 136, 137, 138, 139, 140, 141, 142, 143, 144, 145, 146, 147, 148, 149, 150, 151, 152, 153, 154, 155, 156, 157, 158, 159, 160, 161, 162, 163, 164, 165, 166, 167, 168, 169, 170, 171, 172, 173, 174, 175, 176, 177, 178, 179, 180, 181] (by decide +kernel) (by decide +kernel)
set_option maxRecDepth 20000 in
theorem ggX9_readPerson_X9_readName_0 : GoodIn wsX9_readPerson [.code yX9_readName cX9_readName 4 none] := goodIn_r _ [78] (by decide +kernel) (by decide +kernel)
theorem ggX9_readPerson_X9_readName : GoodIn wsX9_readPerson wsX9_readName := goodIn_k ggX9_readPerson_X9_readName_0 (goodIn_app (goodIn_app ggX9_readPerson_X9_readName_1 (goodIn_app ggX9_readPerson_X9_readName_2 (goodIn_app ggX9_readPerson_X9_readName_3 ggX9_readPerson_X9_readName_4))) ggX9_readPerson_X9_readName_5)
set_option maxRecDepth 20000 in
theorem gX9_readPerson_X9_readName : GoodIn wsX9_readPerson (wsV RX9 237 RX9 yX9_readName wsX9_readName) := goodIn_app (goodIn_of _ (by decide +kernel)) ggX9_readPerson_X9_readName
set_option maxRecDepth 20000 in
theorem ggX9_readPerson_X9_readSex_1 : GoodIn wsX9_readPerson wsX9_readSex_r1 := goodIn_r _ [7, 79, 2, 5, 80, 37, 82, 83, 84, 19, 85, 8, 21, 9, 81, 24, 25, 26, 27, 28, 33, 34, 35, 36] (by decide +kernel) (by decide +kernel)
set_option maxRecDepth 20000 in
theorem ggX9_readPerson_X9_readSex_2 : GoodIn wsX9_readPerson wsX9_readSex_r2 := goodIn_r _ [38, 39, 40, 22, 41, 42, 43, 44, 45, 46, 47, 48, 49, 50, 51, 52, 53, 54, 55, 56, 57, 58, 86, 87] (by decide +kernel) (by decide +kernel)
set_option maxRecDepth 20000 in
theorem ggX9_readPerson_X9_readSex_3 : GoodIn wsX9_readPerson wsX9_readSex_r3 := goodIn_r _ [88, 89, 29, 30, 31, 32, 1, 59, 60, 61, 62, 63, 64, 65, 66, 67, 68, 69, 70, 71, 72, 73, 74] (by decide +kernel) (by decide +kernel)
set_option maxRecDepth 20000 in
theorem ggX9_readPerson_X9_readSex_4 : GoodIn wsX9_readPerson wsX90 := goodIn_r _ [113, 114, 115, 116, 117, 118, 119, 120, 121, 122, 123, 124, 125, 126, 127, 128, 129, 130, 131, 132, 133, 134, 135, 136, 137, 138, 139, 140, 141, 142, 143, 144, 145, 146, 147, 148, 149, 150, 151, 152, 153, 154, 155, 156, 157, 158, 159, 160, 161, 162, 163, 164, 165, 166, 167, 168, 169, 170, 171, 172, 173, 174, 175, 176, 177, 178, 179, 180, 181] (by decide +kernel) (by decide +kernel)
set_option maxRecDepth 20000 in
theorem ggX9_readPerson_X9_readSex_0 : GoodIn wsX9_readPerson [.code yX9_readSex cX9_readSex 3 none] := goodIn_r _ [96] (by decide +kernel) (by decide +kernel)
theorem ggX9_readPerson_X9_readSex : GoodIn wsX9_readPerson wsX9_readSex := goodIn_k ggX9_readPerson_X9_readSex_0 (goodIn_app (goodIn_app ggX9_readPerson_X9_readSex_1 (goodIn_app ggX9_readPerson_X9_readSex_2 ggX9_readPerson_X9_readSex_3)) ggX9_readPerson_X9_readSex_4)
set_option maxRecDepth 20000 in
theorem gX9_readPerson_X9_readSex : GoodIn wsX9_readPerson (wsV RX9 243 RX9 yX9_readSex wsX9_readSex) := goodIn_app (goodIn_of _ (by decide +kernel)) ggX9_readPerson_X9_readSex
set_option maxRecDepth 20000 in
theorem ggX9_readPerson_X9_readNumber_1 : GoodIn wsX9_readPerson wsX9_readNumber_r1 := goodIn_r _ [7, 79, 2, 5, 80, 37, 82, 83, 84, 19, 85, 8, 21, 9, 81, 24, 25, 26, 27, 28, 33, 34, 35, 36] (by decide +kernel) (by decide +kernel)
set_option maxRecDepth 20000 in
theorem ggX9_readPerson_X9_readNumber_2 : GoodIn wsX9_readPerson wsX9_readNumber_r2 := goodIn_r _ [38, 39, 40, 22, 41, 42, 43, 44, 45, 46, 47, 48, 49, 50, 51, 52, 53, 54, 55, 56, 57, 58, 86, 87] (by decide +kernel) (by decide +kernel)
set_option maxRecDepth 20000 in
theorem ggX9_readPerson_X9_readNumber_3 : GoodIn wsX9_readPerson wsX9_readNumber_r3 := goodIn_r _ [88, 89, 29, 30, 31, 32, 1, 59, 60, 61, 62, 63, 64, 65, 66, 67, 68, 69, 70, 71, 72, 73, 74, 101] (by decide +kernel) (by decide +kernel)
set_option maxRecDepth 20000 in
theorem ggX9_readPerson_X9_readNumber_4 : GoodIn wsX9_readPerson wsX9_readNumber_r4 := goodIn_r _ [102, 103] (by decide +kernel) (by decide +kernel)
set_option maxRecDepth 20000 in
theorem ggX9_readPerson_X9_readNumber_5 : GoodIn wsX9_readPerson wsX90 := goodIn_r _ [113, 114, 115, 116, 117, 118, 119, 120, 121, 122, 123, 124, 125, 126, 127, 128, 129, 130, 131, 132, 133, 134, 135, 136, 137, 138, 139, 140, 141, 142, 143, 144, 145, 146, 147, 148, 149, 150, 151, 152, 153, 154, 155, 156, 157, 158, 159, 160, 161, 162, 163, 164, 165, 166, 167, 168, 169, 170, 171, 172, 173, 174, 175, 176, 177, 178, 179, 180, 181] (by decide +kernel) (by decide +kernel)
set_option maxRecDepth 20000 in
theorem ggX9_readPerson_X9_readNumber_0 : GoodIn wsX9_readPerson [.code yX9_readNumber cX9_readNumber 6 none] := goodIn_r _ [100] (by decide +kernel) (by decide +kernel)
theorem ggX9_readPerson_X9_readNumber : GoodIn wsX9_readPerson wsX9_readNumber := goodIn_k ggX9_readPerson_X9_readNumber_0 (goodIn_app (goodIn_app ggX9_readPerson_X9_readNumber_1 (goodIn_app ggX9_readPerson_X9_readNumber_2 (goodIn_app ggX9_readPerson_X9_readNumber_3 ggX9_readPerson_X9_readNumber_4))) ggX9_readPerson_X9_readNumber_5)
set_option maxRecDepth 20000 in
theorem gX9_readPerson_X9_readNumber : GoodIn wsX9_readPerson (wsV RX9 231 RX9 yX9_readNumber wsX9_readNumber) := goodIn_app (goodIn_of _ (by decide +kernel)) ggX9_readPerson_X9_readNumber
set_option maxRecDepth 20000 in
theorem ggX9_readPerson_X9_readTrade_1 : GoodIn wsX9_readPerson wsX9_readTrade_r1 := goodIn_r _ [7, 79, 2, 5, 80, 37, 82, 83, 84, 19, 85, 8, 21, 9, 81, 24, 25, 26, 27, 28, 33, 34, 35, 36] (by decide +kernel) (by decide +kernel)
set_option maxRecDepth 20000 in
theorem ggX9_readPerson_X9_readTrade_2 : GoodIn wsX9_readPerson wsX9_readTrade_r2 := goodIn_r _ [38, 39, 40, 22, 41, 42, 43, 44, 45, 46, 47, 48, 49, 50, 51, 52, 53, 54, 55, 56, 57, 58, 86, 87] (by decide +kernel) (by decide +kernel)
set_option maxRecDepth 20000 in
theorem ggX9_readPerson_X9_readTrade_3 : GoodIn wsX9_readPerson wsX9_readTrade_r3 := goodIn_r _ [88, 89, 29, 30, 31, 32, 1, 59, 60, 61, 62, 63, 64, 65, 66, 67, 68, 69, 70, 71, 72, 73, 74, 101] (by decide +kernel) (by decide +kernel)
set_option maxRecDepth 20000 in
theorem ggX9_readPerson_X9_readTrade_4 : GoodIn wsX9_readPerson wsX9_readTrade_r4 := goodIn_r _ [102, 103] (by decide +kernel) (by decide +kernel)
set_option maxRecDepth 20000 in
theorem ggX9_readPerson_X9_readTrade_5 : GoodIn wsX9_readPerson wsX90 := goodIn_r _ [113, 114, 115, 116, 117, 118, 119, 120, 121, 122, 123, 124, 125, 126, 127, 128, 129, 130, 131, 132, 133, 134, 135, 136, 137, 138, 139, 140, 141, 142, 143, 144, 145, 146, 147, 148, 149, 150, 151, 152, 153, 154, 155, 156, 157, 158, 159, 160, 161, 162, 163, 164, 165, 166, 167, 168, 169, 170, 171, 172, 173, 174, 175, 176, 177, 178, 179, 180, 181] (by decide +kernel) (by decide +kernel)
set_option maxRecDepth 20000 in
theorem ggX9_readPerson_X9_readTrade_0 : GoodIn wsX9_readPerson [.code yX9_readTrade cX9_readTrade 3 none] := goodIn_r _ [107] (by decide +kernel) (by decide +kernel)
theorem ggX9_readPerson_X9_readTrade : GoodIn wsX9_readPerson wsX9_readTrade := goodIn_k ggX9_readPerson_X9_readTrade_0 (goodIn_app (goodIn_app ggX9_readPerson_X9_readTrade_1 (goodIn_app ggX9_readPerson_X9_readTrade_2 (goodIn_app ggX9_readPerson_X9_readTrade_3 ggX9_readPerson_X9_readTrade_4))) ggX9_readPerson_X9_readTrade_5)
set_option maxRecDepth 20000 in
theorem gX9_readPerson_X9_readTrade : GoodIn wsX9_readPerson (wsV RX9 246 RX9 yX9_readTrade wsX9_readTrade) := goodIn_app (goodIn_of _ (by decide +kernel)) ggX9_readPerson_X9_readTrade
set_option maxRecDepth 20000 in
theorem ggX9_readPerson_X9_failLine_1 : GoodIn wsX9_readPerson wsX9_failLine_r1 := goodIn_r _ [8, 9, 1, 33, 34, 35, 19, 36, 37, 38, 39, 40, 22, 41, 42, 43, 44, 45, 46, 47, 48, 49, 50, 51] (by decide +kernel) (by decide +kernel)
set_option maxRecDepth 20000 in
theorem ggX9_readPerson_X9_failLine_2 : GoodIn wsX9_readPerson wsX9_failLine_r2 := goodIn_r _ [52, 53, 54, 55, 56, 57, 58, 59, 60, 61, 62, 63, 64, 65, 66, 67, 68, 69, 70, 71, 72, 73, 74] (by decide +kernel) (by decide +kernel)
set_option maxRecDepth 20000 in
theorem ggX9_readPerson_X9_failLine_3 : GoodIn wsX9_readPerson wsX90 := goodIn_r _ [113, 114, 115, 116, 117, 118, 119, 120, 121, 122, 123, 124, 125, 126, 127, 128, 129, 130, 131, 132, 133, 134, 135, 136, 137, 138, 139, 140, 141, 142, 143, 144, 145, 146, 147, 148, 149, 150, 151, 152, 153, 154, 155, 156, 157, 158, 159, 160, 161, 162, 163, 164, 165, 166, 167, 168, 169, 170, 171, 172, 173, 174, 175, 176, 177, 178, 179, 180, 181] (by decide +kernel) (by decide +kernel)
set_option maxRecDepth 20000 in
theorem ggX9_readPerson_X9_failLine_0 : GoodIn wsX9_readPerson [.code yX9_failLine cX9_failLine 5 none] := goodIn_r _ [32] (by decide +kernel) (by decide +kernel)
theorem ggX9_readPerson_X9_failLine : GoodIn wsX9_readPerson wsX9_failLine := goodIn_k ggX9_readPerson_X9_failLine_0 (goodIn_app (goodIn_app ggX9_readPerson_X9_failLine_1 ggX9_readPerson_X9_failLine_2) ggX9_readPerson_X9_failLine_3)
set_option maxRecDepth 20000 in
theorem gX9_readPerson_X9_failLine : GoodIn wsX9_readPerson (wsV RX9 187 RX9 yX9_failLine wsX9_failLine) := goodIn_app (goodIn_of _ (by decide +kernel)) ggX9_readPerson_X9_failLine
set_option maxRecDepth 20000 in
theorem ggX9_readPerson_X9_isTwice_1 : GoodIn wsX9_readPerson ([.fieldLink RX9 255 "CensusDeskModel" "firstPerson" "I", .fieldLink RX9 252 "CensusDeskModel" "persons" "I", .fieldLink RX9 80 "CensusDeskModel" "fields" "[I", .fieldLink RX9 35 "CensusDeskModel" "age" "[I", .fieldLink RX9 44 "CensusDeskModel" "nameSize" "[I", .fieldLink RX9 47 "CensusDeskModel" "names" "[B", .fieldLink RX9 41 "CensusDeskModel" "nameAt" "[I", .fieldLink RX9 240 "CensusDeskModel" "nameEnd" "I"] : List Cond) := goodIn_r _ [112, 11, 6, 12, 15, 3, 14, 4] (by decide +kernel) (by decide +kernel)
set_option maxRecDepth 20000 in
theorem ggX9_readPerson_X9_isTwice_2 : GoodIn wsX9_readPerson wsX90 := goodIn_r _ [113, 114, 115, 116, 117, 118, 119, 120, 121, 122, 123, 124, 125, 126, 127, 128, 129, 130, 131, 132, 133, 134, 135, 136, 137, 138, 139, 140, 141, 142, 143, 144, 145, 146, 147, 148, 149, 150, 151, 152, 153, 154, 155, 156, 157, 158, 159, 160, 161, 162, 163, 164, 165, 166, 167, 168, 169, 170, 171, 172, 173, 174, 175, 176, 177, 178, 179, 180, 181] (by decide +kernel) (by decide +kernel)
set_option maxRecDepth 20000 in
theorem ggX9_readPerson_X9_isTwice_0 : GoodIn wsX9_readPerson [.code yX9_isTwice cX9_isTwice 6 (some .boolean)] := goodIn_r _ [111] (by decide +kernel) (by decide +kernel)
theorem ggX9_readPerson_X9_isTwice : GoodIn wsX9_readPerson wsX9_isTwice := goodIn_k ggX9_readPerson_X9_isTwice_0 (goodIn_app ggX9_readPerson_X9_isTwice_1 ggX9_readPerson_X9_isTwice_2)
set_option maxRecDepth 20000 in
theorem gX9_readPerson_X9_isTwice : GoodIn wsX9_readPerson (wsV RX9 249 RX9 yX9_isTwice wsX9_isTwice) := goodIn_app (goodIn_of _ (by decide +kernel)) ggX9_readPerson_X9_isTwice
set_option maxRecDepth 20000 in
theorem ggX9_readPerson_X9_fail_1 : GoodIn wsX9_readPerson ([.fieldLink RX9 125 "CensusDeskModel" "way" "I", .fieldLink RX9 128 "CensusDeskModel" "replaced" "I", .fieldLink RX9 13 "CensusDeskModel" "ruleWay" "[I", .fieldLink RX9 17 "CensusDeskModel" "ruleNumber" "[I", .fieldLink RX9 135 "CensusDeskModel" "fails" "I", .fieldLink RX9 141 "CensusDeskModel" "inHouse" "Z", .fieldLink RX9 71 "CensusDeskModel" "firstOut" "[I", .fieldLink RX9 68 "CensusDeskModel" "firstIn" "[I", .fieldLink RX9 50 "CensusDeskModel" "failKind" "[I", .fieldLink RX9 53 "CensusDeskModel" "failPlace" "[I", .fieldLink RX9 56 "CensusDeskModel" "failCause" "[I", .fieldLink RX9 59 "CensusDeskModel" "failFirst" "[I", .fieldLink RX9 62 "CensusDeskModel" "failWay" "[I", .fieldLink RX9 65 "CensusDeskModel" "many" "[I", .fieldLink RX9 144 "CensusDeskModel" "stops" "Z", .methodLink RX9 131 yX9_groupOf, .static yX9_groupOf, .initialized RX9, .code yX9_groupOf cX9_groupOf 1 (some .int), .methodLink RX9 138 yX9_layerOf, .static yX9_layerOf, .code yX9_layerOf cX9_layerOf 1 (some .int)] : List Cond) := goodIn_r _ [9, 37, 38, 39, 40, 22, 41, 42, 43, 44, 45, 46, 47, 48, 49, 50, 51, 19, 52, 53, 54, 55] (by decide +kernel) (by decide +kernel)
set_option maxRecDepth 20000 in
theorem ggX9_readPerson_X9_fail_2 : GoodIn wsX9_readPerson wsX90 := goodIn_r _ [113, 114, 115, 116, 117, 118, 119, 120, 121, 122, 123, 124, 125, 126, 127, 128, 129, 130, 131, 132, 133, 134, 135, 136, 137, 138, 139, 140, 141, 142, 143, 144, 145, 146, 147, 148, 149, 150, 151, 152, 153, 154, 155, 156, 157, 158, 159, 160, 161, 162, 163, 164, 165, 166, 167, 168, 169, 170, 171, 172, 173, 174, 175, 176, 177, 178, 179, 180, 181] (by decide +kernel) (by decide +kernel)
set_option maxRecDepth 20000 in
theorem ggX9_readPerson_X9_fail_0 : GoodIn wsX9_readPerson [.code yX9_fail cX9_fail 7 (some .int)] := goodIn_r _ [36] (by decide +kernel) (by decide +kernel)
theorem ggX9_readPerson_X9_fail : GoodIn wsX9_readPerson wsX9_fail := goodIn_k ggX9_readPerson_X9_fail_0 (goodIn_app ggX9_readPerson_X9_fail_1 ggX9_readPerson_X9_fail_2)
set_option maxRecDepth 20000 in
theorem gX9_readPerson_X9_fail : GoodIn wsX9_readPerson (wsV RX9 147 RX9 yX9_fail wsX9_fail) := goodIn_app (goodIn_of _ (by decide +kernel)) ggX9_readPerson_X9_fail
set_option maxRecDepth 20000 in
theorem ggX9_readPerson_X9_goesOn : GoodIn wsX9_readPerson wsX9_goesOn := goodIn_r _ [58] (by decide +kernel) (by decide +kernel)
set_option maxRecDepth 20000 in
theorem gX9_readPerson_X9_goesOn : GoodIn wsX9_readPerson (va_wsS RX9 154 yX9_goesOn wsX9_goesOn) := goodIn_app (goodIn_of _ (by decide +kernel)) ggX9_readPerson_X9_goesOn
set_option maxRecDepth 20000 in
theorem ggX9_readPerson_X9_failHouse_1 : GoodIn wsX9_readPerson wsX9_failHouse_r1 := goodIn_r _ [9, 67, 68, 69, 33, 34, 35, 19, 36, 37, 38, 39, 40, 22, 41, 42, 43, 44, 45, 46, 47, 48, 49, 50] (by decide +kernel) (by decide +kernel)
set_option maxRecDepth 20000 in
theorem ggX9_readPerson_X9_failHouse_2 : GoodIn wsX9_readPerson wsX9_failHouse_r2 := goodIn_r _ [51, 52, 53, 54, 55, 56, 57, 58, 70, 71, 72, 73, 74] (by decide +kernel) (by decide +kernel)
set_option maxRecDepth 20000 in
theorem ggX9_readPerson_X9_failHouse_3 : GoodIn wsX9_readPerson wsX90 := goodIn_r _ [113, 114, 115, 116, 117, 118, 119, 120, 121, 122, 123, 124, 125, 126, 127, 128, 129, 130, 131, 132, 133, 134, 135, 136, 137, 138, 139, 140, 141, 142, 143, 144, 145, 146, 147, 148, 149, 150, 151, 152, 153, 154, 155, 156, 157, 158, 159, 160, 161, 162, 163, 164, 165, 166, 167, 168, 169, 170, 171, 172, 173, 174, 175, 176, 177, 178, 179, 180, 181] (by decide +kernel) (by decide +kernel)
set_option maxRecDepth 20000 in
theorem ggX9_readPerson_X9_failHouse_0 : GoodIn wsX9_readPerson [.code yX9_failHouse cX9_failHouse 6 none] := goodIn_r _ [66] (by decide +kernel) (by decide +kernel)
theorem ggX9_readPerson_X9_failHouse : GoodIn wsX9_readPerson wsX9_failHouse := goodIn_k ggX9_readPerson_X9_failHouse_0 (goodIn_app (goodIn_app ggX9_readPerson_X9_failHouse_1 ggX9_readPerson_X9_failHouse_2) ggX9_readPerson_X9_failHouse_3)
set_option maxRecDepth 20000 in
theorem gX9_readPerson_X9_failHouse : GoodIn wsX9_readPerson (wsV RX9 174 RX9 yX9_failHouse wsX9_failHouse) := goodIn_app (goodIn_of _ (by decide +kernel)) ggX9_readPerson_X9_failHouse
theorem dX9_readPerson_0 : decode cX9_readPerson 0 = .ok (.aload_n 0, 1) := by decide +kernel
theorem dX9_readPerson_1 : decode cX9_readPerson 1 = .ok (.iload_n 1, 1) := by decide +kernel
theorem dX9_readPerson_2 : decode cX9_readPerson 2 = .ok (.iconst 5, 1) := by decide +kernel
theorem dX9_readPerson_3 : decode cX9_readPerson 3 = .ok (.invokevirtual 227, 3) := by decide +kernel
theorem dX9_readPerson_6 : decode cX9_readPerson 6 = .ok (.ifCond .ne 4, 3) := by decide +kernel
theorem dX9_readPerson_9 : decode cX9_readPerson 9 = .ok (.return_, 1) := by decide +kernel
theorem dX9_readPerson_10 : decode cX9_readPerson 10 = .ok (.aload_n 0, 1) := by decide +kernel
theorem dX9_readPerson_11 : decode cX9_readPerson 11 = .ok (.iconst 1, 1) := by decide +kernel
theorem dX9_readPerson_12 : decode cX9_readPerson 12 = .ok (.invokevirtual 237, 3) := by decide +kernel
theorem dX9_readPerson_15 : decode cX9_readPerson 15 = .ok (.aload_n 0, 1) := by decide +kernel
theorem dX9_readPerson_16 : decode cX9_readPerson 16 = .ok (.getfield 177, 3) := by decide +kernel
theorem dX9_readPerson_19 : decode cX9_readPerson 19 = .ok (.ifCond .eq 4, 3) := by decide +kernel
theorem dX9_readPerson_22 : decode cX9_readPerson 22 = .ok (.return_, 1) := by decide +kernel
theorem dX9_readPerson_23 : decode cX9_readPerson 23 = .ok (.aload_n 0, 1) := by decide +kernel
theorem dX9_readPerson_24 : decode cX9_readPerson 24 = .ok (.getfield 191, 3) := by decide +kernel
theorem dX9_readPerson_27 : decode cX9_readPerson 27 = .ok (.istore_n 2, 1) := by decide +kernel
theorem dX9_readPerson_28 : decode cX9_readPerson 28 = .ok (.iconst 0, 1) := by decide +kernel
theorem dX9_readPerson_29 : decode cX9_readPerson 29 = .ok (.istore_n 3, 1) := by decide +kernel
theorem dX9_readPerson_30 : decode cX9_readPerson 30 = .ok (.iload_n 3, 1) := by decide +kernel
theorem dX9_readPerson_31 : decode cX9_readPerson 31 = .ok (.iload_n 2, 1) := by decide +kernel
theorem dX9_readPerson_32 : decode cX9_readPerson 32 = .ok (.if_icmp .ge 27, 3) := by decide +kernel
theorem dX9_readPerson_35 : decode cX9_readPerson 35 = .ok (.aload_n 0, 1) := by decide +kernel
theorem dX9_readPerson_36 : decode cX9_readPerson 36 = .ok (.getfield 47, 3) := by decide +kernel
theorem dX9_readPerson_39 : decode cX9_readPerson 39 = .ok (.aload_n 0, 1) := by decide +kernel
theorem dX9_readPerson_40 : decode cX9_readPerson 40 = .ok (.getfield 240, 3) := by decide +kernel
theorem dX9_readPerson_43 : decode cX9_readPerson 43 = .ok (.iload_n 3, 1) := by decide +kernel
theorem dX9_readPerson_44 : decode cX9_readPerson 44 = .ok (.iadd, 1) := by decide +kernel
theorem dX9_readPerson_45 : decode cX9_readPerson 45 = .ok (.aload_n 0, 1) := by decide +kernel
theorem dX9_readPerson_46 : decode cX9_readPerson 46 = .ok (.getfield 74, 3) := by decide +kernel
theorem dX9_readPerson_49 : decode cX9_readPerson 49 = .ok (.iload_n 3, 1) := by decide +kernel
theorem dX9_readPerson_50 : decode cX9_readPerson 50 = .ok (.iaload, 1) := by decide +kernel
theorem dX9_readPerson_51 : decode cX9_readPerson 51 = .ok (.i2b, 1) := by decide +kernel
theorem dX9_readPerson_52 : decode cX9_readPerson 52 = .ok (.bastore, 1) := by decide +kernel
theorem dX9_readPerson_53 : decode cX9_readPerson 53 = .ok (.iinc 3 1, 3) := by decide +kernel
theorem dX9_readPerson_56 : decode cX9_readPerson 56 = .ok (.goto (-26), 3) := by decide +kernel
theorem dX9_readPerson_59 : decode cX9_readPerson 59 = .ok (.iconst 0, 1) := by decide +kernel
theorem dX9_readPerson_60 : decode cX9_readPerson 60 = .ok (.istore_n 3, 1) := by decide +kernel
theorem dX9_readPerson_61 : decode cX9_readPerson 61 = .ok (.iload_n 3, 1) := by decide +kernel
theorem dX9_readPerson_62 : decode cX9_readPerson 62 = .ok (.iconst 3, 1) := by decide +kernel
theorem dX9_readPerson_63 : decode cX9_readPerson 63 = .ok (.if_icmp .ge 58, 3) := by decide +kernel
theorem dX9_readPerson_66 : decode cX9_readPerson 66 = .ok (.aload_n 0, 1) := by decide +kernel
theorem dX9_readPerson_67 : decode cX9_readPerson 67 = .ok (.getfield 177, 3) := by decide +kernel
theorem dX9_readPerson_70 : decode cX9_readPerson 70 = .ok (.ifCond .ne 51, 3) := by decide +kernel
theorem dX9_readPerson_73 : decode cX9_readPerson 73 = .ok (.iload_n 3, 1) := by decide +kernel
theorem dX9_readPerson_74 : decode cX9_readPerson 74 = .ok (.ifCond .ne 11, 3) := by decide +kernel
theorem dX9_readPerson_77 : decode cX9_readPerson 77 = .ok (.aload_n 0, 1) := by decide +kernel
theorem dX9_readPerson_78 : decode cX9_readPerson 78 = .ok (.iconst 2, 1) := by decide +kernel
theorem dX9_readPerson_79 : decode cX9_readPerson 79 = .ok (.invokevirtual 243, 3) := by decide +kernel
theorem dX9_readPerson_82 : decode cX9_readPerson 82 = .ok (.goto 23, 3) := by decide +kernel
theorem dX9_readPerson_85 : decode cX9_readPerson 85 = .ok (.iload_n 3, 1) := by decide +kernel
theorem dX9_readPerson_86 : decode cX9_readPerson 86 = .ok (.iconst 1, 1) := by decide +kernel
theorem dX9_readPerson_87 : decode cX9_readPerson 87 = .ok (.if_icmp .ne 13, 3) := by decide +kernel
theorem dX9_readPerson_90 : decode cX9_readPerson 90 = .ok (.aload_n 0, 1) := by decide +kernel
theorem dX9_readPerson_91 : decode cX9_readPerson 91 = .ok (.iconst 3, 1) := by decide +kernel
theorem dX9_readPerson_92 : decode cX9_readPerson 92 = .ok (.bipush 120, 2) := by decide +kernel
theorem dX9_readPerson_94 : decode cX9_readPerson 94 = .ok (.invokevirtual 231, 3) := by decide +kernel
theorem dX9_readPerson_97 : decode cX9_readPerson 97 = .ok (.goto 8, 3) := by decide +kernel
theorem dX9_readPerson_100 : decode cX9_readPerson 100 = .ok (.aload_n 0, 1) := by decide +kernel
theorem dX9_readPerson_101 : decode cX9_readPerson 101 = .ok (.iconst 4, 1) := by decide +kernel
theorem dX9_readPerson_102 : decode cX9_readPerson 102 = .ok (.invokevirtual 246, 3) := by decide +kernel
theorem dX9_readPerson_105 : decode cX9_readPerson 105 = .ok (.aload_n 0, 1) := by decide +kernel
theorem dX9_readPerson_106 : decode cX9_readPerson 106 = .ok (.getfield 80, 3) := by decide +kernel
theorem dX9_readPerson_109 : decode cX9_readPerson 109 = .ok (.iload_n 3, 1) := by decide +kernel
theorem dX9_readPerson_110 : decode cX9_readPerson 110 = .ok (.aload_n 0, 1) := by decide +kernel
theorem dX9_readPerson_111 : decode cX9_readPerson 111 = .ok (.getfield 212, 3) := by decide +kernel
theorem dX9_readPerson_114 : decode cX9_readPerson 114 = .ok (.iastore, 1) := by decide +kernel
theorem dX9_readPerson_115 : decode cX9_readPerson 115 = .ok (.iinc 3 1, 3) := by decide +kernel
theorem dX9_readPerson_118 : decode cX9_readPerson 118 = .ok (.goto (-57), 3) := by decide +kernel
theorem dX9_readPerson_121 : decode cX9_readPerson 121 = .ok (.aload_n 0, 1) := by decide +kernel
theorem dX9_readPerson_122 : decode cX9_readPerson 122 = .ok (.getfield 177, 3) := by decide +kernel
theorem dX9_readPerson_125 : decode cX9_readPerson 125 = .ok (.ifCond .ne 39, 3) := by decide +kernel
theorem dX9_readPerson_128 : decode cX9_readPerson 128 = .ok (.aload_n 0, 1) := by decide +kernel
theorem dX9_readPerson_129 : decode cX9_readPerson 129 = .ok (.getfield 80, 3) := by decide +kernel
theorem dX9_readPerson_132 : decode cX9_readPerson 132 = .ok (.iconst 1, 1) := by decide +kernel
theorem dX9_readPerson_133 : decode cX9_readPerson 133 = .ok (.iaload, 1) := by decide +kernel
theorem dX9_readPerson_134 : decode cX9_readPerson 134 = .ok (.ifCond .lt 30, 3) := by decide +kernel
theorem dX9_readPerson_137 : decode cX9_readPerson 137 = .ok (.aload_n 0, 1) := by decide +kernel
theorem dX9_readPerson_138 : decode cX9_readPerson 138 = .ok (.getfield 80, 3) := by decide +kernel
theorem dX9_readPerson_141 : decode cX9_readPerson 141 = .ok (.iconst 1, 1) := by decide +kernel
theorem dX9_readPerson_142 : decode cX9_readPerson 142 = .ok (.iaload, 1) := by decide +kernel
theorem dX9_readPerson_143 : decode cX9_readPerson 143 = .ok (.bipush 10, 2) := by decide +kernel
theorem dX9_readPerson_145 : decode cX9_readPerson 145 = .ok (.if_icmp .ge 19, 3) := by decide +kernel
theorem dX9_readPerson_148 : decode cX9_readPerson 148 = .ok (.aload_n 0, 1) := by decide +kernel
theorem dX9_readPerson_149 : decode cX9_readPerson 149 = .ok (.getfield 80, 3) := by decide +kernel
theorem dX9_readPerson_152 : decode cX9_readPerson 152 = .ok (.iconst 2, 1) := by decide +kernel
theorem dX9_readPerson_153 : decode cX9_readPerson 153 = .ok (.iaload, 1) := by decide +kernel
theorem dX9_readPerson_154 : decode cX9_readPerson 154 = .ok (.ifCond .le 10, 3) := by decide +kernel
theorem dX9_readPerson_157 : decode cX9_readPerson 157 = .ok (.aload_n 0, 1) := by decide +kernel
theorem dX9_readPerson_158 : decode cX9_readPerson 158 = .ok (.bipush 12, 2) := by decide +kernel
theorem dX9_readPerson_160 : decode cX9_readPerson 160 = .ok (.iconst (-1), 1) := by decide +kernel
theorem dX9_readPerson_161 : decode cX9_readPerson 161 = .ok (.invokevirtual 187, 3) := by decide +kernel
theorem dX9_readPerson_164 : decode cX9_readPerson 164 = .ok (.aload_n 0, 1) := by decide +kernel
theorem dX9_readPerson_165 : decode cX9_readPerson 165 = .ok (.getfield 177, 3) := by decide +kernel
theorem dX9_readPerson_168 : decode cX9_readPerson 168 = .ok (.ifCond .eq 4, 3) := by decide +kernel
theorem dX9_readPerson_171 : decode cX9_readPerson 171 = .ok (.return_, 1) := by decide +kernel
theorem dX9_readPerson_172 : decode cX9_readPerson 172 = .ok (.aload_n 0, 1) := by decide +kernel
theorem dX9_readPerson_173 : decode cX9_readPerson 173 = .ok (.iload_n 2, 1) := by decide +kernel
theorem dX9_readPerson_174 : decode cX9_readPerson 174 = .ok (.invokevirtual 249, 3) := by decide +kernel
theorem dX9_readPerson_177 : decode cX9_readPerson 177 = .ok (.ifCond .eq 56, 3) := by decide +kernel
theorem dX9_readPerson_180 : decode cX9_readPerson 180 = .ok (.aload_n 0, 1) := by decide +kernel
theorem dX9_readPerson_181 : decode cX9_readPerson 181 = .ok (.bipush 17, 2) := by decide +kernel
theorem dX9_readPerson_183 : decode cX9_readPerson 183 = .ok (.aload_n 0, 1) := by decide +kernel
theorem dX9_readPerson_184 : decode cX9_readPerson 184 = .ok (.getfield 171, 3) := by decide +kernel
theorem dX9_readPerson_187 : decode cX9_readPerson 187 = .ok (.iconst (-1), 1) := by decide +kernel
theorem dX9_readPerson_188 : decode cX9_readPerson 188 = .ok (.invokevirtual 147, 3) := by decide +kernel
theorem dX9_readPerson_191 : decode cX9_readPerson 191 = .ok (.istore_n 3, 1) := by decide +kernel
theorem dX9_readPerson_192 : decode cX9_readPerson 192 = .ok (.aload_n 0, 1) := by decide +kernel
theorem dX9_readPerson_193 : decode cX9_readPerson 193 = .ok (.getfield 125, 3) := by decide +kernel
theorem dX9_readPerson_196 : decode cX9_readPerson 196 = .ok (.ifCond .ne 7, 3) := by decide +kernel
theorem dX9_readPerson_199 : decode cX9_readPerson 199 = .ok (.iconst 1, 1) := by decide +kernel
theorem dX9_readPerson_200 : decode cX9_readPerson 200 = .ok (.goto 4, 3) := by decide +kernel
theorem dX9_readPerson_203 : decode cX9_readPerson 203 = .ok (.iconst 0, 1) := by decide +kernel
theorem dX9_readPerson_204 : decode cX9_readPerson 204 = .ok (.istore 4, 2) := by decide +kernel
theorem dX9_readPerson_206 : decode cX9_readPerson 206 = .ok (.aload_n 0, 1) := by decide +kernel
theorem dX9_readPerson_207 : decode cX9_readPerson 207 = .ok (.getfield 125, 3) := by decide +kernel
theorem dX9_readPerson_210 : decode cX9_readPerson 210 = .ok (.invokestatic 154, 3) := by decide +kernel
theorem dX9_readPerson_213 : decode cX9_readPerson 213 = .ok (.ifCond .ne 20, 3) := by decide +kernel
theorem dX9_readPerson_216 : decode cX9_readPerson 216 = .ok (.iload 4, 2) := by decide +kernel
theorem dX9_readPerson_218 : decode cX9_readPerson 218 = .ok (.ifCond .eq 14, 3) := by decide +kernel
theorem dX9_readPerson_221 : decode cX9_readPerson 221 = .ok (.aload_n 0, 1) := by decide +kernel
theorem dX9_readPerson_222 : decode cX9_readPerson 222 = .ok (.bipush 18, 2) := by decide +kernel
theorem dX9_readPerson_224 : decode cX9_readPerson 224 = .ok (.aload_n 0, 1) := by decide +kernel
theorem dX9_readPerson_225 : decode cX9_readPerson 225 = .ok (.getfield 171, 3) := by decide +kernel
theorem dX9_readPerson_228 : decode cX9_readPerson 228 = .ok (.iload_n 3, 1) := by decide +kernel
theorem dX9_readPerson_229 : decode cX9_readPerson 229 = .ok (.invokevirtual 174, 3) := by decide +kernel
theorem dX9_readPerson_232 : decode cX9_readPerson 232 = .ok (.return_, 1) := by decide +kernel
theorem dX9_readPerson_233 : decode cX9_readPerson 233 = .ok (.aload_n 0, 1) := by decide +kernel
theorem dX9_readPerson_234 : decode cX9_readPerson 234 = .ok (.getfield 32, 3) := by decide +kernel
theorem dX9_readPerson_237 : decode cX9_readPerson 237 = .ok (.aload_n 0, 1) := by decide +kernel
theorem dX9_readPerson_238 : decode cX9_readPerson 238 = .ok (.getfield 252, 3) := by decide +kernel
theorem dX9_readPerson_241 : decode cX9_readPerson 241 = .ok (.aload_n 0, 1) := by decide +kernel
theorem dX9_readPerson_242 : decode cX9_readPerson 242 = .ok (.getfield 80, 3) := by decide +kernel
theorem dX9_readPerson_245 : decode cX9_readPerson 245 = .ok (.iconst 0, 1) := by decide +kernel
theorem dX9_readPerson_246 : decode cX9_readPerson 246 = .ok (.iaload, 1) := by decide +kernel
theorem dX9_readPerson_247 : decode cX9_readPerson 247 = .ok (.iastore, 1) := by decide +kernel
theorem dX9_readPerson_248 : decode cX9_readPerson 248 = .ok (.aload_n 0, 1) := by decide +kernel
theorem dX9_readPerson_249 : decode cX9_readPerson 249 = .ok (.getfield 35, 3) := by decide +kernel
theorem dX9_readPerson_252 : decode cX9_readPerson 252 = .ok (.aload_n 0, 1) := by decide +kernel
theorem dX9_readPerson_253 : decode cX9_readPerson 253 = .ok (.getfield 252, 3) := by decide +kernel
theorem dX9_readPerson_256 : decode cX9_readPerson 256 = .ok (.aload_n 0, 1) := by decide +kernel
theorem dX9_readPerson_257 : decode cX9_readPerson 257 = .ok (.getfield 80, 3) := by decide +kernel
theorem dX9_readPerson_260 : decode cX9_readPerson 260 = .ok (.iconst 1, 1) := by decide +kernel
theorem dX9_readPerson_261 : decode cX9_readPerson 261 = .ok (.iaload, 1) := by decide +kernel
theorem dX9_readPerson_262 : decode cX9_readPerson 262 = .ok (.iastore, 1) := by decide +kernel
theorem dX9_readPerson_263 : decode cX9_readPerson 263 = .ok (.aload_n 0, 1) := by decide +kernel
theorem dX9_readPerson_264 : decode cX9_readPerson 264 = .ok (.getfield 38, 3) := by decide +kernel
theorem dX9_readPerson_267 : decode cX9_readPerson 267 = .ok (.aload_n 0, 1) := by decide +kernel
theorem dX9_readPerson_268 : decode cX9_readPerson 268 = .ok (.getfield 252, 3) := by decide +kernel
theorem dX9_readPerson_271 : decode cX9_readPerson 271 = .ok (.aload_n 0, 1) := by decide +kernel
theorem dX9_readPerson_272 : decode cX9_readPerson 272 = .ok (.getfield 80, 3) := by decide +kernel
theorem dX9_readPerson_275 : decode cX9_readPerson 275 = .ok (.iconst 2, 1) := by decide +kernel
theorem dX9_readPerson_276 : decode cX9_readPerson 276 = .ok (.iaload, 1) := by decide +kernel
theorem dX9_readPerson_277 : decode cX9_readPerson 277 = .ok (.iastore, 1) := by decide +kernel
theorem dX9_readPerson_278 : decode cX9_readPerson 278 = .ok (.aload_n 0, 1) := by decide +kernel
theorem dX9_readPerson_279 : decode cX9_readPerson 279 = .ok (.getfield 41, 3) := by decide +kernel
theorem dX9_readPerson_282 : decode cX9_readPerson 282 = .ok (.aload_n 0, 1) := by decide +kernel
theorem dX9_readPerson_283 : decode cX9_readPerson 283 = .ok (.getfield 252, 3) := by decide +kernel
theorem dX9_readPerson_286 : decode cX9_readPerson 286 = .ok (.aload_n 0, 1) := by decide +kernel
theorem dX9_readPerson_287 : decode cX9_readPerson 287 = .ok (.getfield 240, 3) := by decide +kernel
theorem dX9_readPerson_290 : decode cX9_readPerson 290 = .ok (.iastore, 1) := by decide +kernel
theorem dX9_readPerson_291 : decode cX9_readPerson 291 = .ok (.aload_n 0, 1) := by decide +kernel
theorem dX9_readPerson_292 : decode cX9_readPerson 292 = .ok (.getfield 44, 3) := by decide +kernel
theorem dX9_readPerson_295 : decode cX9_readPerson 295 = .ok (.aload_n 0, 1) := by decide +kernel
theorem dX9_readPerson_296 : decode cX9_readPerson 296 = .ok (.getfield 252, 3) := by decide +kernel
theorem dX9_readPerson_299 : decode cX9_readPerson 299 = .ok (.iload_n 2, 1) := by decide +kernel
theorem dX9_readPerson_300 : decode cX9_readPerson 300 = .ok (.iastore, 1) := by decide +kernel
theorem dX9_readPerson_301 : decode cX9_readPerson 301 = .ok (.aload_n 0, 1) := by decide +kernel
theorem dX9_readPerson_302 : decode cX9_readPerson 302 = .ok (.dup, 1) := by decide +kernel
theorem dX9_readPerson_303 : decode cX9_readPerson 303 = .ok (.getfield 240, 3) := by decide +kernel
theorem dX9_readPerson_306 : decode cX9_readPerson 306 = .ok (.iload_n 2, 1) := by decide +kernel
theorem dX9_readPerson_307 : decode cX9_readPerson 307 = .ok (.iadd, 1) := by decide +kernel
theorem dX9_readPerson_308 : decode cX9_readPerson 308 = .ok (.putfield 240, 3) := by decide +kernel
theorem dX9_readPerson_311 : decode cX9_readPerson 311 = .ok (.aload_n 0, 1) := by decide +kernel
theorem dX9_readPerson_312 : decode cX9_readPerson 312 = .ok (.dup, 1) := by decide +kernel
theorem dX9_readPerson_313 : decode cX9_readPerson 313 = .ok (.getfield 252, 3) := by decide +kernel
theorem dX9_readPerson_316 : decode cX9_readPerson 316 = .ok (.iconst 1, 1) := by decide +kernel
theorem dX9_readPerson_317 : decode cX9_readPerson 317 = .ok (.iadd, 1) := by decide +kernel
theorem dX9_readPerson_318 : decode cX9_readPerson 318 = .ok (.putfield 252, 3) := by decide +kernel
theorem dX9_readPerson_321 : decode cX9_readPerson 321 = .ok (.return_, 1) := by decide +kernel
theorem dX9_isTwice_0 : decode cX9_isTwice 0 = .ok (.iconst 0, 1) := by decide +kernel
theorem dX9_isTwice_1 : decode cX9_isTwice 1 = .ok (.istore_n 2, 1) := by decide +kernel
theorem dX9_isTwice_2 : decode cX9_isTwice 2 = .ok (.aload_n 0, 1) := by decide +kernel
theorem dX9_isTwice_3 : decode cX9_isTwice 3 = .ok (.getfield 255, 3) := by decide +kernel
theorem dX9_isTwice_6 : decode cX9_isTwice 6 = .ok (.istore_n 3, 1) := by decide +kernel
theorem dX9_isTwice_7 : decode cX9_isTwice 7 = .ok (.iload_n 3, 1) := by decide +kernel
theorem dX9_isTwice_8 : decode cX9_isTwice 8 = .ok (.aload_n 0, 1) := by decide +kernel
theorem dX9_isTwice_9 : decode cX9_isTwice 9 = .ok (.getfield 252, 3) := by decide +kernel
theorem dX9_isTwice_12 : decode cX9_isTwice 12 = .ok (.if_icmp .ge 125, 3) := by decide +kernel
theorem dX9_isTwice_15 : decode cX9_isTwice 15 = .ok (.iload_n 1, 1) := by decide +kernel
theorem dX9_isTwice_16 : decode cX9_isTwice 16 = .ok (.ifCond .le 121, 3) := by decide +kernel
theorem dX9_isTwice_19 : decode cX9_isTwice 19 = .ok (.aload_n 0, 1) := by decide +kernel
theorem dX9_isTwice_20 : decode cX9_isTwice 20 = .ok (.getfield 80, 3) := by decide +kernel
theorem dX9_isTwice_23 : decode cX9_isTwice 23 = .ok (.iconst 1, 1) := by decide +kernel
theorem dX9_isTwice_24 : decode cX9_isTwice 24 = .ok (.iaload, 1) := by decide +kernel
theorem dX9_isTwice_25 : decode cX9_isTwice 25 = .ok (.ifCond .lt 112, 3) := by decide +kernel
theorem dX9_isTwice_28 : decode cX9_isTwice 28 = .ok (.aload_n 0, 1) := by decide +kernel
theorem dX9_isTwice_29 : decode cX9_isTwice 29 = .ok (.getfield 35, 3) := by decide +kernel
theorem dX9_isTwice_32 : decode cX9_isTwice 32 = .ok (.iload_n 3, 1) := by decide +kernel
theorem dX9_isTwice_33 : decode cX9_isTwice 33 = .ok (.iaload, 1) := by decide +kernel
theorem dX9_isTwice_34 : decode cX9_isTwice 34 = .ok (.aload_n 0, 1) := by decide +kernel
theorem dX9_isTwice_35 : decode cX9_isTwice 35 = .ok (.getfield 80, 3) := by decide +kernel
theorem dX9_isTwice_38 : decode cX9_isTwice 38 = .ok (.iconst 1, 1) := by decide +kernel
theorem dX9_isTwice_39 : decode cX9_isTwice 39 = .ok (.iaload, 1) := by decide +kernel
theorem dX9_isTwice_40 : decode cX9_isTwice 40 = .ok (.if_icmp .ne 17, 3) := by decide +kernel
theorem dX9_isTwice_43 : decode cX9_isTwice 43 = .ok (.aload_n 0, 1) := by decide +kernel
theorem dX9_isTwice_44 : decode cX9_isTwice 44 = .ok (.getfield 44, 3) := by decide +kernel
theorem dX9_isTwice_47 : decode cX9_isTwice 47 = .ok (.iload_n 3, 1) := by decide +kernel
theorem dX9_isTwice_48 : decode cX9_isTwice 48 = .ok (.iaload, 1) := by decide +kernel
theorem dX9_isTwice_49 : decode cX9_isTwice 49 = .ok (.iload_n 1, 1) := by decide +kernel
theorem dX9_isTwice_50 : decode cX9_isTwice 50 = .ok (.if_icmp .ne 7, 3) := by decide +kernel
theorem dX9_isTwice_53 : decode cX9_isTwice 53 = .ok (.iconst 1, 1) := by decide +kernel
theorem dX9_isTwice_54 : decode cX9_isTwice 54 = .ok (.goto 4, 3) := by decide +kernel
theorem dX9_isTwice_57 : decode cX9_isTwice 57 = .ok (.iconst 0, 1) := by decide +kernel
theorem dX9_isTwice_58 : decode cX9_isTwice 58 = .ok (.istore 4, 2) := by decide +kernel
theorem dX9_isTwice_60 : decode cX9_isTwice 60 = .ok (.iconst 0, 1) := by decide +kernel
theorem dX9_isTwice_61 : decode cX9_isTwice 61 = .ok (.istore 5, 2) := by decide +kernel
theorem dX9_isTwice_63 : decode cX9_isTwice 63 = .ok (.iload 5, 2) := by decide +kernel
theorem dX9_isTwice_65 : decode cX9_isTwice 65 = .ok (.iload_n 1, 1) := by decide +kernel
theorem dX9_isTwice_66 : decode cX9_isTwice 66 = .ok (.if_icmp .ge 50, 3) := by decide +kernel
theorem dX9_isTwice_69 : decode cX9_isTwice 69 = .ok (.iload 4, 2) := by decide +kernel
theorem dX9_isTwice_71 : decode cX9_isTwice 71 = .ok (.ifCond .eq 45, 3) := by decide +kernel
theorem dX9_isTwice_74 : decode cX9_isTwice 74 = .ok (.aload_n 0, 1) := by decide +kernel
theorem dX9_isTwice_75 : decode cX9_isTwice 75 = .ok (.getfield 47, 3) := by decide +kernel
theorem dX9_isTwice_78 : decode cX9_isTwice 78 = .ok (.aload_n 0, 1) := by decide +kernel
theorem dX9_isTwice_79 : decode cX9_isTwice 79 = .ok (.getfield 41, 3) := by decide +kernel
theorem dX9_isTwice_82 : decode cX9_isTwice 82 = .ok (.iload_n 3, 1) := by decide +kernel
theorem dX9_isTwice_83 : decode cX9_isTwice 83 = .ok (.iaload, 1) := by decide +kernel
theorem dX9_isTwice_84 : decode cX9_isTwice 84 = .ok (.iload 5, 2) := by decide +kernel
theorem dX9_isTwice_86 : decode cX9_isTwice 86 = .ok (.iadd, 1) := by decide +kernel
theorem dX9_isTwice_87 : decode cX9_isTwice 87 = .ok (.baload, 1) := by decide +kernel
theorem dX9_isTwice_88 : decode cX9_isTwice 88 = .ok (.aload_n 0, 1) := by decide +kernel
theorem dX9_isTwice_89 : decode cX9_isTwice 89 = .ok (.getfield 47, 3) := by decide +kernel
theorem dX9_isTwice_92 : decode cX9_isTwice 92 = .ok (.aload_n 0, 1) := by decide +kernel
theorem dX9_isTwice_93 : decode cX9_isTwice 93 = .ok (.getfield 240, 3) := by decide +kernel
theorem dX9_isTwice_96 : decode cX9_isTwice 96 = .ok (.iload 5, 2) := by decide +kernel
theorem dX9_isTwice_98 : decode cX9_isTwice 98 = .ok (.iadd, 1) := by decide +kernel
theorem dX9_isTwice_99 : decode cX9_isTwice 99 = .ok (.baload, 1) := by decide +kernel
theorem dX9_isTwice_100 : decode cX9_isTwice 100 = .ok (.if_icmp .ne 7, 3) := by decide +kernel
theorem dX9_isTwice_103 : decode cX9_isTwice 103 = .ok (.iconst 1, 1) := by decide +kernel
theorem dX9_isTwice_104 : decode cX9_isTwice 104 = .ok (.goto 4, 3) := by decide +kernel
theorem dX9_isTwice_107 : decode cX9_isTwice 107 = .ok (.iconst 0, 1) := by decide +kernel
theorem dX9_isTwice_108 : decode cX9_isTwice 108 = .ok (.istore 4, 2) := by decide +kernel
theorem dX9_isTwice_110 : decode cX9_isTwice 110 = .ok (.iinc 5 1, 3) := by decide +kernel
theorem dX9_isTwice_113 : decode cX9_isTwice 113 = .ok (.goto (-50), 3) := by decide +kernel
theorem dX9_isTwice_116 : decode cX9_isTwice 116 = .ok (.iload_n 2, 1) := by decide +kernel
theorem dX9_isTwice_117 : decode cX9_isTwice 117 = .ok (.ifCond .ne 8, 3) := by decide +kernel
theorem dX9_isTwice_120 : decode cX9_isTwice 120 = .ok (.iload 4, 2) := by decide +kernel
theorem dX9_isTwice_122 : decode cX9_isTwice 122 = .ok (.ifCond .eq 7, 3) := by decide +kernel
theorem dX9_isTwice_125 : decode cX9_isTwice 125 = .ok (.iconst 1, 1) := by decide +kernel
theorem dX9_isTwice_126 : decode cX9_isTwice 126 = .ok (.goto 4, 3) := by decide +kernel
theorem dX9_isTwice_129 : decode cX9_isTwice 129 = .ok (.iconst 0, 1) := by decide +kernel
theorem dX9_isTwice_130 : decode cX9_isTwice 130 = .ok (.istore_n 2, 1) := by decide +kernel
theorem dX9_isTwice_131 : decode cX9_isTwice 131 = .ok (.iinc 3 1, 3) := by decide +kernel
theorem dX9_isTwice_134 : decode cX9_isTwice 134 = .ok (.goto (-127), 3) := by decide +kernel
theorem dX9_isTwice_137 : decode cX9_isTwice 137 = .ok (.iload_n 2, 1) := by decide +kernel
theorem dX9_isTwice_138 : decode cX9_isTwice 138 = .ok (.ireturn, 1) := by decide +kernel
theorem dX9_beginHouse_0 : decode cX9_beginHouse 0 = .ok (.aload_n 0, 1) := by decide +kernel
theorem dX9_beginHouse_1 : decode cX9_beginHouse 1 = .ok (.iconst 1, 1) := by decide +kernel
theorem dX9_beginHouse_2 : decode cX9_beginHouse 2 = .ok (.putfield 141, 3) := by decide +kernel
theorem dX9_beginHouse_5 : decode cX9_beginHouse 5 = .ok (.aload_n 0, 1) := by decide +kernel
theorem dX9_beginHouse_6 : decode cX9_beginHouse 6 = .ok (.iconst 0, 1) := by decide +kernel
theorem dX9_beginHouse_7 : decode cX9_beginHouse 7 = .ok (.putfield 158, 3) := by decide +kernel
theorem dX9_beginHouse_10 : decode cX9_beginHouse 10 = .ok (.aload_n 0, 1) := by decide +kernel
theorem dX9_beginHouse_11 : decode cX9_beginHouse 11 = .ok (.aload_n 0, 1) := by decide +kernel
theorem dX9_beginHouse_12 : decode cX9_beginHouse 12 = .ok (.getfield 171, 3) := by decide +kernel
theorem dX9_beginHouse_15 : decode cX9_beginHouse 15 = .ok (.putfield 164, 3) := by decide +kernel
theorem dX9_beginHouse_18 : decode cX9_beginHouse 18 = .ok (.aload_n 0, 1) := by decide +kernel
theorem dX9_beginHouse_19 : decode cX9_beginHouse 19 = .ok (.aload_n 0, 1) := by decide +kernel
theorem dX9_beginHouse_20 : decode cX9_beginHouse 20 = .ok (.getfield 252, 3) := by decide +kernel
theorem dX9_beginHouse_23 : decode cX9_beginHouse 23 = .ok (.putfield 255, 3) := by decide +kernel
theorem dX9_beginHouse_26 : decode cX9_beginHouse 26 = .ok (.iconst 0, 1) := by decide +kernel
theorem dX9_beginHouse_27 : decode cX9_beginHouse 27 = .ok (.istore_n 1, 1) := by decide +kernel
theorem dX9_beginHouse_28 : decode cX9_beginHouse 28 = .ok (.iload_n 1, 1) := by decide +kernel
theorem dX9_beginHouse_29 : decode cX9_beginHouse 29 = .ok (.bipush 6, 2) := by decide +kernel
theorem dX9_beginHouse_31 : decode cX9_beginHouse 31 = .ok (.if_icmp .ge 16, 3) := by decide +kernel
theorem dX9_beginHouse_34 : decode cX9_beginHouse 34 = .ok (.aload_n 0, 1) := by decide +kernel
theorem dX9_beginHouse_35 : decode cX9_beginHouse 35 = .ok (.getfield 68, 3) := by decide +kernel
theorem dX9_beginHouse_38 : decode cX9_beginHouse 38 = .ok (.iload_n 1, 1) := by decide +kernel
theorem dX9_beginHouse_39 : decode cX9_beginHouse 39 = .ok (.iconst (-1), 1) := by decide +kernel
theorem dX9_beginHouse_40 : decode cX9_beginHouse 40 = .ok (.iastore, 1) := by decide +kernel
theorem dX9_beginHouse_41 : decode cX9_beginHouse 41 = .ok (.iinc 1 1, 3) := by decide +kernel
theorem dX9_beginHouse_44 : decode cX9_beginHouse 44 = .ok (.goto (-16), 3) := by decide +kernel
theorem dX9_beginHouse_47 : decode cX9_beginHouse 47 = .ok (.return_, 1) := by decide +kernel
set_option maxRecDepth 20000 in
theorem ggX9_endHouse_X9_failHouse_1 : GoodIn wsX9_endHouse wsX9_failHouse_r1 := goodIn_r _ [21, 3, 22, 4, 23, 24, 25, 19, 26, 27, 28, 29, 30, 8, 31, 32, 33, 34, 35, 36, 37, 38, 39, 40] (by decide +kernel) (by decide +kernel)
set_option maxRecDepth 20000 in
theorem ggX9_endHouse_X9_failHouse_2 : GoodIn wsX9_endHouse wsX9_failHouse_r2 := goodIn_r _ [41, 42, 43, 44, 45, 46, 47, 48, 49, 50, 51, 52, 53] (by decide +kernel) (by decide +kernel)
set_option maxRecDepth 20000 in
theorem ggX9_endHouse_X9_failHouse_3 : GoodIn wsX9_endHouse wsX90 := goodIn_r _ [54, 55, 56, 57, 58, 59, 60, 61, 62, 63, 64, 65, 66, 67, 68, 69, 70, 71, 72, 73, 74, 75, 76, 77, 78, 79, 80, 81, 82, 83, 84, 85, 86, 87, 88, 89, 90, 91, 92, 93, 94, 95, 96, 97, 98, 99, 100, 101, 102, 103, 104, 105, 106, 107, 108, 109, 110, 111, 112, 113, 114, 115, 116, 117, 118, 119, 120, 121, 122] (by decide +kernel) (by decide +kernel)
set_option maxRecDepth 20000 in
theorem ggX9_endHouse_X9_failHouse_0 : GoodIn wsX9_endHouse [.code yX9_failHouse cX9_failHouse 6 none] := goodIn_r _ [20] (by decide +kernel) (by decide +kernel)
theorem ggX9_endHouse_X9_failHouse : GoodIn wsX9_endHouse wsX9_failHouse := goodIn_k ggX9_endHouse_X9_failHouse_0 (goodIn_app (goodIn_app ggX9_endHouse_X9_failHouse_1 ggX9_endHouse_X9_failHouse_2) ggX9_endHouse_X9_failHouse_3)
set_option maxRecDepth 20000 in
theorem gX9_endHouse_X9_failHouse : GoodIn wsX9_endHouse (wsV RX9 174 RX9 yX9_failHouse wsX9_failHouse) := goodIn_app (goodIn_of _ (by decide +kernel)) ggX9_endHouse_X9_failHouse
theorem dX9_endHouse_0 : decode cX9_endHouse 0 = .ok (.aload_n 0, 1) := by decide +kernel
theorem dX9_endHouse_1 : decode cX9_endHouse 1 = .ok (.getfield 252, 3) := by decide +kernel
theorem dX9_endHouse_4 : decode cX9_endHouse 4 = .ok (.aload_n 0, 1) := by decide +kernel
theorem dX9_endHouse_5 : decode cX9_endHouse 5 = .ok (.getfield 255, 3) := by decide +kernel
theorem dX9_endHouse_8 : decode cX9_endHouse 8 = .ok (.isub, 1) := by decide +kernel
theorem dX9_endHouse_9 : decode cX9_endHouse 9 = .ok (.istore_n 1, 1) := by decide +kernel
theorem dX9_endHouse_10 : decode cX9_endHouse 10 = .ok (.aload_n 0, 1) := by decide +kernel
theorem dX9_endHouse_11 : decode cX9_endHouse 11 = .ok (.getfield 158, 3) := by decide +kernel
theorem dX9_endHouse_14 : decode cX9_endHouse 14 = .ok (.ifCond .ne 18, 3) := by decide +kernel
theorem dX9_endHouse_17 : decode cX9_endHouse 17 = .ok (.iload_n 1, 1) := by decide +kernel
theorem dX9_endHouse_18 : decode cX9_endHouse 18 = .ok (.ifCond .ne 14, 3) := by decide +kernel
theorem dX9_endHouse_21 : decode cX9_endHouse 21 = .ok (.aload_n 0, 1) := by decide +kernel
theorem dX9_endHouse_22 : decode cX9_endHouse 22 = .ok (.bipush 14, 2) := by decide +kernel
theorem dX9_endHouse_24 : decode cX9_endHouse 24 = .ok (.aload_n 0, 1) := by decide +kernel
theorem dX9_endHouse_25 : decode cX9_endHouse 25 = .ok (.getfield 164, 3) := by decide +kernel
theorem dX9_endHouse_28 : decode cX9_endHouse 28 = .ok (.iconst (-1), 1) := by decide +kernel
theorem dX9_endHouse_29 : decode cX9_endHouse 29 = .ok (.invokevirtual 174, 3) := by decide +kernel
theorem dX9_endHouse_32 : decode cX9_endHouse 32 = .ok (.aload_n 0, 1) := by decide +kernel
theorem dX9_endHouse_33 : decode cX9_endHouse 33 = .ok (.getfield 158, 3) := by decide +kernel
theorem dX9_endHouse_36 : decode cX9_endHouse 36 = .ok (.ifCond .ne 29, 3) := by decide +kernel
theorem dX9_endHouse_39 : decode cX9_endHouse 39 = .ok (.aload_n 0, 1) := by decide +kernel
theorem dX9_endHouse_40 : decode cX9_endHouse 40 = .ok (.getfield 224, 3) := by decide +kernel
theorem dX9_endHouse_43 : decode cX9_endHouse 43 = .ok (.ifCond .lt 22, 3) := by decide +kernel
theorem dX9_endHouse_46 : decode cX9_endHouse 46 = .ok (.aload_n 0, 1) := by decide +kernel
theorem dX9_endHouse_47 : decode cX9_endHouse 47 = .ok (.getfield 224, 3) := by decide +kernel
theorem dX9_endHouse_50 : decode cX9_endHouse 50 = .ok (.iload_n 1, 1) := by decide +kernel
theorem dX9_endHouse_51 : decode cX9_endHouse 51 = .ok (.if_icmp .eq 14, 3) := by decide +kernel
theorem dX9_endHouse_54 : decode cX9_endHouse 54 = .ok (.aload_n 0, 1) := by decide +kernel
theorem dX9_endHouse_55 : decode cX9_endHouse 55 = .ok (.bipush 15, 2) := by decide +kernel
theorem dX9_endHouse_57 : decode cX9_endHouse 57 = .ok (.aload_n 0, 1) := by decide +kernel
theorem dX9_endHouse_58 : decode cX9_endHouse 58 = .ok (.getfield 164, 3) := by decide +kernel
theorem dX9_endHouse_61 : decode cX9_endHouse 61 = .ok (.iconst (-1), 1) := by decide +kernel
theorem dX9_endHouse_62 : decode cX9_endHouse 62 = .ok (.invokevirtual 174, 3) := by decide +kernel
theorem dX9_endHouse_65 : decode cX9_endHouse 65 = .ok (.aload_n 0, 1) := by decide +kernel
theorem dX9_endHouse_66 : decode cX9_endHouse 66 = .ok (.getfield 158, 3) := by decide +kernel
theorem dX9_endHouse_69 : decode cX9_endHouse 69 = .ok (.ifCond .ne 32, 3) := by decide +kernel
theorem dX9_endHouse_72 : decode cX9_endHouse 72 = .ok (.aload_n 0, 1) := by decide +kernel
theorem dX9_endHouse_73 : decode cX9_endHouse 73 = .ok (.getfield 221, 3) := by decide +kernel
theorem dX9_endHouse_76 : decode cX9_endHouse 76 = .ok (.ifCond .lt 25, 3) := by decide +kernel
theorem dX9_endHouse_79 : decode cX9_endHouse 79 = .ok (.aload_n 0, 1) := by decide +kernel
theorem dX9_endHouse_80 : decode cX9_endHouse 80 = .ok (.getfield 221, 3) := by decide +kernel
theorem dX9_endHouse_83 : decode cX9_endHouse 83 = .ok (.aload_n 0, 1) := by decide +kernel
theorem dX9_endHouse_84 : decode cX9_endHouse 84 = .ok (.getfield 258, 3) := by decide +kernel
theorem dX9_endHouse_87 : decode cX9_endHouse 87 = .ok (.if_icmp .gt 14, 3) := by decide +kernel
theorem dX9_endHouse_90 : decode cX9_endHouse 90 = .ok (.aload_n 0, 1) := by decide +kernel
theorem dX9_endHouse_91 : decode cX9_endHouse 91 = .ok (.bipush 16, 2) := by decide +kernel
theorem dX9_endHouse_93 : decode cX9_endHouse 93 = .ok (.aload_n 0, 1) := by decide +kernel
theorem dX9_endHouse_94 : decode cX9_endHouse 94 = .ok (.getfield 164, 3) := by decide +kernel
theorem dX9_endHouse_97 : decode cX9_endHouse 97 = .ok (.iconst (-1), 1) := by decide +kernel
theorem dX9_endHouse_98 : decode cX9_endHouse 98 = .ok (.invokevirtual 174, 3) := by decide +kernel
theorem dX9_endHouse_101 : decode cX9_endHouse 101 = .ok (.aload_n 0, 1) := by decide +kernel
theorem dX9_endHouse_102 : decode cX9_endHouse 102 = .ok (.iconst 0, 1) := by decide +kernel
theorem dX9_endHouse_103 : decode cX9_endHouse 103 = .ok (.putfield 141, 3) := by decide +kernel
theorem dX9_endHouse_106 : decode cX9_endHouse 106 = .ok (.aload_n 0, 1) := by decide +kernel
theorem dX9_endHouse_107 : decode cX9_endHouse 107 = .ok (.getfield 158, 3) := by decide +kernel
theorem dX9_endHouse_110 : decode cX9_endHouse 110 = .ok (.ifCond .eq 43, 3) := by decide +kernel
theorem dX9_endHouse_113 : decode cX9_endHouse 113 = .ok (.aload_n 0, 1) := by decide +kernel
theorem dX9_endHouse_114 : decode cX9_endHouse 114 = .ok (.aload_n 0, 1) := by decide +kernel
theorem dX9_endHouse_115 : decode cX9_endHouse 115 = .ok (.getfield 252, 3) := by decide +kernel
theorem dX9_endHouse_118 : decode cX9_endHouse 118 = .ok (.aload_n 0, 1) := by decide +kernel
theorem dX9_endHouse_119 : decode cX9_endHouse 119 = .ok (.getfield 255, 3) := by decide +kernel
theorem dX9_endHouse_122 : decode cX9_endHouse 122 = .ok (.if_icmp .le 15, 3) := by decide +kernel
theorem dX9_endHouse_125 : decode cX9_endHouse 125 = .ok (.aload_n 0, 1) := by decide +kernel
theorem dX9_endHouse_126 : decode cX9_endHouse 126 = .ok (.getfield 41, 3) := by decide +kernel
theorem dX9_endHouse_129 : decode cX9_endHouse 129 = .ok (.aload_n 0, 1) := by decide +kernel
theorem dX9_endHouse_130 : decode cX9_endHouse 130 = .ok (.getfield 255, 3) := by decide +kernel
theorem dX9_endHouse_133 : decode cX9_endHouse 133 = .ok (.iaload, 1) := by decide +kernel
theorem dX9_endHouse_134 : decode cX9_endHouse 134 = .ok (.goto 7, 3) := by decide +kernel
theorem dX9_endHouse_137 : decode cX9_endHouse 137 = .ok (.aload_n 0, 1) := by decide +kernel
theorem dX9_endHouse_138 : decode cX9_endHouse 138 = .ok (.getfield 240, 3) := by decide +kernel
theorem dX9_endHouse_141 : decode cX9_endHouse 141 = .ok (.putfield 240, 3) := by decide +kernel
theorem dX9_endHouse_144 : decode cX9_endHouse 144 = .ok (.aload_n 0, 1) := by decide +kernel
theorem dX9_endHouse_145 : decode cX9_endHouse 145 = .ok (.aload_n 0, 1) := by decide +kernel
theorem dX9_endHouse_146 : decode cX9_endHouse 146 = .ok (.getfield 255, 3) := by decide +kernel
theorem dX9_endHouse_149 : decode cX9_endHouse 149 = .ok (.putfield 252, 3) := by decide +kernel
theorem dX9_endHouse_152 : decode cX9_endHouse 152 = .ok (.return_, 1) := by decide +kernel
theorem dX9_endHouse_153 : decode cX9_endHouse 153 = .ok (.aload_n 0, 1) := by decide +kernel
theorem dX9_endHouse_154 : decode cX9_endHouse 154 = .ok (.getfield 20, 3) := by decide +kernel
theorem dX9_endHouse_157 : decode cX9_endHouse 157 = .ok (.aload_n 0, 1) := by decide +kernel
theorem dX9_endHouse_158 : decode cX9_endHouse 158 = .ok (.getfield 234, 3) := by decide +kernel
theorem dX9_endHouse_161 : decode cX9_endHouse 161 = .ok (.aload_n 0, 1) := by decide +kernel
theorem dX9_endHouse_162 : decode cX9_endHouse 162 = .ok (.getfield 221, 3) := by decide +kernel
theorem dX9_endHouse_165 : decode cX9_endHouse 165 = .ok (.iastore, 1) := by decide +kernel
theorem dX9_endHouse_166 : decode cX9_endHouse 166 = .ok (.aload_n 0, 1) := by decide +kernel
theorem dX9_endHouse_167 : decode cX9_endHouse 167 = .ok (.getfield 23, 3) := by decide +kernel
theorem dX9_endHouse_170 : decode cX9_endHouse 170 = .ok (.aload_n 0, 1) := by decide +kernel
theorem dX9_endHouse_171 : decode cX9_endHouse 171 = .ok (.getfield 234, 3) := by decide +kernel
theorem dX9_endHouse_174 : decode cX9_endHouse 174 = .ok (.aload_n 0, 1) := by decide +kernel
theorem dX9_endHouse_175 : decode cX9_endHouse 175 = .ok (.getfield 224, 3) := by decide +kernel
theorem dX9_endHouse_178 : decode cX9_endHouse 178 = .ok (.iastore, 1) := by decide +kernel
theorem dX9_endHouse_179 : decode cX9_endHouse 179 = .ok (.aload_n 0, 1) := by decide +kernel
theorem dX9_endHouse_180 : decode cX9_endHouse 180 = .ok (.getfield 26, 3) := by decide +kernel
theorem dX9_endHouse_183 : decode cX9_endHouse 183 = .ok (.aload_n 0, 1) := by decide +kernel
theorem dX9_endHouse_184 : decode cX9_endHouse 184 = .ok (.getfield 234, 3) := by decide +kernel
theorem dX9_endHouse_187 : decode cX9_endHouse 187 = .ok (.aload_n 0, 1) := by decide +kernel
theorem dX9_endHouse_188 : decode cX9_endHouse 188 = .ok (.getfield 255, 3) := by decide +kernel
theorem dX9_endHouse_191 : decode cX9_endHouse 191 = .ok (.iastore, 1) := by decide +kernel
theorem dX9_endHouse_192 : decode cX9_endHouse 192 = .ok (.aload_n 0, 1) := by decide +kernel
theorem dX9_endHouse_193 : decode cX9_endHouse 193 = .ok (.getfield 29, 3) := by decide +kernel
theorem dX9_endHouse_196 : decode cX9_endHouse 196 = .ok (.aload_n 0, 1) := by decide +kernel
theorem dX9_endHouse_197 : decode cX9_endHouse 197 = .ok (.getfield 234, 3) := by decide +kernel
theorem dX9_endHouse_200 : decode cX9_endHouse 200 = .ok (.iload_n 1, 1) := by decide +kernel
theorem dX9_endHouse_201 : decode cX9_endHouse 201 = .ok (.iastore, 1) := by decide +kernel
theorem dX9_endHouse_202 : decode cX9_endHouse 202 = .ok (.aload_n 0, 1) := by decide +kernel
theorem dX9_endHouse_203 : decode cX9_endHouse 203 = .ok (.dup, 1) := by decide +kernel
theorem dX9_endHouse_204 : decode cX9_endHouse 204 = .ok (.getfield 234, 3) := by decide +kernel
theorem dX9_endHouse_207 : decode cX9_endHouse 207 = .ok (.iconst 1, 1) := by decide +kernel
theorem dX9_endHouse_208 : decode cX9_endHouse 208 = .ok (.iadd, 1) := by decide +kernel
theorem dX9_endHouse_209 : decode cX9_endHouse 209 = .ok (.putfield 234, 3) := by decide +kernel
theorem dX9_endHouse_212 : decode cX9_endHouse 212 = .ok (.aload_n 0, 1) := by decide +kernel
theorem dX9_endHouse_213 : decode cX9_endHouse 213 = .ok (.aload_n 0, 1) := by decide +kernel
theorem dX9_endHouse_214 : decode cX9_endHouse 214 = .ok (.getfield 221, 3) := by decide +kernel
theorem dX9_endHouse_217 : decode cX9_endHouse 217 = .ok (.ifCond .lt 10, 3) := by decide +kernel
theorem dX9_endHouse_220 : decode cX9_endHouse 220 = .ok (.aload_n 0, 1) := by decide +kernel
theorem dX9_endHouse_221 : decode cX9_endHouse 221 = .ok (.getfield 221, 3) := by decide +kernel
theorem dX9_endHouse_224 : decode cX9_endHouse 224 = .ok (.goto 7, 3) := by decide +kernel
theorem dX9_endHouse_227 : decode cX9_endHouse 227 = .ok (.aload_n 0, 1) := by decide +kernel
theorem dX9_endHouse_228 : decode cX9_endHouse 228 = .ok (.getfield 258, 3) := by decide +kernel
theorem dX9_endHouse_231 : decode cX9_endHouse 231 = .ok (.putfield 258, 3) := by decide +kernel
theorem dX9_endHouse_234 : decode cX9_endHouse 234 = .ok (.return_, 1) := by decide +kernel
set_option maxRecDepth 20000 in
theorem ggX9_readOn_X9_at : GoodIn wsX9_readOn wsX9_at := goodIn_r _ [15, 16, 178, 179, 180, 181, 182, 183, 184, 185, 186, 187, 188, 189, 190, 191, 192, 193, 194, 195, 196, 197, 198, 199, 200, 201, 202, 203, 204, 205, 206, 207, 208, 209, 210, 211, 212, 213, 214, 215, 216, 217, 218, 219, 220, 221, 222, 223, 224, 225, 226, 227, 228, 229, 230, 231, 232, 233, 234, 235, 236, 237, 238, 239, 240, 241, 242, 243, 244, 245, 246] (by decide +kernel) (by decide +kernel)
set_option maxRecDepth 20000 in
theorem gX9_readOn_X9_at : GoodIn wsX9_readOn (wsV RX9 197 RX9 yX9_at wsX9_at) := goodIn_app (goodIn_of _ (by decide +kernel)) ggX9_readOn_X9_at
set_option maxRecDepth 20000 in
theorem ggX9_readOn_X9_endHouse_1 : GoodIn wsX9_readOn wsX9_endHouse_r1 := goodIn_r _ [21, 22, 9, 23, 24, 25, 26, 4, 27, 28, 29, 30, 31, 32, 33, 34, 35, 36, 14, 37, 38, 39, 40, 41] (by decide +kernel) (by decide +kernel)
set_option maxRecDepth 20000 in
theorem ggX9_readOn_X9_endHouse_2 : GoodIn wsX9_readOn wsX9_endHouse_r2 := goodIn_r _ [42, 43, 44, 45, 46, 47, 48, 49, 50, 51, 52, 53, 54, 55, 7, 56, 57, 58, 59, 60, 61, 62, 63, 64] (by decide +kernel) (by decide +kernel)
set_option maxRecDepth 20000 in
theorem ggX9_readOn_X9_endHouse_3 : GoodIn wsX9_readOn wsX9_endHouse_r3 := goodIn_r _ [65, 66, 67, 68, 6] (by decide +kernel) (by decide +kernel)
set_option maxRecDepth 20000 in
theorem ggX9_readOn_X9_endHouse_4 : GoodIn wsX9_readOn wsX90 := goodIn_r _ [178, 179, 180, 181, 182, 183, 184, 185, 186, 187, 188, 189, 190, 191, 192, 193, 194, 195, 196, 197, 198, 199, 200, 201, 202, 203, 204, 205, 206, 207, 208, 209, 210, 211, 212, 213, 214, 215, 216, 217, 218, 219, 220, 221, 222, 223, 224, 225, 226, 227, 228, 229, 230, 231, 232, 233, 234, 235, 236, 237, 238, 239, 240, 241, 242, 243, 244, 245, 246] (by decide +kernel) (by decide +kernel)
set_option maxRecDepth 20000 in
theorem ggX9_readOn_X9_endHouse_0 : GoodIn wsX9_readOn [.code yX9_endHouse cX9_endHouse 2 none] := goodIn_r _ [20] (by decide +kernel) (by decide +kernel)
theorem ggX9_readOn_X9_endHouse : GoodIn wsX9_readOn wsX9_endHouse := goodIn_k ggX9_readOn_X9_endHouse_0 (goodIn_app (goodIn_app ggX9_readOn_X9_endHouse_1 (goodIn_app ggX9_readOn_X9_endHouse_2 ggX9_readOn_X9_endHouse_3)) ggX9_readOn_X9_endHouse_4)
set_option maxRecDepth 20000 in
theorem gX9_readOn_X9_endHouse : GoodIn wsX9_readOn (wsV RX9 264 RX9 yX9_endHouse wsX9_endHouse) := goodIn_app (goodIn_of _ (by decide +kernel)) ggX9_readOn_X9_endHouse
set_option maxRecDepth 20000 in
theorem ggX9_readOn_X9_settle_1 : GoodIn wsX9_readOn ([.fieldLink RX9 151 "CensusDeskModel" "isRejected" "Z", .fieldLink RX9 292 "CensusDeskModel" "sheetsRejected" "I", .fieldLink RX9 144 "CensusDeskModel" "stops" "Z", .fieldLink RX9 120 "CensusDeskModel" "isHeld" "Z"] : List Cond) := goodIn_r _ [6, 73, 7, 1] (by decide +kernel) (by decide +kernel)
set_option maxRecDepth 20000 in
theorem ggX9_readOn_X9_settle_2 : GoodIn wsX9_readOn wsX90 := goodIn_r _ [178, 179, 180, 181, 182, 183, 184, 185, 186, 187, 188, 189, 190, 191, 192, 193, 194, 195, 196, 197, 198, 199, 200, 201, 202, 203, 204, 205, 206, 207, 208, 209, 210, 211, 212, 213, 214, 215, 216, 217, 218, 219, 220, 221, 222, 223, 224, 225, 226, 227, 228, 229, 230, 231, 232, 233, 234, 235, 236, 237, 238, 239, 240, 241, 242, 243, 244, 245, 246] (by decide +kernel) (by decide +kernel)
set_option maxRecDepth 20000 in
theorem ggX9_readOn_X9_settle_0 : GoodIn wsX9_readOn [.code yX9_settle cX9_settle 1 (some .int)] := goodIn_r _ [72] (by decide +kernel) (by decide +kernel)
theorem ggX9_readOn_X9_settle : GoodIn wsX9_readOn wsX9_settle := goodIn_k ggX9_readOn_X9_settle_0 (goodIn_app ggX9_readOn_X9_settle_1 ggX9_readOn_X9_settle_2)
set_option maxRecDepth 20000 in
theorem gX9_readOn_X9_settle : GoodIn wsX9_readOn (wsV RX9 267 RX9 yX9_settle wsX9_settle) := goodIn_app (goodIn_of _ (by decide +kernel)) ggX9_readOn_X9_settle
set_option maxRecDepth 20000 in
theorem ggX9_readOn_X9_book_1 : GoodIn wsX9_readOn wsX9_book_r1 := goodIn_r _ [78, 30, 79, 80, 81, 29, 82, 31, 83, 33, 84, 85, 86, 32, 87, 88, 89, 90, 91, 92, 93, 94, 95, 96] (by decide +kernel) (by decide +kernel)
set_option maxRecDepth 20000 in
theorem ggX9_readOn_X9_book_2 : GoodIn wsX9_readOn wsX9_book_r2 := goodIn_r _ [97, 27, 98, 99, 100, 101, 14, 102] (by decide +kernel) (by decide +kernel)
set_option maxRecDepth 20000 in
theorem ggX9_readOn_X9_book_3 : GoodIn wsX9_readOn wsX90 := goodIn_r _ [178, 179, 180, 181, 182, 183, 184, 185, 186, 187, 188, 189, 190, 191, 192, 193, 194, 195, 196, 197, 198, 199, 200, 201, 202, 203, 204, 205, 206, 207, 208, 209, 210, 211, 212, 213, 214, 215, 216, 217, 218, 219, 220, 221, 222, 223, 224, 225, 226, 227, 228, 229, 230, 231, 232, 233, 234, 235, 236, 237, 238, 239, 240, 241, 242, 243, 244, 245, 246] (by decide +kernel) (by decide +kernel)
set_option maxRecDepth 20000 in
theorem ggX9_readOn_X9_book_0 : GoodIn wsX9_readOn [.code yX9_book cX9_book 4 (some .int)] := goodIn_r _ [77] (by decide +kernel) (by decide +kernel)
theorem ggX9_readOn_X9_book : GoodIn wsX9_readOn wsX9_book := goodIn_k ggX9_readOn_X9_book_0 (goodIn_app (goodIn_app ggX9_readOn_X9_book_1 ggX9_readOn_X9_book_2) ggX9_readOn_X9_book_3)
set_option maxRecDepth 20000 in
theorem gX9_readOn_X9_book : GoodIn wsX9_readOn (wsV RX9 271 RX9 yX9_book wsX9_book) := goodIn_app (goodIn_of _ (by decide +kernel)) ggX9_readOn_X9_book
set_option maxRecDepth 20000 in
theorem ggX9_readOn_X9_readLine_1 : GoodIn wsX9_readOn wsX9_readLine_r1 := goodIn_r _ [107, 108, 109, 14, 110, 4, 9, 5, 23, 21, 22, 49, 111, 112, 113, 114, 25, 24, 115, 116, 117, 118, 119, 120] (by decide +kernel) (by decide +kernel)
set_option maxRecDepth 20000 in
theorem ggX9_readOn_X9_readLine_2 : GoodIn wsX9_readOn wsX9_readLine_r2 := goodIn_r _ [8, 121, 11, 12, 13, 15, 16, 122, 123, 124, 125, 38, 40, 41, 42, 43, 44, 45, 46, 47, 48, 50, 51, 52] (by decide +kernel) (by decide +kernel)
set_option maxRecDepth 20000 in
theorem ggX9_readOn_X9_readLine_3 : GoodIn wsX9_readOn wsX9_readLine_r3 := goodIn_r _ [53, 54, 55, 7, 56, 57, 58, 59, 60, 61, 62, 63, 64, 126, 127, 128, 129, 34, 35, 36, 37, 39, 65, 66] (by decide +kernel) (by decide +kernel)
set_option maxRecDepth 20000 in
theorem ggX9_readOn_X9_readLine_4 : GoodIn wsX9_readOn wsX9_readLine_r4 := goodIn_r _ [67, 68, 6, 130, 131, 132, 133, 134, 135, 136, 137, 138, 139, 140, 141, 142, 143, 144, 145, 146, 147, 148, 149, 150] (by decide +kernel) (by decide +kernel)
set_option maxRecDepth 20000 in
theorem ggX9_readOn_X9_readLine_5 : GoodIn wsX9_readOn wsX9_readLine_r5 := goodIn_r _ [151, 152, 153, 30, 154, 155, 156, 157, 97, 28, 158, 88, 90, 92, 27, 94, 159, 160, 161, 162, 163, 164, 165, 166] (by decide +kernel) (by decide +kernel)
set_option maxRecDepth 20000 in
theorem ggX9_readOn_X9_readLine_6 : GoodIn wsX9_readOn wsX9_readLine_r6 := goodIn_r _ [167, 168, 169, 170, 171, 172, 173, 174, 175, 176, 177] (by decide +kernel) (by decide +kernel)
set_option maxRecDepth 20000 in
theorem ggX9_readOn_X9_readLine_7 : GoodIn wsX9_readOn wsX90 := goodIn_r _ [178, 179, 180, 181, 182, 183, 184, 185, 186, 187, 188, 189, 190, 191, 192, 193, 194, 195, 196, 197, 198, 199, 200, 201, 202, 203, 204, 205, 206, 207, 208, 209, 210, 211, 212, 213, 214, 215, 216, 217, 218, 219, 220, 221, 222, 223, 224, 225, 226, 227, 228, 229, 230, 231, 232, 233, 234, 235, 236, 237, 238, 239, 240, 241, 242, 243, 244, 245, 246] (by decide +kernel) (by decide +kernel)
set_option maxRecDepth 20000 in
theorem ggX9_readOn_X9_readLine_0 : GoodIn wsX9_readOn [.code yX9_readLine cX9_readLine 2 none] := goodIn_r _ [106] (by decide +kernel) (by decide +kernel)
theorem ggX9_readOn_X9_readLine : GoodIn wsX9_readOn wsX9_readLine := goodIn_k ggX9_readOn_X9_readLine_0 (goodIn_app (goodIn_app ggX9_readOn_X9_readLine_1 (goodIn_app ggX9_readOn_X9_readLine_2 (goodIn_app ggX9_readOn_X9_readLine_3 (goodIn_app ggX9_readOn_X9_readLine_4 (goodIn_app ggX9_readOn_X9_readLine_5 ggX9_readOn_X9_readLine_6))))) ggX9_readOn_X9_readLine_7)
set_option maxRecDepth 20000 in
theorem gX9_readOn_X9_readLine : GoodIn wsX9_readOn (wsV RX9 277 RX9 yX9_readLine wsX9_readLine) := goodIn_app (goodIn_of _ (by decide +kernel)) ggX9_readOn_X9_readLine
theorem dX9_readOn_0 : decode cX9_readOn 0 = .ok (.aload_n 0, 1) := by decide +kernel
theorem dX9_readOn_1 : decode cX9_readOn 1 = .ok (.iconst 0, 1) := by decide +kernel
theorem dX9_readOn_2 : decode cX9_readOn 2 = .ok (.putfield 120, 3) := by decide +kernel
theorem dX9_readOn_5 : decode cX9_readOn 5 = .ok (.aload_n 0, 1) := by decide +kernel
theorem dX9_readOn_6 : decode cX9_readOn 6 = .ok (.getfield 261, 3) := by decide +kernel
theorem dX9_readOn_9 : decode cX9_readOn 9 = .ok (.aload_n 0, 1) := by decide +kernel
theorem dX9_readOn_10 : decode cX9_readOn 10 = .ok (.getfield 116, 3) := by decide +kernel
theorem dX9_readOn_13 : decode cX9_readOn 13 = .ok (.if_icmp .ge 29, 3) := by decide +kernel
theorem dX9_readOn_16 : decode cX9_readOn 16 = .ok (.aload_n 0, 1) := by decide +kernel
theorem dX9_readOn_17 : decode cX9_readOn 17 = .ok (.aload_n 0, 1) := by decide +kernel
theorem dX9_readOn_18 : decode cX9_readOn 18 = .ok (.getfield 261, 3) := by decide +kernel
theorem dX9_readOn_21 : decode cX9_readOn 21 = .ok (.invokevirtual 197, 3) := by decide +kernel
theorem dX9_readOn_24 : decode cX9_readOn 24 = .ok (.bipush 10, 2) := by decide +kernel
theorem dX9_readOn_26 : decode cX9_readOn 26 = .ok (.if_icmp .ne 16, 3) := by decide +kernel
theorem dX9_readOn_29 : decode cX9_readOn 29 = .ok (.aload_n 0, 1) := by decide +kernel
theorem dX9_readOn_30 : decode cX9_readOn 30 = .ok (.dup, 1) := by decide +kernel
theorem dX9_readOn_31 : decode cX9_readOn 31 = .ok (.getfield 261, 3) := by decide +kernel
theorem dX9_readOn_34 : decode cX9_readOn 34 = .ok (.iconst 1, 1) := by decide +kernel
theorem dX9_readOn_35 : decode cX9_readOn 35 = .ok (.iadd, 1) := by decide +kernel
theorem dX9_readOn_36 : decode cX9_readOn 36 = .ok (.putfield 261, 3) := by decide +kernel
theorem dX9_readOn_39 : decode cX9_readOn 39 = .ok (.goto (-34), 3) := by decide +kernel
theorem dX9_readOn_42 : decode cX9_readOn 42 = .ok (.aload_n 0, 1) := by decide +kernel
theorem dX9_readOn_43 : decode cX9_readOn 43 = .ok (.getfield 261, 3) := by decide +kernel
theorem dX9_readOn_46 : decode cX9_readOn 46 = .ok (.aload_n 0, 1) := by decide +kernel
theorem dX9_readOn_47 : decode cX9_readOn 47 = .ok (.getfield 116, 3) := by decide +kernel
theorem dX9_readOn_50 : decode cX9_readOn 50 = .ok (.if_icmp .ge 14, 3) := by decide +kernel
theorem dX9_readOn_53 : decode cX9_readOn 53 = .ok (.aload_n 0, 1) := by decide +kernel
theorem dX9_readOn_54 : decode cX9_readOn 54 = .ok (.aload_n 0, 1) := by decide +kernel
theorem dX9_readOn_55 : decode cX9_readOn 55 = .ok (.getfield 261, 3) := by decide +kernel
theorem dX9_readOn_58 : decode cX9_readOn 58 = .ok (.invokevirtual 197, 3) := by decide +kernel
theorem dX9_readOn_61 : decode cX9_readOn 61 = .ok (.goto 4, 3) := by decide +kernel
theorem dX9_readOn_64 : decode cX9_readOn 64 = .ok (.iconst (-1), 1) := by decide +kernel
theorem dX9_readOn_65 : decode cX9_readOn 65 = .ok (.istore_n 1, 1) := by decide +kernel
theorem dX9_readOn_66 : decode cX9_readOn 66 = .ok (.aload_n 0, 1) := by decide +kernel
theorem dX9_readOn_67 : decode cX9_readOn 67 = .ok (.getfield 141, 3) := by decide +kernel
theorem dX9_readOn_70 : decode cX9_readOn 70 = .ok (.ifCond .eq 50, 3) := by decide +kernel
theorem dX9_readOn_73 : decode cX9_readOn 73 = .ok (.iload_n 1, 1) := by decide +kernel
theorem dX9_readOn_74 : decode cX9_readOn 74 = .ok (.ifCond .lt 15, 3) := by decide +kernel
theorem dX9_readOn_77 : decode cX9_readOn 77 = .ok (.iload_n 1, 1) := by decide +kernel
theorem dX9_readOn_78 : decode cX9_readOn 78 = .ok (.bipush 72, 2) := by decide +kernel
theorem dX9_readOn_80 : decode cX9_readOn 80 = .ok (.if_icmp .eq 9, 3) := by decide +kernel
theorem dX9_readOn_83 : decode cX9_readOn 83 = .ok (.iload_n 1, 1) := by decide +kernel
theorem dX9_readOn_84 : decode cX9_readOn 84 = .ok (.bipush 83, 2) := by decide +kernel
theorem dX9_readOn_86 : decode cX9_readOn 86 = .ok (.if_icmp .ne 34, 3) := by decide +kernel
theorem dX9_readOn_89 : decode cX9_readOn 89 = .ok (.aload_n 0, 1) := by decide +kernel
theorem dX9_readOn_90 : decode cX9_readOn 90 = .ok (.aload_n 0, 1) := by decide +kernel
theorem dX9_readOn_91 : decode cX9_readOn 91 = .ok (.getfield 261, 3) := by decide +kernel
theorem dX9_readOn_94 : decode cX9_readOn 94 = .ok (.putfield 171, 3) := by decide +kernel
theorem dX9_readOn_97 : decode cX9_readOn 97 = .ok (.aload_n 0, 1) := by decide +kernel
theorem dX9_readOn_98 : decode cX9_readOn 98 = .ok (.invokevirtual 264, 3) := by decide +kernel
theorem dX9_readOn_101 : decode cX9_readOn 101 = .ok (.aload_n 0, 1) := by decide +kernel
theorem dX9_readOn_102 : decode cX9_readOn 102 = .ok (.getfield 151, 3) := by decide +kernel
theorem dX9_readOn_105 : decode cX9_readOn 105 = .ok (.ifCond .ne 10, 3) := by decide +kernel
theorem dX9_readOn_108 : decode cX9_readOn 108 = .ok (.aload_n 0, 1) := by decide +kernel
theorem dX9_readOn_109 : decode cX9_readOn 109 = .ok (.getfield 144, 3) := by decide +kernel
theorem dX9_readOn_112 : decode cX9_readOn 112 = .ok (.ifCond .eq 8, 3) := by decide +kernel
theorem dX9_readOn_115 : decode cX9_readOn 115 = .ok (.aload_n 0, 1) := by decide +kernel
theorem dX9_readOn_116 : decode cX9_readOn 116 = .ok (.invokevirtual 267, 3) := by decide +kernel
theorem dX9_readOn_119 : decode cX9_readOn 119 = .ok (.ireturn, 1) := by decide +kernel
theorem dX9_readOn_120 : decode cX9_readOn 120 = .ok (.iload_n 1, 1) := by decide +kernel
theorem dX9_readOn_121 : decode cX9_readOn 121 = .ok (.ifCond .ge 8, 3) := by decide +kernel
theorem dX9_readOn_124 : decode cX9_readOn 124 = .ok (.aload_n 0, 1) := by decide +kernel
theorem dX9_readOn_125 : decode cX9_readOn 125 = .ok (.invokevirtual 271, 3) := by decide +kernel
theorem dX9_readOn_128 : decode cX9_readOn 128 = .ok (.ireturn, 1) := by decide +kernel
theorem dX9_readOn_129 : decode cX9_readOn 129 = .ok (.aload_n 0, 1) := by decide +kernel
theorem dX9_readOn_130 : decode cX9_readOn 130 = .ok (.aload_n 0, 1) := by decide +kernel
theorem dX9_readOn_131 : decode cX9_readOn 131 = .ok (.getfield 261, 3) := by decide +kernel
theorem dX9_readOn_134 : decode cX9_readOn 134 = .ok (.putfield 171, 3) := by decide +kernel
theorem dX9_readOn_137 : decode cX9_readOn 137 = .ok (.aload_n 0, 1) := by decide +kernel
theorem dX9_readOn_138 : decode cX9_readOn 138 = .ok (.aload_n 0, 1) := by decide +kernel
theorem dX9_readOn_139 : decode cX9_readOn 139 = .ok (.getfield 261, 3) := by decide +kernel
theorem dX9_readOn_142 : decode cX9_readOn 142 = .ok (.putfield 194, 3) := by decide +kernel
theorem dX9_readOn_145 : decode cX9_readOn 145 = .ok (.aload_n 0, 1) := by decide +kernel
theorem dX9_readOn_146 : decode cX9_readOn 146 = .ok (.getfield 194, 3) := by decide +kernel
theorem dX9_readOn_149 : decode cX9_readOn 149 = .ok (.aload_n 0, 1) := by decide +kernel
theorem dX9_readOn_150 : decode cX9_readOn 150 = .ok (.getfield 116, 3) := by decide +kernel
theorem dX9_readOn_153 : decode cX9_readOn 153 = .ok (.if_icmp .ge 29, 3) := by decide +kernel
theorem dX9_readOn_156 : decode cX9_readOn 156 = .ok (.aload_n 0, 1) := by decide +kernel
theorem dX9_readOn_157 : decode cX9_readOn 157 = .ok (.aload_n 0, 1) := by decide +kernel
theorem dX9_readOn_158 : decode cX9_readOn 158 = .ok (.getfield 194, 3) := by decide +kernel
theorem dX9_readOn_161 : decode cX9_readOn 161 = .ok (.invokevirtual 197, 3) := by decide +kernel
theorem dX9_readOn_164 : decode cX9_readOn 164 = .ok (.bipush 10, 2) := by decide +kernel
theorem dX9_readOn_166 : decode cX9_readOn 166 = .ok (.if_icmp .eq 16, 3) := by decide +kernel
theorem dX9_readOn_169 : decode cX9_readOn 169 = .ok (.aload_n 0, 1) := by decide +kernel
theorem dX9_readOn_170 : decode cX9_readOn 170 = .ok (.dup, 1) := by decide +kernel
theorem dX9_readOn_171 : decode cX9_readOn 171 = .ok (.getfield 194, 3) := by decide +kernel
theorem dX9_readOn_174 : decode cX9_readOn 174 = .ok (.iconst 1, 1) := by decide +kernel
theorem dX9_readOn_175 : decode cX9_readOn 175 = .ok (.iadd, 1) := by decide +kernel
theorem dX9_readOn_176 : decode cX9_readOn 176 = .ok (.putfield 194, 3) := by decide +kernel
theorem dX9_readOn_179 : decode cX9_readOn 179 = .ok (.goto (-34), 3) := by decide +kernel
theorem dX9_readOn_182 : decode cX9_readOn 182 = .ok (.aload_n 0, 1) := by decide +kernel
theorem dX9_readOn_183 : decode cX9_readOn 183 = .ok (.aload_n 0, 1) := by decide +kernel
theorem dX9_readOn_184 : decode cX9_readOn 184 = .ok (.getfield 194, 3) := by decide +kernel
theorem dX9_readOn_187 : decode cX9_readOn 187 = .ok (.aload_n 0, 1) := by decide +kernel
theorem dX9_readOn_188 : decode cX9_readOn 188 = .ok (.getfield 116, 3) := by decide +kernel
theorem dX9_readOn_191 : decode cX9_readOn 191 = .ok (.if_icmp .ge 12, 3) := by decide +kernel
theorem dX9_readOn_194 : decode cX9_readOn 194 = .ok (.aload_n 0, 1) := by decide +kernel
theorem dX9_readOn_195 : decode cX9_readOn 195 = .ok (.getfield 194, 3) := by decide +kernel
theorem dX9_readOn_198 : decode cX9_readOn 198 = .ok (.iconst 1, 1) := by decide +kernel
theorem dX9_readOn_199 : decode cX9_readOn 199 = .ok (.iadd, 1) := by decide +kernel
theorem dX9_readOn_200 : decode cX9_readOn 200 = .ok (.goto 7, 3) := by decide +kernel
theorem dX9_readOn_203 : decode cX9_readOn 203 = .ok (.aload_n 0, 1) := by decide +kernel
theorem dX9_readOn_204 : decode cX9_readOn 204 = .ok (.getfield 194, 3) := by decide +kernel
theorem dX9_readOn_207 : decode cX9_readOn 207 = .ok (.putfield 261, 3) := by decide +kernel
theorem dX9_readOn_210 : decode cX9_readOn 210 = .ok (.aload_n 0, 1) := by decide +kernel
theorem dX9_readOn_211 : decode cX9_readOn 211 = .ok (.getfield 141, 3) := by decide +kernel
theorem dX9_readOn_214 : decode cX9_readOn 214 = .ok (.ifCond .eq 13, 3) := by decide +kernel
theorem dX9_readOn_217 : decode cX9_readOn 217 = .ok (.aload_n 0, 1) := by decide +kernel
theorem dX9_readOn_218 : decode cX9_readOn 218 = .ok (.getfield 158, 3) := by decide +kernel
theorem dX9_readOn_221 : decode cX9_readOn 221 = .ok (.ifCond .eq 6, 3) := by decide +kernel
theorem dX9_readOn_224 : decode cX9_readOn 224 = .ok (.goto (-219), 3) := by decide +kernel
theorem dX9_readOn_227 : decode cX9_readOn 227 = .ok (.aload_n 0, 1) := by decide +kernel
theorem dX9_readOn_228 : decode cX9_readOn 228 = .ok (.dup, 1) := by decide +kernel
theorem dX9_readOn_229 : decode cX9_readOn 229 = .ok (.getfield 274, 3) := by decide +kernel
theorem dX9_readOn_232 : decode cX9_readOn 232 = .ok (.iconst 1, 1) := by decide +kernel
theorem dX9_readOn_233 : decode cX9_readOn 233 = .ok (.iadd, 1) := by decide +kernel
theorem dX9_readOn_234 : decode cX9_readOn 234 = .ok (.putfield 274, 3) := by decide +kernel
theorem dX9_readOn_237 : decode cX9_readOn 237 = .ok (.aload_n 0, 1) := by decide +kernel
theorem dX9_readOn_238 : decode cX9_readOn 238 = .ok (.iload_n 1, 1) := by decide +kernel
theorem dX9_readOn_239 : decode cX9_readOn 239 = .ok (.invokevirtual 277, 3) := by decide +kernel
theorem dX9_readOn_242 : decode cX9_readOn 242 = .ok (.aload_n 0, 1) := by decide +kernel
theorem dX9_readOn_243 : decode cX9_readOn 243 = .ok (.getfield 151, 3) := by decide +kernel
theorem dX9_readOn_246 : decode cX9_readOn 246 = .ok (.ifCond .ne 17, 3) := by decide +kernel
theorem dX9_readOn_249 : decode cX9_readOn 249 = .ok (.aload_n 0, 1) := by decide +kernel
theorem dX9_readOn_250 : decode cX9_readOn 250 = .ok (.getfield 144, 3) := by decide +kernel
theorem dX9_readOn_253 : decode cX9_readOn 253 = .ok (.ifCond .eq 15, 3) := by decide +kernel
theorem dX9_readOn_256 : decode cX9_readOn 256 = .ok (.aload_n 0, 1) := by decide +kernel
theorem dX9_readOn_257 : decode cX9_readOn 257 = .ok (.getfield 141, 3) := by decide +kernel
theorem dX9_readOn_260 : decode cX9_readOn 260 = .ok (.ifCond .ne 8, 3) := by decide +kernel
theorem dX9_readOn_263 : decode cX9_readOn 263 = .ok (.aload_n 0, 1) := by decide +kernel
theorem dX9_readOn_264 : decode cX9_readOn 264 = .ok (.invokevirtual 267, 3) := by decide +kernel
theorem dX9_readOn_267 : decode cX9_readOn 267 = .ok (.ireturn, 1) := by decide +kernel
theorem dX9_readOn_268 : decode cX9_readOn 268 = .ok (.goto (-263), 3) := by decide +kernel
set_option maxRecDepth 20000 in
theorem ggX9_readLine_X9_beginHouse_1 : GoodIn wsX9_readLine ([.fieldLink RX9 141 "CensusDeskModel" "inHouse" "Z", .fieldLink RX9 158 "CensusDeskModel" "houseLost" "Z", .fieldLink RX9 171 "CensusDeskModel" "lineAt" "I", .fieldLink RX9 164 "CensusDeskModel" "houseAt" "I", .fieldLink RX9 252 "CensusDeskModel" "persons" "I", .fieldLink RX9 255 "CensusDeskModel" "firstPerson" "I", .fieldLink RX9 68 "CensusDeskModel" "firstIn" "[I"] : List Cond) := goodIn_r _ [6, 7, 8, 9, 10, 11, 12] (by decide +kernel) (by decide +kernel)
set_option maxRecDepth 20000 in
theorem ggX9_readLine_X9_beginHouse_2 : GoodIn wsX9_readLine wsX90 := goodIn_r _ [132, 133, 134, 135, 136, 137, 138, 139, 140, 141, 142, 143, 144, 145, 146, 147, 148, 149, 150, 151, 152, 153, 154, 155, 156, 157, 158, 159, 160, 161, 162, 163, 164, 165, 166, 167, 168, 169, 170, 171, 172, 173, 174, 175, 176, 177, 178, 179, 180, 181, 182, 183, 184, 185, 186, 187, 188, 189, 190, 191, 192, 193, 194, 195, 196, 197, 198, 199, 200] (by decide +kernel) (by decide +kernel)
set_option maxRecDepth 20000 in
theorem ggX9_readLine_X9_beginHouse_0 : GoodIn wsX9_readLine [.code yX9_beginHouse cX9_beginHouse 2 none] := goodIn_r _ [5] (by decide +kernel) (by decide +kernel)
theorem ggX9_readLine_X9_beginHouse : GoodIn wsX9_readLine wsX9_beginHouse := goodIn_k ggX9_readLine_X9_beginHouse_0 (goodIn_app ggX9_readLine_X9_beginHouse_1 ggX9_readLine_X9_beginHouse_2)
set_option maxRecDepth 20000 in
theorem gX9_readLine_X9_beginHouse : GoodIn wsX9_readLine (wsV RX9 280 RX9 yX9_beginHouse wsX9_beginHouse) := goodIn_app (goodIn_of _ (by decide +kernel)) ggX9_readLine_X9_beginHouse
set_option maxRecDepth 20000 in
theorem ggX9_readLine_X9_readHouse_1 : GoodIn wsX9_readLine wsX9_readHouse_r1 := goodIn_r _ [17, 18, 19, 20, 21, 22, 23, 4, 24, 25, 8, 6, 26, 27, 28, 29, 30, 31, 32, 33, 34, 35, 36, 37] (by decide +kernel) (by decide +kernel)
set_option maxRecDepth 20000 in
theorem ggX9_readLine_X9_readHouse_2 : GoodIn wsX9_readLine wsX9_readHouse_r2 := goodIn_r _ [38, 39, 40, 41, 42, 43, 44, 45, 12, 46, 47, 48, 49, 50, 51, 52, 53, 54, 55, 56, 57, 58, 59, 60] (by decide +kernel) (by decide +kernel)
set_option maxRecDepth 20000 in
theorem ggX9_readLine_X9_readHouse_3 : GoodIn wsX9_readLine wsX9_readHouse_r3 := goodIn_r _ [61, 62, 63, 64, 65, 66, 67, 68, 69, 7, 70, 9, 71, 72, 73, 74, 75, 76, 77, 78, 79, 80, 81, 82] (by decide +kernel) (by decide +kernel)
set_option maxRecDepth 20000 in
theorem ggX9_readLine_X9_readHouse_4 : GoodIn wsX9_readLine wsX9_readHouse_r4 := goodIn_r _ [83, 84, 85, 86, 87, 88, 89, 90, 91, 92, 93, 94, 95] (by decide +kernel) (by decide +kernel)
set_option maxRecDepth 20000 in
theorem ggX9_readLine_X9_readHouse_5 : GoodIn wsX9_readLine wsX90 := goodIn_r _ [132, 133, 134, 135, 136, 137, 138, 139, 140, 141, 142, 143, 144, 145, 146, 147, 148, 149, 150, 151, 152, 153, 154, 155, 156, 157, 158, 159, 160, 161, 162, 163, 164, 165, 166, 167, 168, 169, 170, 171, 172, 173, 174, 175, 176, 177, 178, 179, 180, 181, 182, 183, 184, 185, 186, 187, 188, 189, 190, 191, 192, 193, 194, 195, 196, 197, 198, 199, 200] (by decide +kernel) (by decide +kernel)
set_option maxRecDepth 20000 in
theorem ggX9_readLine_X9_readHouse_0 : GoodIn wsX9_readLine [.code yX9_readHouse cX9_readHouse 2 none] := goodIn_r _ [16] (by decide +kernel) (by decide +kernel)
theorem ggX9_readLine_X9_readHouse : GoodIn wsX9_readLine wsX9_readHouse := goodIn_k ggX9_readLine_X9_readHouse_0 (goodIn_app (goodIn_app ggX9_readLine_X9_readHouse_1 (goodIn_app ggX9_readLine_X9_readHouse_2 (goodIn_app ggX9_readLine_X9_readHouse_3 ggX9_readLine_X9_readHouse_4))) ggX9_readLine_X9_readHouse_5)
set_option maxRecDepth 20000 in
theorem gX9_readLine_X9_readHouse : GoodIn wsX9_readLine (wsV RX9 283 RX9 yX9_readHouse wsX9_readHouse) := goodIn_app (goodIn_of _ (by decide +kernel)) ggX9_readLine_X9_readHouse
set_option maxRecDepth 20000 in
theorem ggX9_readLine_X9_readSums_1 : GoodIn wsX9_readLine wsX9_readSums_r1 := goodIn_r _ [20, 19, 100, 8, 21, 22, 23, 4, 24, 25, 6, 26, 27, 28, 29, 30, 31, 32, 33, 34, 35, 36, 37, 38] (by decide +kernel) (by decide +kernel)
set_option maxRecDepth 20000 in
theorem ggX9_readLine_X9_readSums_2 : GoodIn wsX9_readLine wsX9_readSums_r2 := goodIn_r _ [39, 40, 41, 42, 43, 44, 45, 12, 46, 47, 48, 49, 50, 51, 52, 53, 54, 55, 56, 57, 58, 59, 60, 61] (by decide +kernel) (by decide +kernel)
set_option maxRecDepth 20000 in
theorem ggX9_readLine_X9_readSums_3 : GoodIn wsX9_readLine wsX9_readSums_r3 := goodIn_r _ [62, 63, 64, 65, 66, 67, 68, 69, 7, 70, 9, 71, 72, 73, 74, 75, 76, 77, 78, 79, 80, 81, 82, 83] (by decide +kernel) (by decide +kernel)
set_option maxRecDepth 20000 in
theorem ggX9_readLine_X9_readSums_4 : GoodIn wsX9_readLine wsX9_readSums_r4 := goodIn_r _ [84, 85, 86, 87, 88, 89, 90, 91, 92, 93, 94, 95] (by decide +kernel) (by decide +kernel)
set_option maxRecDepth 20000 in
theorem ggX9_readLine_X9_readSums_5 : GoodIn wsX9_readLine wsX90 := goodIn_r _ [132, 133, 134, 135, 136, 137, 138, 139, 140, 141, 142, 143, 144, 145, 146, 147, 148, 149, 150, 151, 152, 153, 154, 155, 156, 157, 158, 159, 160, 161, 162, 163, 164, 165, 166, 167, 168, 169, 170, 171, 172, 173, 174, 175, 176, 177, 178, 179, 180, 181, 182, 183, 184, 185, 186, 187, 188, 189, 190, 191, 192, 193, 194, 195, 196, 197, 198, 199, 200] (by decide +kernel) (by decide +kernel)
set_option maxRecDepth 20000 in
theorem ggX9_readLine_X9_readSums_0 : GoodIn wsX9_readLine [.code yX9_readSums cX9_readSums 1 none] := goodIn_r _ [99] (by decide +kernel) (by decide +kernel)
theorem ggX9_readLine_X9_readSums : GoodIn wsX9_readLine wsX9_readSums := goodIn_k ggX9_readLine_X9_readSums_0 (goodIn_app (goodIn_app ggX9_readLine_X9_readSums_1 (goodIn_app ggX9_readLine_X9_readSums_2 (goodIn_app ggX9_readLine_X9_readSums_3 ggX9_readLine_X9_readSums_4))) ggX9_readLine_X9_readSums_5)
set_option maxRecDepth 20000 in
theorem gX9_readLine_X9_readSums : GoodIn wsX9_readLine (wsV RX9 286 RX9 yX9_readSums wsX9_readSums) := goodIn_app (goodIn_of _ (by decide +kernel)) ggX9_readLine_X9_readSums
set_option maxRecDepth 20000 in
theorem ggX9_readLine_X9_readPerson_1 : GoodIn wsX9_readLine wsX9_readPerson_r1 := goodIn_r _ [20, 81, 105, 106, 82, 107, 19, 8, 36, 108, 10, 109, 110, 111, 112, 21, 22, 23, 4, 24, 25, 6, 26, 27] (by decide +kernel) (by decide +kernel)
set_option maxRecDepth 20000 in
theorem ggX9_readLine_X9_readPerson_2 : GoodIn wsX9_readLine wsX9_readPerson_r2 := goodIn_r _ [28, 29, 30, 31, 32, 33, 34, 35, 37, 38, 39, 40, 41, 42, 43, 44, 45, 12, 46, 47, 48, 49, 50, 51] (by decide +kernel) (by decide +kernel)
set_option maxRecDepth 20000 in
theorem ggX9_readLine_X9_readPerson_3 : GoodIn wsX9_readLine wsX9_readPerson_r3 := goodIn_r _ [52, 53, 54, 55, 56, 57, 58, 59, 60, 61, 62, 63, 64, 65, 66, 67, 68, 69, 7, 70, 9, 71, 72, 73] (by decide +kernel) (by decide +kernel)
set_option maxRecDepth 20000 in
theorem ggX9_readLine_X9_readPerson_4 : GoodIn wsX9_readLine wsX9_readPerson_r4 := goodIn_r _ [74, 75, 113, 114, 115, 116, 80, 83, 88, 84, 85, 86, 87, 89, 90, 91, 92, 117, 118, 119, 120, 121, 122, 123] (by decide +kernel) (by decide +kernel)
set_option maxRecDepth 20000 in
theorem ggX9_readLine_X9_readPerson_5 : GoodIn wsX9_readLine wsX9_readPerson_r5 := goodIn_r _ [76, 77, 78, 79, 93, 94, 95, 124, 125, 126, 127, 128, 129, 130, 131, 11] (by decide +kernel) (by decide +kernel)
set_option maxRecDepth 20000 in
theorem ggX9_readLine_X9_readPerson_6 : GoodIn wsX9_readLine wsX90 := goodIn_r _ [132, 133, 134, 135, 136, 137, 138, 139, 140, 141, 142, 143, 144, 145, 146, 147, 148, 149, 150, 151, 152, 153, 154, 155, 156, 157, 158, 159, 160, 161, 162, 163, 164, 165, 166, 167, 168, 169, 170, 171, 172, 173, 174, 175, 176, 177, 178, 179, 180, 181, 182, 183, 184, 185, 186, 187, 188, 189, 190, 191, 192, 193, 194, 195, 196, 197, 198, 199, 200] (by decide +kernel) (by decide +kernel)
set_option maxRecDepth 20000 in
theorem ggX9_readLine_X9_readPerson_0 : GoodIn wsX9_readLine [.code yX9_readPerson cX9_readPerson 5 none] := goodIn_r _ [104] (by decide +kernel) (by decide +kernel)
theorem ggX9_readLine_X9_readPerson : GoodIn wsX9_readLine wsX9_readPerson := goodIn_k ggX9_readLine_X9_readPerson_0 (goodIn_app (goodIn_app ggX9_readLine_X9_readPerson_1 (goodIn_app ggX9_readLine_X9_readPerson_2 (goodIn_app ggX9_readLine_X9_readPerson_3 (goodIn_app ggX9_readLine_X9_readPerson_4 ggX9_readLine_X9_readPerson_5)))) ggX9_readLine_X9_readPerson_6)
set_option maxRecDepth 20000 in
theorem gX9_readLine_X9_readPerson : GoodIn wsX9_readLine (wsV RX9 289 RX9 yX9_readPerson wsX9_readPerson) := goodIn_app (goodIn_of _ (by decide +kernel)) ggX9_readLine_X9_readPerson
