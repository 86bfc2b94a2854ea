theorem dX9_readLine_0 : decode cX9_readLine 0 = .ok (.iload_n 1, 1) := by decide +kernel
theorem dX9_readLine_1 : decode cX9_readLine 1 = .ok (.bipush 72, 2) := by decide +kernel
theorem dX9_readLine_3 : decode cX9_readLine 3 = .ok (.if_icmp .ne 14, 3) := by decide +kernel
theorem dX9_readLine_6 : decode cX9_readLine 6 = .ok (.aload_n 0, 1) := by decide +kernel
theorem dX9_readLine_7 : decode cX9_readLine 7 = .ok (.invokevirtual 280, 3) := by decide +kernel
theorem dX9_readLine_10 : decode cX9_readLine 10 = .ok (.aload_n 0, 1) := by decide +kernel
theorem dX9_readLine_11 : decode cX9_readLine 11 = .ok (.invokevirtual 283, 3) := by decide +kernel
theorem dX9_readLine_14 : decode cX9_readLine 14 = .ok (.goto 21, 3) := by decide +kernel
theorem dX9_readLine_17 : decode cX9_readLine 17 = .ok (.iload_n 1, 1) := by decide +kernel
theorem dX9_readLine_18 : decode cX9_readLine 18 = .ok (.bipush 83, 2) := by decide +kernel
theorem dX9_readLine_20 : decode cX9_readLine 20 = .ok (.if_icmp .ne 10, 3) := by decide +kernel
theorem dX9_readLine_23 : decode cX9_readLine 23 = .ok (.aload_n 0, 1) := by decide +kernel
theorem dX9_readLine_24 : decode cX9_readLine 24 = .ok (.invokevirtual 286, 3) := by decide +kernel
theorem dX9_readLine_27 : decode cX9_readLine 27 = .ok (.goto 8, 3) := by decide +kernel
theorem dX9_readLine_30 : decode cX9_readLine 30 = .ok (.aload_n 0, 1) := by decide +kernel
theorem dX9_readLine_31 : decode cX9_readLine 31 = .ok (.iload_n 1, 1) := by decide +kernel
theorem dX9_readLine_32 : decode cX9_readLine 32 = .ok (.invokevirtual 289, 3) := by decide +kernel
theorem dX9_readLine_35 : decode cX9_readLine 35 = .ok (.return_, 1) := by decide +kernel
theorem dX9_settle_0 : decode cX9_settle 0 = .ok (.aload_n 0, 1) := by decide +kernel
theorem dX9_settle_1 : decode cX9_settle 1 = .ok (.getfield 151, 3) := by decide +kernel
theorem dX9_settle_4 : decode cX9_settle 4 = .ok (.ifCond .eq 15, 3) := by decide +kernel
theorem dX9_settle_7 : decode cX9_settle 7 = .ok (.aload_n 0, 1) := by decide +kernel
theorem dX9_settle_8 : decode cX9_settle 8 = .ok (.dup, 1) := by decide +kernel
theorem dX9_settle_9 : decode cX9_settle 9 = .ok (.getfield 292, 3) := by decide +kernel
theorem dX9_settle_12 : decode cX9_settle 12 = .ok (.iconst 1, 1) := by decide +kernel
theorem dX9_settle_13 : decode cX9_settle 13 = .ok (.iadd, 1) := by decide +kernel
theorem dX9_settle_14 : decode cX9_settle 14 = .ok (.putfield 292, 3) := by decide +kernel
theorem dX9_settle_17 : decode cX9_settle 17 = .ok (.iconst 1, 1) := by decide +kernel
theorem dX9_settle_18 : decode cX9_settle 18 = .ok (.ireturn, 1) := by decide +kernel
theorem dX9_settle_19 : decode cX9_settle 19 = .ok (.aload_n 0, 1) := by decide +kernel
theorem dX9_settle_20 : decode cX9_settle 20 = .ok (.iconst 0, 1) := by decide +kernel
theorem dX9_settle_21 : decode cX9_settle 21 = .ok (.putfield 144, 3) := by decide +kernel
theorem dX9_settle_24 : decode cX9_settle 24 = .ok (.aload_n 0, 1) := by decide +kernel
theorem dX9_settle_25 : decode cX9_settle 25 = .ok (.iconst 1, 1) := by decide +kernel
theorem dX9_settle_26 : decode cX9_settle 26 = .ok (.putfield 120, 3) := by decide +kernel
theorem dX9_settle_29 : decode cX9_settle 29 = .ok (.iconst 2, 1) := by decide +kernel
theorem dX9_settle_30 : decode cX9_settle 30 = .ok (.ireturn, 1) := by decide +kernel
theorem dX9_takenPersons_0 : decode cX9_takenPersons 0 = .ok (.iconst 0, 1) := by decide +kernel
theorem dX9_takenPersons_1 : decode cX9_takenPersons 1 = .ok (.istore_n 1, 1) := by decide +kernel
theorem dX9_takenPersons_2 : decode cX9_takenPersons 2 = .ok (.iconst 0, 1) := by decide +kernel
theorem dX9_takenPersons_3 : decode cX9_takenPersons 3 = .ok (.istore_n 2, 1) := by decide +kernel
theorem dX9_takenPersons_4 : decode cX9_takenPersons 4 = .ok (.iload_n 2, 1) := by decide +kernel
theorem dX9_takenPersons_5 : decode cX9_takenPersons 5 = .ok (.aload_n 0, 1) := by decide +kernel
theorem dX9_takenPersons_6 : decode cX9_takenPersons 6 = .ok (.getfield 234, 3) := by decide +kernel
theorem dX9_takenPersons_9 : decode cX9_takenPersons 9 = .ok (.if_icmp .ge 18, 3) := by decide +kernel
theorem dX9_takenPersons_12 : decode cX9_takenPersons 12 = .ok (.iload_n 1, 1) := by decide +kernel
theorem dX9_takenPersons_13 : decode cX9_takenPersons 13 = .ok (.aload_n 0, 1) := by decide +kernel
theorem dX9_takenPersons_14 : decode cX9_takenPersons 14 = .ok (.getfield 29, 3) := by decide +kernel
theorem dX9_takenPersons_17 : decode cX9_takenPersons 17 = .ok (.iload_n 2, 1) := by decide +kernel
theorem dX9_takenPersons_18 : decode cX9_takenPersons 18 = .ok (.iaload, 1) := by decide +kernel
theorem dX9_takenPersons_19 : decode cX9_takenPersons 19 = .ok (.iadd, 1) := by decide +kernel
theorem dX9_takenPersons_20 : decode cX9_takenPersons 20 = .ok (.istore_n 1, 1) := by decide +kernel
theorem dX9_takenPersons_21 : decode cX9_takenPersons 21 = .ok (.iinc 2 1, 3) := by decide +kernel
theorem dX9_takenPersons_24 : decode cX9_takenPersons 24 = .ok (.goto (-20), 3) := by decide +kernel
theorem dX9_takenPersons_27 : decode cX9_takenPersons 27 = .ok (.iload_n 1, 1) := by decide +kernel
theorem dX9_takenPersons_28 : decode cX9_takenPersons 28 = .ok (.ireturn, 1) := by decide +kernel
set_option maxRecDepth 20000 in
theorem ggX9_book_X9_takenPersons_1 : GoodIn wsX9_book ([.fieldLink RX9 234 "CensusDeskModel" "houses" "I", .fieldLink RX9 29 "CensusDeskModel" "houseMany" "[I"] : List Cond) := goodIn_r _ [2, 10] (by decide +kernel) (by decide +kernel)
set_option maxRecDepth 20000 in
theorem ggX9_book_X9_takenPersons_2 : GoodIn wsX9_book wsX90 := goodIn_r _ [33, 34, 35, 36, 37, 38, 39, 40, 41, 42, 43, 44, 45, 46, 47, 48, 49, 50, 51, 52, 53, 54, 55, 56, 57, 58, 59, 60, 61, 62, 63, 64, 65, 66, 67, 68, 69, 70, 71, 72, 73, 74, 75, 76, 77, 78, 79, 80, 81, 82, 83, 84, 85, 86, 87, 88, 89, 90, 91, 92, 93, 94, 95, 96, 97, 98, 99, 100, 101] (by decide +kernel) (by decide +kernel)
set_option maxRecDepth 20000 in
theorem ggX9_book_X9_takenPersons_0 : GoodIn wsX9_book [.code yX9_takenPersons cX9_takenPersons 3 (some .int)] := goodIn_r _ [32] (by decide +kernel) (by decide +kernel)
theorem ggX9_book_X9_takenPersons : GoodIn wsX9_book wsX9_takenPersons := goodIn_k ggX9_book_X9_takenPersons_0 (goodIn_app ggX9_book_X9_takenPersons_1 ggX9_book_X9_takenPersons_2)
set_option maxRecDepth 20000 in
theorem gX9_book_X9_takenPersons : GoodIn wsX9_book (wsV RX9 301 RX9 yX9_takenPersons wsX9_takenPersons) := goodIn_app (goodIn_of _ (by decide +kernel)) ggX9_book_X9_takenPersons
theorem dX9_book_0 : decode cX9_book 0 = .ok (.aload_n 0, 1) := by decide +kernel
theorem dX9_book_1 : decode cX9_book 1 = .ok (.getfield 295, 3) := by decide +kernel
theorem dX9_book_4 : decode cX9_book 4 = .ok (.aload_n 0, 1) := by decide +kernel
theorem dX9_book_5 : decode cX9_book 5 = .ok (.getfield 234, 3) := by decide +kernel
theorem dX9_book_8 : decode cX9_book 8 = .ok (.iadd, 1) := by decide +kernel
theorem dX9_book_9 : decode cX9_book 9 = .ok (.bipush 60, 2) := by decide +kernel
theorem dX9_book_11 : decode cX9_book 11 = .ok (.if_icmp .gt 18, 3) := by decide +kernel
theorem dX9_book_14 : decode cX9_book 14 = .ok (.aload_n 0, 1) := by decide +kernel
theorem dX9_book_15 : decode cX9_book 15 = .ok (.getfield 298, 3) := by decide +kernel
theorem dX9_book_18 : decode cX9_book 18 = .ok (.aload_n 0, 1) := by decide +kernel
theorem dX9_book_19 : decode cX9_book 19 = .ok (.invokevirtual 301, 3) := by decide +kernel
theorem dX9_book_22 : decode cX9_book 22 = .ok (.iadd, 1) := by decide +kernel
theorem dX9_book_23 : decode cX9_book 23 = .ok (.sipush 300, 3) := by decide +kernel
theorem dX9_book_26 : decode cX9_book 26 = .ok (.if_icmp .le 15, 3) := by decide +kernel
theorem dX9_book_29 : decode cX9_book 29 = .ok (.aload_n 0, 1) := by decide +kernel
theorem dX9_book_30 : decode cX9_book 30 = .ok (.dup, 1) := by decide +kernel
theorem dX9_book_31 : decode cX9_book 31 = .ok (.getfield 304, 3) := by decide +kernel
theorem dX9_book_34 : decode cX9_book 34 = .ok (.iconst 1, 1) := by decide +kernel
theorem dX9_book_35 : decode cX9_book 35 = .ok (.iadd, 1) := by decide +kernel
theorem dX9_book_36 : decode cX9_book 36 = .ok (.putfield 304, 3) := by decide +kernel
theorem dX9_book_39 : decode cX9_book 39 = .ok (.iconst 3, 1) := by decide +kernel
theorem dX9_book_40 : decode cX9_book 40 = .ok (.ireturn, 1) := by decide +kernel
theorem dX9_book_41 : decode cX9_book 41 = .ok (.iconst 0, 1) := by decide +kernel
theorem dX9_book_42 : decode cX9_book 42 = .ok (.istore_n 1, 1) := by decide +kernel
theorem dX9_book_43 : decode cX9_book 43 = .ok (.iload_n 1, 1) := by decide +kernel
theorem dX9_book_44 : decode cX9_book 44 = .ok (.aload_n 0, 1) := by decide +kernel
theorem dX9_book_45 : decode cX9_book 45 = .ok (.getfield 234, 3) := by decide +kernel
theorem dX9_book_48 : decode cX9_book 48 = .ok (.if_icmp .ge 250, 3) := by decide +kernel
theorem dX9_book_51 : decode cX9_book 51 = .ok (.aload_n 0, 1) := by decide +kernel
theorem dX9_book_52 : decode cX9_book 52 = .ok (.getfield 83, 3) := by decide +kernel
theorem dX9_book_55 : decode cX9_book 55 = .ok (.aload_n 0, 1) := by decide +kernel
theorem dX9_book_56 : decode cX9_book 56 = .ok (.getfield 295, 3) := by decide +kernel
theorem dX9_book_59 : decode cX9_book 59 = .ok (.aload_n 0, 1) := by decide +kernel
theorem dX9_book_60 : decode cX9_book 60 = .ok (.getfield 20, 3) := by decide +kernel
theorem dX9_book_63 : decode cX9_book 63 = .ok (.iload_n 1, 1) := by decide +kernel
theorem dX9_book_64 : decode cX9_book 64 = .ok (.iaload, 1) := by decide +kernel
theorem dX9_book_65 : decode cX9_book 65 = .ok (.iastore, 1) := by decide +kernel
theorem dX9_book_66 : decode cX9_book 66 = .ok (.aload_n 0, 1) := by decide +kernel
theorem dX9_book_67 : decode cX9_book 67 = .ok (.getfield 86, 3) := by decide +kernel
theorem dX9_book_70 : decode cX9_book 70 = .ok (.aload_n 0, 1) := by decide +kernel
theorem dX9_book_71 : decode cX9_book 71 = .ok (.getfield 295, 3) := by decide +kernel
theorem dX9_book_74 : decode cX9_book 74 = .ok (.aload_n 0, 1) := by decide +kernel
theorem dX9_book_75 : decode cX9_book 75 = .ok (.getfield 23, 3) := by decide +kernel
theorem dX9_book_78 : decode cX9_book 78 = .ok (.iload_n 1, 1) := by decide +kernel
theorem dX9_book_79 : decode cX9_book 79 = .ok (.iaload, 1) := by decide +kernel
theorem dX9_book_80 : decode cX9_book 80 = .ok (.iastore, 1) := by decide +kernel
theorem dX9_book_81 : decode cX9_book 81 = .ok (.aload_n 0, 1) := by decide +kernel
theorem dX9_book_82 : decode cX9_book 82 = .ok (.getfield 89, 3) := by decide +kernel
theorem dX9_book_85 : decode cX9_book 85 = .ok (.aload_n 0, 1) := by decide +kernel
theorem dX9_book_86 : decode cX9_book 86 = .ok (.getfield 295, 3) := by decide +kernel
theorem dX9_book_89 : decode cX9_book 89 = .ok (.aload_n 0, 1) := by decide +kernel
theorem dX9_book_90 : decode cX9_book 90 = .ok (.getfield 29, 3) := by decide +kernel
theorem dX9_book_93 : decode cX9_book 93 = .ok (.iload_n 1, 1) := by decide +kernel
theorem dX9_book_94 : decode cX9_book 94 = .ok (.iaload, 1) := by decide +kernel
theorem dX9_book_95 : decode cX9_book 95 = .ok (.iastore, 1) := by decide +kernel
theorem dX9_book_96 : decode cX9_book 96 = .ok (.aload_n 0, 1) := by decide +kernel
theorem dX9_book_97 : decode cX9_book 97 = .ok (.getfield 92, 3) := by decide +kernel
theorem dX9_book_100 : decode cX9_book 100 = .ok (.aload_n 0, 1) := by decide +kernel
theorem dX9_book_101 : decode cX9_book 101 = .ok (.getfield 295, 3) := by decide +kernel
theorem dX9_book_104 : decode cX9_book 104 = .ok (.aload_n 0, 1) := by decide +kernel
theorem dX9_book_105 : decode cX9_book 105 = .ok (.getfield 298, 3) := by decide +kernel
theorem dX9_book_108 : decode cX9_book 108 = .ok (.iastore, 1) := by decide +kernel
theorem dX9_book_109 : decode cX9_book 109 = .ok (.aload_n 0, 1) := by decide +kernel
theorem dX9_book_110 : decode cX9_book 110 = .ok (.getfield 95, 3) := by decide +kernel
theorem dX9_book_113 : decode cX9_book 113 = .ok (.aload_n 0, 1) := by decide +kernel
theorem dX9_book_114 : decode cX9_book 114 = .ok (.getfield 295, 3) := by decide +kernel
theorem dX9_book_117 : decode cX9_book 117 = .ok (.aload_n 0, 1) := by decide +kernel
theorem dX9_book_118 : decode cX9_book 118 = .ok (.getfield 307, 3) := by decide +kernel
theorem dX9_book_121 : decode cX9_book 121 = .ok (.iconst 1, 1) := by decide +kernel
theorem dX9_book_122 : decode cX9_book 122 = .ok (.isub, 1) := by decide +kernel
theorem dX9_book_123 : decode cX9_book 123 = .ok (.iastore, 1) := by decide +kernel
theorem dX9_book_124 : decode cX9_book 124 = .ok (.aload_n 0, 1) := by decide +kernel
theorem dX9_book_125 : decode cX9_book 125 = .ok (.getfield 26, 3) := by decide +kernel
theorem dX9_book_128 : decode cX9_book 128 = .ok (.iload_n 1, 1) := by decide +kernel
theorem dX9_book_129 : decode cX9_book 129 = .ok (.iaload, 1) := by decide +kernel
theorem dX9_book_130 : decode cX9_book 130 = .ok (.istore_n 2, 1) := by decide +kernel
theorem dX9_book_131 : decode cX9_book 131 = .ok (.iload_n 2, 1) := by decide +kernel
theorem dX9_book_132 : decode cX9_book 132 = .ok (.aload_n 0, 1) := by decide +kernel
theorem dX9_book_133 : decode cX9_book 133 = .ok (.getfield 26, 3) := by decide +kernel
theorem dX9_book_136 : decode cX9_book 136 = .ok (.iload_n 1, 1) := by decide +kernel
theorem dX9_book_137 : decode cX9_book 137 = .ok (.iaload, 1) := by decide +kernel
theorem dX9_book_138 : decode cX9_book 138 = .ok (.aload_n 0, 1) := by decide +kernel
theorem dX9_book_139 : decode cX9_book 139 = .ok (.getfield 29, 3) := by decide +kernel
theorem dX9_book_142 : decode cX9_book 142 = .ok (.iload_n 1, 1) := by decide +kernel
theorem dX9_book_143 : decode cX9_book 143 = .ok (.iaload, 1) := by decide +kernel
theorem dX9_book_144 : decode cX9_book 144 = .ok (.iadd, 1) := by decide +kernel
theorem dX9_book_145 : decode cX9_book 145 = .ok (.if_icmp .ge 137, 3) := by decide +kernel
theorem dX9_book_148 : decode cX9_book 148 = .ok (.aload_n 0, 1) := by decide +kernel
theorem dX9_book_149 : decode cX9_book 149 = .ok (.getfield 98, 3) := by decide +kernel
theorem dX9_book_152 : decode cX9_book 152 = .ok (.aload_n 0, 1) := by decide +kernel
theorem dX9_book_153 : decode cX9_book 153 = .ok (.getfield 298, 3) := by decide +kernel
theorem dX9_book_156 : decode cX9_book 156 = .ok (.aload_n 0, 1) := by decide +kernel
theorem dX9_book_157 : decode cX9_book 157 = .ok (.getfield 32, 3) := by decide +kernel
theorem dX9_book_160 : decode cX9_book 160 = .ok (.iload_n 2, 1) := by decide +kernel
theorem dX9_book_161 : decode cX9_book 161 = .ok (.iaload, 1) := by decide +kernel
theorem dX9_book_162 : decode cX9_book 162 = .ok (.iastore, 1) := by decide +kernel
theorem dX9_book_163 : decode cX9_book 163 = .ok (.aload_n 0, 1) := by decide +kernel
theorem dX9_book_164 : decode cX9_book 164 = .ok (.getfield 101, 3) := by decide +kernel
theorem dX9_book_167 : decode cX9_book 167 = .ok (.aload_n 0, 1) := by decide +kernel
theorem dX9_book_168 : decode cX9_book 168 = .ok (.getfield 298, 3) := by decide +kernel
theorem dX9_book_171 : decode cX9_book 171 = .ok (.aload_n 0, 1) := by decide +kernel
theorem dX9_book_172 : decode cX9_book 172 = .ok (.getfield 35, 3) := by decide +kernel
theorem dX9_book_175 : decode cX9_book 175 = .ok (.iload_n 2, 1) := by decide +kernel
theorem dX9_book_176 : decode cX9_book 176 = .ok (.iaload, 1) := by decide +kernel
theorem dX9_book_177 : decode cX9_book 177 = .ok (.iastore, 1) := by decide +kernel
theorem dX9_book_178 : decode cX9_book 178 = .ok (.aload_n 0, 1) := by decide +kernel
theorem dX9_book_179 : decode cX9_book 179 = .ok (.getfield 104, 3) := by decide +kernel
theorem dX9_book_182 : decode cX9_book 182 = .ok (.aload_n 0, 1) := by decide +kernel
theorem dX9_book_183 : decode cX9_book 183 = .ok (.getfield 298, 3) := by decide +kernel
theorem dX9_book_186 : decode cX9_book 186 = .ok (.aload_n 0, 1) := by decide +kernel
theorem dX9_book_187 : decode cX9_book 187 = .ok (.getfield 38, 3) := by decide +kernel
theorem dX9_book_190 : decode cX9_book 190 = .ok (.iload_n 2, 1) := by decide +kernel
theorem dX9_book_191 : decode cX9_book 191 = .ok (.iaload, 1) := by decide +kernel
theorem dX9_book_192 : decode cX9_book 192 = .ok (.iastore, 1) := by decide +kernel
theorem dX9_book_193 : decode cX9_book 193 = .ok (.aload_n 0, 1) := by decide +kernel
theorem dX9_book_194 : decode cX9_book 194 = .ok (.getfield 107, 3) := by decide +kernel
theorem dX9_book_197 : decode cX9_book 197 = .ok (.aload_n 0, 1) := by decide +kernel
theorem dX9_book_198 : decode cX9_book 198 = .ok (.getfield 298, 3) := by decide +kernel
theorem dX9_book_201 : decode cX9_book 201 = .ok (.aload_n 0, 1) := by decide +kernel
theorem dX9_book_202 : decode cX9_book 202 = .ok (.getfield 44, 3) := by decide +kernel
theorem dX9_book_205 : decode cX9_book 205 = .ok (.iload_n 2, 1) := by decide +kernel
theorem dX9_book_206 : decode cX9_book 206 = .ok (.iaload, 1) := by decide +kernel
theorem dX9_book_207 : decode cX9_book 207 = .ok (.iastore, 1) := by decide +kernel
theorem dX9_book_208 : decode cX9_book 208 = .ok (.aload_n 0, 1) := by decide +kernel
theorem dX9_book_209 : decode cX9_book 209 = .ok (.getfield 110, 3) := by decide +kernel
theorem dX9_book_212 : decode cX9_book 212 = .ok (.aload_n 0, 1) := by decide +kernel
theorem dX9_book_213 : decode cX9_book 213 = .ok (.getfield 298, 3) := by decide +kernel
theorem dX9_book_216 : decode cX9_book 216 = .ok (.aload_n 0, 1) := by decide +kernel
theorem dX9_book_217 : decode cX9_book 217 = .ok (.getfield 295, 3) := by decide +kernel
theorem dX9_book_220 : decode cX9_book 220 = .ok (.iastore, 1) := by decide +kernel
theorem dX9_book_221 : decode cX9_book 221 = .ok (.iconst 0, 1) := by decide +kernel
theorem dX9_book_222 : decode cX9_book 222 = .ok (.istore_n 3, 1) := by decide +kernel
theorem dX9_book_223 : decode cX9_book 223 = .ok (.iload_n 3, 1) := by decide +kernel
theorem dX9_book_224 : decode cX9_book 224 = .ok (.aload_n 0, 1) := by decide +kernel
theorem dX9_book_225 : decode cX9_book 225 = .ok (.getfield 44, 3) := by decide +kernel
theorem dX9_book_228 : decode cX9_book 228 = .ok (.iload_n 2, 1) := by decide +kernel
theorem dX9_book_229 : decode cX9_book 229 = .ok (.iaload, 1) := by decide +kernel
theorem dX9_book_230 : decode cX9_book 230 = .ok (.if_icmp .ge 36, 3) := by decide +kernel
theorem dX9_book_233 : decode cX9_book 233 = .ok (.aload_n 0, 1) := by decide +kernel
theorem dX9_book_234 : decode cX9_book 234 = .ok (.getfield 113, 3) := by decide +kernel
theorem dX9_book_237 : decode cX9_book 237 = .ok (.bipush 30, 2) := by decide +kernel
theorem dX9_book_239 : decode cX9_book 239 = .ok (.aload_n 0, 1) := by decide +kernel
theorem dX9_book_240 : decode cX9_book 240 = .ok (.getfield 298, 3) := by decide +kernel
theorem dX9_book_243 : decode cX9_book 243 = .ok (.imul, 1) := by decide +kernel
theorem dX9_book_244 : decode cX9_book 244 = .ok (.iload_n 3, 1) := by decide +kernel
theorem dX9_book_245 : decode cX9_book 245 = .ok (.iadd, 1) := by decide +kernel
theorem dX9_book_246 : decode cX9_book 246 = .ok (.aload_n 0, 1) := by decide +kernel
theorem dX9_book_247 : decode cX9_book 247 = .ok (.getfield 47, 3) := by decide +kernel
theorem dX9_book_250 : decode cX9_book 250 = .ok (.aload_n 0, 1) := by decide +kernel
theorem dX9_book_251 : decode cX9_book 251 = .ok (.getfield 41, 3) := by decide +kernel
theorem dX9_book_254 : decode cX9_book 254 = .ok (.iload_n 2, 1) := by decide +kernel
theorem dX9_book_255 : decode cX9_book 255 = .ok (.iaload, 1) := by decide +kernel
theorem dX9_book_256 : decode cX9_book 256 = .ok (.iload_n 3, 1) := by decide +kernel
theorem dX9_book_257 : decode cX9_book 257 = .ok (.iadd, 1) := by decide +kernel
theorem dX9_book_258 : decode cX9_book 258 = .ok (.baload, 1) := by decide +kernel
theorem dX9_book_259 : decode cX9_book 259 = .ok (.bastore, 1) := by decide +kernel
theorem dX9_book_260 : decode cX9_book 260 = .ok (.iinc 3 1, 3) := by decide +kernel
theorem dX9_book_263 : decode cX9_book 263 = .ok (.goto (-40), 3) := by decide +kernel
theorem dX9_book_266 : decode cX9_book 266 = .ok (.aload_n 0, 1) := by decide +kernel
theorem dX9_book_267 : decode cX9_book 267 = .ok (.dup, 1) := by decide +kernel
theorem dX9_book_268 : decode cX9_book 268 = .ok (.getfield 298, 3) := by decide +kernel
theorem dX9_book_271 : decode cX9_book 271 = .ok (.iconst 1, 1) := by decide +kernel
theorem dX9_book_272 : decode cX9_book 272 = .ok (.iadd, 1) := by decide +kernel
theorem dX9_book_273 : decode cX9_book 273 = .ok (.putfield 298, 3) := by decide +kernel
theorem dX9_book_276 : decode cX9_book 276 = .ok (.iinc 2 1, 3) := by decide +kernel
theorem dX9_book_279 : decode cX9_book 279 = .ok (.goto (-148), 3) := by decide +kernel
theorem dX9_book_282 : decode cX9_book 282 = .ok (.aload_n 0, 1) := by decide +kernel
theorem dX9_book_283 : decode cX9_book 283 = .ok (.dup, 1) := by decide +kernel
theorem dX9_book_284 : decode cX9_book 284 = .ok (.getfield 295, 3) := by decide +kernel
theorem dX9_book_287 : decode cX9_book 287 = .ok (.iconst 1, 1) := by decide +kernel
theorem dX9_book_288 : decode cX9_book 288 = .ok (.iadd, 1) := by decide +kernel
theorem dX9_book_289 : decode cX9_book 289 = .ok (.putfield 295, 3) := by decide +kernel
theorem dX9_book_292 : decode cX9_book 292 = .ok (.iinc 1 1, 3) := by decide +kernel
theorem dX9_book_295 : decode cX9_book 295 = .ok (.goto (-252), 3) := by decide +kernel
theorem dX9_book_298 : decode cX9_book 298 = .ok (.aload_n 0, 1) := by decide +kernel
theorem dX9_book_299 : decode cX9_book 299 = .ok (.dup, 1) := by decide +kernel
theorem dX9_book_300 : decode cX9_book 300 = .ok (.getfield 310, 3) := by decide +kernel
theorem dX9_book_303 : decode cX9_book 303 = .ok (.iconst 1, 1) := by decide +kernel
theorem dX9_book_304 : decode cX9_book 304 = .ok (.iadd, 1) := by decide +kernel
theorem dX9_book_305 : decode cX9_book 305 = .ok (.putfield 310, 3) := by decide +kernel
theorem dX9_book_308 : decode cX9_book 308 = .ok (.iconst 0, 1) := by decide +kernel
theorem dX9_book_309 : decode cX9_book 309 = .ok (.ireturn, 1) := by decide +kernel
set_option maxRecDepth 20000 in
theorem ggX9_receive_X9_readOn_1 : GoodIn wsX9_receive wsX9_readOn_r1 := goodIn_r _ [1, 3, 21, 9, 22, 4, 5, 23, 24, 6, 25, 26, 27, 19, 28, 29, 30, 31, 32, 33, 11, 34, 35, 36] (by decide +kernel) (by decide +kernel)
set_option maxRecDepth 20000 in
theorem ggX9_receive_X9_readOn_2 : GoodIn wsX9_receive wsX9_readOn_r2 := goodIn_r _ [37, 8, 38, 12, 39, 10, 40, 41, 42, 43, 44, 45, 46, 47, 7, 48, 49, 50, 51, 52, 53, 54, 13, 15] (by decide +kernel) (by decide +kernel)
set_option maxRecDepth 20000 in
theorem ggX9_receive_X9_readOn_3 : GoodIn wsX9_receive wsX9_readOn_r3 := goodIn_r _ [55, 56, 57, 58, 59, 60, 14, 61, 62, 63, 64, 65, 66, 67, 68, 69, 70, 71, 72, 73, 74, 75, 76, 77] (by decide +kernel) (by decide +kernel)
set_option maxRecDepth 20000 in
theorem ggX9_receive_X9_readOn_4 : GoodIn wsX9_receive wsX9_readOn_r4 := goodIn_r _ [78, 79, 80, 81, 82, 83, 84, 85, 86, 87, 88, 89, 90, 2, 91, 92, 93, 94, 95, 96, 97, 98, 99, 100] (by decide +kernel) (by decide +kernel)
set_option maxRecDepth 20000 in
theorem ggX9_receive_X9_readOn_5 : GoodIn wsX9_receive wsX9_readOn_r5 := goodIn_r _ [101, 102, 103, 104, 105, 106, 107, 108, 109, 110, 111, 112, 113, 114, 115, 116, 117, 118, 119, 120, 121, 122, 123, 124] (by decide +kernel) (by decide +kernel)
set_option maxRecDepth 20000 in
theorem ggX9_receive_X9_readOn_6 : GoodIn wsX9_receive wsX9_readOn_r6 := goodIn_r _ [125, 126, 127, 128, 129, 130, 131, 132, 133, 134, 135, 136, 137, 138, 139, 140, 141, 142, 143, 144, 145, 146, 147, 148] (by decide +kernel) (by decide +kernel)
set_option maxRecDepth 20000 in
theorem ggX9_receive_X9_readOn_7 : GoodIn wsX9_receive wsX9_readOn_r7 := goodIn_r _ [149, 150, 151, 152, 153, 154, 155, 156, 157, 158, 159, 160, 161, 162, 163, 164, 165, 166, 167, 168, 169, 170, 171, 172] (by decide +kernel) (by decide +kernel)
set_option maxRecDepth 20000 in
theorem ggX9_receive_X9_readOn_8 : GoodIn wsX9_receive wsX9_readOn_r8 := goodIn_r _ [173, 174, 175, 176, 177, 178, 179, 180, 181] (by decide +kernel) (by decide +kernel)
set_option maxRecDepth 20000 in
theorem ggX9_receive_X9_readOn_9 : GoodIn wsX9_receive wsX90 := goodIn_r _ [182, 183, 184, 185, 186, 187, 188, 189, 190, 191, 192, 193, 194, 195, 196, 197, 198, 199, 200, 201, 202, 203, 204, 205, 206, 207, 208, 209, 210, 211, 212, 213, 214, 215, 216, 217, 218, 219, 220, 221, 222, 223, 224, 225, 226, 227, 228, 229, 230, 231, 232, 233, 234, 235, 236, 237, 238, 239, 240, 241, 242, 243, 244, 245, 246, 247, 248, 249, 250] (by decide +kernel) (by decide +kernel)
set_option maxRecDepth 20000 in
theorem ggX9_receive_X9_readOn_0 : GoodIn wsX9_receive [.code yX9_readOn cX9_readOn 2 (some .int)] := goodIn_r _ [20] (by decide +kernel) (by decide +kernel)
theorem ggX9_receive_X9_readOn : GoodIn wsX9_receive wsX9_readOn := goodIn_k ggX9_receive_X9_readOn_0 (goodIn_app (goodIn_app ggX9_receive_X9_readOn_1 (goodIn_app ggX9_receive_X9_readOn_2 (goodIn_app ggX9_receive_X9_readOn_3 (goodIn_app ggX9_receive_X9_readOn_4 (goodIn_app ggX9_receive_X9_readOn_5 (goodIn_app ggX9_receive_X9_readOn_6 (goodIn_app ggX9_receive_X9_readOn_7 ggX9_receive_X9_readOn_8))))))) ggX9_receive_X9_readOn_9)
set_option maxRecDepth 20000 in
theorem gX9_receive_X9_readOn : GoodIn wsX9_receive (wsV RX9 313 RX9 yX9_readOn wsX9_readOn) := goodIn_app (goodIn_of _ (by decide +kernel)) ggX9_receive_X9_readOn
theorem dX9_receive_0 : decode cX9_receive 0 = .ok (.aload_n 0, 1) := by decide +kernel
theorem dX9_receive_1 : decode cX9_receive 1 = .ok (.getfield 120, 3) := by decide +kernel
theorem dX9_receive_4 : decode cX9_receive 4 = .ok (.ifCond .eq 6, 3) := by decide +kernel
theorem dX9_receive_7 : decode cX9_receive 7 = .ok (.bipush (-2), 2) := by decide +kernel
theorem dX9_receive_9 : decode cX9_receive 9 = .ok (.ireturn, 1) := by decide +kernel
theorem dX9_receive_10 : decode cX9_receive 10 = .ok (.aload_n 0, 1) := by decide +kernel
theorem dX9_receive_11 : decode cX9_receive 11 = .ok (.dup, 1) := by decide +kernel
theorem dX9_receive_12 : decode cX9_receive 12 = .ok (.getfield 307, 3) := by decide +kernel
theorem dX9_receive_15 : decode cX9_receive 15 = .ok (.iconst 1, 1) := by decide +kernel
theorem dX9_receive_16 : decode cX9_receive 16 = .ok (.iadd, 1) := by decide +kernel
theorem dX9_receive_17 : decode cX9_receive 17 = .ok (.putfield 307, 3) := by decide +kernel
theorem dX9_receive_20 : decode cX9_receive 20 = .ok (.aload_n 0, 1) := by decide +kernel
theorem dX9_receive_21 : decode cX9_receive 21 = .ok (.iconst 0, 1) := by decide +kernel
theorem dX9_receive_22 : decode cX9_receive 22 = .ok (.putfield 261, 3) := by decide +kernel
theorem dX9_receive_25 : decode cX9_receive 25 = .ok (.aload_n 0, 1) := by decide +kernel
theorem dX9_receive_26 : decode cX9_receive 26 = .ok (.iconst 0, 1) := by decide +kernel
theorem dX9_receive_27 : decode cX9_receive 27 = .ok (.putfield 151, 3) := by decide +kernel
theorem dX9_receive_30 : decode cX9_receive 30 = .ok (.aload_n 0, 1) := by decide +kernel
theorem dX9_receive_31 : decode cX9_receive 31 = .ok (.iconst 0, 1) := by decide +kernel
theorem dX9_receive_32 : decode cX9_receive 32 = .ok (.putfield 144, 3) := by decide +kernel
theorem dX9_receive_35 : decode cX9_receive 35 = .ok (.aload_n 0, 1) := by decide +kernel
theorem dX9_receive_36 : decode cX9_receive 36 = .ok (.iconst 0, 1) := by decide +kernel
theorem dX9_receive_37 : decode cX9_receive 37 = .ok (.putfield 274, 3) := by decide +kernel
theorem dX9_receive_40 : decode cX9_receive 40 = .ok (.aload_n 0, 1) := by decide +kernel
theorem dX9_receive_41 : decode cX9_receive 41 = .ok (.iconst 0, 1) := by decide +kernel
theorem dX9_receive_42 : decode cX9_receive 42 = .ok (.putfield 161, 3) := by decide +kernel
theorem dX9_receive_45 : decode cX9_receive 45 = .ok (.aload_n 0, 1) := by decide +kernel
theorem dX9_receive_46 : decode cX9_receive 46 = .ok (.iconst (-1), 1) := by decide +kernel
theorem dX9_receive_47 : decode cX9_receive 47 = .ok (.putfield 258, 3) := by decide +kernel
theorem dX9_receive_50 : decode cX9_receive 50 = .ok (.aload_n 0, 1) := by decide +kernel
theorem dX9_receive_51 : decode cX9_receive 51 = .ok (.iconst 0, 1) := by decide +kernel
theorem dX9_receive_52 : decode cX9_receive 52 = .ok (.putfield 141, 3) := by decide +kernel
theorem dX9_receive_55 : decode cX9_receive 55 = .ok (.aload_n 0, 1) := by decide +kernel
theorem dX9_receive_56 : decode cX9_receive 56 = .ok (.iconst 0, 1) := by decide +kernel
theorem dX9_receive_57 : decode cX9_receive 57 = .ok (.putfield 234, 3) := by decide +kernel
theorem dX9_receive_60 : decode cX9_receive 60 = .ok (.aload_n 0, 1) := by decide +kernel
theorem dX9_receive_61 : decode cX9_receive 61 = .ok (.iconst 0, 1) := by decide +kernel
theorem dX9_receive_62 : decode cX9_receive 62 = .ok (.putfield 252, 3) := by decide +kernel
theorem dX9_receive_65 : decode cX9_receive 65 = .ok (.aload_n 0, 1) := by decide +kernel
theorem dX9_receive_66 : decode cX9_receive 66 = .ok (.iconst 0, 1) := by decide +kernel
theorem dX9_receive_67 : decode cX9_receive 67 = .ok (.putfield 240, 3) := by decide +kernel
theorem dX9_receive_70 : decode cX9_receive 70 = .ok (.aload_n 0, 1) := by decide +kernel
theorem dX9_receive_71 : decode cX9_receive 71 = .ok (.iconst 0, 1) := by decide +kernel
theorem dX9_receive_72 : decode cX9_receive 72 = .ok (.putfield 135, 3) := by decide +kernel
theorem dX9_receive_75 : decode cX9_receive 75 = .ok (.iconst 0, 1) := by decide +kernel
theorem dX9_receive_76 : decode cX9_receive 76 = .ok (.istore_n 1, 1) := by decide +kernel
theorem dX9_receive_77 : decode cX9_receive 77 = .ok (.iload_n 1, 1) := by decide +kernel
theorem dX9_receive_78 : decode cX9_receive 78 = .ok (.bipush 22, 2) := by decide +kernel
theorem dX9_receive_80 : decode cX9_receive 80 = .ok (.if_icmp .ge 16, 3) := by decide +kernel
theorem dX9_receive_83 : decode cX9_receive 83 = .ok (.aload_n 0, 1) := by decide +kernel
theorem dX9_receive_84 : decode cX9_receive 84 = .ok (.getfield 65, 3) := by decide +kernel
theorem dX9_receive_87 : decode cX9_receive 87 = .ok (.iload_n 1, 1) := by decide +kernel
theorem dX9_receive_88 : decode cX9_receive 88 = .ok (.iconst 0, 1) := by decide +kernel
theorem dX9_receive_89 : decode cX9_receive 89 = .ok (.iastore, 1) := by decide +kernel
theorem dX9_receive_90 : decode cX9_receive 90 = .ok (.iinc 1 1, 3) := by decide +kernel
theorem dX9_receive_93 : decode cX9_receive 93 = .ok (.goto (-16), 3) := by decide +kernel
theorem dX9_receive_96 : decode cX9_receive 96 = .ok (.iconst 0, 1) := by decide +kernel
theorem dX9_receive_97 : decode cX9_receive 97 = .ok (.istore_n 1, 1) := by decide +kernel
theorem dX9_receive_98 : decode cX9_receive 98 = .ok (.iload_n 1, 1) := by decide +kernel
theorem dX9_receive_99 : decode cX9_receive 99 = .ok (.bipush 6, 2) := by decide +kernel
theorem dX9_receive_101 : decode cX9_receive 101 = .ok (.if_icmp .ge 16, 3) := by decide +kernel
theorem dX9_receive_104 : decode cX9_receive 104 = .ok (.aload_n 0, 1) := by decide +kernel
theorem dX9_receive_105 : decode cX9_receive 105 = .ok (.getfield 71, 3) := by decide +kernel
theorem dX9_receive_108 : decode cX9_receive 108 = .ok (.iload_n 1, 1) := by decide +kernel
theorem dX9_receive_109 : decode cX9_receive 109 = .ok (.iconst (-1), 1) := by decide +kernel
theorem dX9_receive_110 : decode cX9_receive 110 = .ok (.iastore, 1) := by decide +kernel
theorem dX9_receive_111 : decode cX9_receive 111 = .ok (.iinc 1 1, 3) := by decide +kernel
theorem dX9_receive_114 : decode cX9_receive 114 = .ok (.goto (-16), 3) := by decide +kernel
theorem dX9_receive_117 : decode cX9_receive 117 = .ok (.aload_n 0, 1) := by decide +kernel
theorem dX9_receive_118 : decode cX9_receive 118 = .ok (.invokevirtual 313, 3) := by decide +kernel
theorem dX9_receive_121 : decode cX9_receive 121 = .ok (.ireturn, 1) := by decide +kernel
set_option maxRecDepth 20000 in
theorem ggX9_resume_X9_readOn_1 : GoodIn wsX9_resume wsX9_readOn_r1 := goodIn_r _ [1, 7, 8, 9, 10, 11, 12, 13, 14, 15, 16, 17, 18, 5, 19, 20, 21, 22, 23, 24, 25, 26, 27, 28] (by decide +kernel) (by decide +kernel)
set_option maxRecDepth 20000 in
theorem ggX9_resume_X9_readOn_2 : GoodIn wsX9_resume wsX9_readOn_r2 := goodIn_r _ [29, 30, 31, 32, 33, 34, 35, 36, 37, 38, 39, 40, 41, 42, 43, 44, 45, 46, 47, 48, 49, 50, 51, 52] (by decide +kernel) (by decide +kernel)
set_option maxRecDepth 20000 in
theorem ggX9_resume_X9_readOn_3 : GoodIn wsX9_resume wsX9_readOn_r3 := goodIn_r _ [53, 54, 55, 56, 57, 58, 59, 60, 61, 62, 63, 64, 65, 66, 67, 68, 69, 70, 71, 72, 73, 74, 75, 76] (by decide +kernel) (by decide +kernel)
set_option maxRecDepth 20000 in
theorem ggX9_resume_X9_readOn_4 : GoodIn wsX9_resume wsX9_readOn_r4 := goodIn_r _ [77, 78, 79, 80, 81, 82, 83, 84, 85, 86, 87, 88, 89, 90, 91, 92, 93, 94, 95, 96, 97, 98, 99, 100] (by decide +kernel) (by decide +kernel)
set_option maxRecDepth 20000 in
theorem ggX9_resume_X9_readOn_5 : GoodIn wsX9_resume wsX9_readOn_r5 := goodIn_r _ [101, 102, 103, 104, 105, 106, 107, 108, 109, 110, 111, 112, 113, 114, 115, 116, 117, 118, 119, 120, 121, 122, 123, 124] (by decide +kernel) (by decide +kernel)
set_option maxRecDepth 20000 in
theorem ggX9_resume_X9_readOn_6 : GoodIn wsX9_resume wsX9_readOn_r6 := goodIn_r _ [125, 126, 127, 128, 129, 130, 131, 132, 133, 134, 135, 136, 137, 138, 139, 140, 141, 142, 143, 144, 145, 146, 147, 148] (by decide +kernel) (by decide +kernel)
set_option maxRecDepth 20000 in
theorem ggX9_resume_X9_readOn_7 : GoodIn wsX9_resume wsX9_readOn_r7 := goodIn_r _ [149, 150, 151, 152, 153, 154, 155, 156, 157, 158, 159, 160, 161, 162, 163, 164, 165, 166, 167, 168, 169, 170, 171, 172] (by decide +kernel) (by decide +kernel)
set_option maxRecDepth 20000 in
theorem ggX9_resume_X9_readOn_8 : GoodIn wsX9_resume wsX9_readOn_r8 := goodIn_r _ [173, 174, 175, 176, 177, 178, 179, 180, 181] (by decide +kernel) (by decide +kernel)
set_option maxRecDepth 20000 in
theorem ggX9_resume_X9_readOn_9 : GoodIn wsX9_resume wsX90 := goodIn_r _ [182, 183, 184, 185, 186, 187, 188, 189, 190, 191, 192, 193, 194, 195, 196, 197, 198, 199, 200, 201, 202, 203, 204, 205, 206, 207, 208, 209, 210, 211, 212, 213, 214, 215, 216, 217, 218, 219, 220, 221, 222, 223, 224, 225, 226, 227, 228, 229, 230, 231, 232, 233, 234, 235, 236, 237, 238, 239, 240, 241, 242, 243, 244, 245, 246, 247, 248, 249, 250] (by decide +kernel) (by decide +kernel)
set_option maxRecDepth 20000 in
theorem ggX9_resume_X9_readOn_0 : GoodIn wsX9_resume [.code yX9_readOn cX9_readOn 2 (some .int)] := goodIn_r _ [6] (by decide +kernel) (by decide +kernel)
theorem ggX9_resume_X9_readOn : GoodIn wsX9_resume wsX9_readOn := goodIn_k ggX9_resume_X9_readOn_0 (goodIn_app (goodIn_app ggX9_resume_X9_readOn_1 (goodIn_app ggX9_resume_X9_readOn_2 (goodIn_app ggX9_resume_X9_readOn_3 (goodIn_app ggX9_resume_X9_readOn_4 (goodIn_app ggX9_resume_X9_readOn_5 (goodIn_app ggX9_resume_X9_readOn_6 (goodIn_app ggX9_resume_X9_readOn_7 ggX9_resume_X9_readOn_8))))))) ggX9_resume_X9_readOn_9)
set_option maxRecDepth 20000 in
theorem gX9_resume_X9_readOn : GoodIn wsX9_resume (wsV RX9 313 RX9 yX9_readOn wsX9_readOn) := goodIn_app (goodIn_of _ (by decide +kernel)) ggX9_resume_X9_readOn
theorem dX9_resume_0 : decode cX9_resume 0 = .ok (.aload_n 0, 1) := by decide +kernel
theorem dX9_resume_1 : decode cX9_resume 1 = .ok (.getfield 120, 3) := by decide +kernel
theorem dX9_resume_4 : decode cX9_resume 4 = .ok (.ifCond .eq 10, 3) := by decide +kernel
theorem dX9_resume_7 : decode cX9_resume 7 = .ok (.aload_n 0, 1) := by decide +kernel
theorem dX9_resume_8 : decode cX9_resume 8 = .ok (.invokevirtual 313, 3) := by decide +kernel
theorem dX9_resume_11 : decode cX9_resume 11 = .ok (.goto 4, 3) := by decide +kernel
theorem dX9_resume_14 : decode cX9_resume 14 = .ok (.iconst (-1), 1) := by decide +kernel
theorem dX9_resume_15 : decode cX9_resume 15 = .ok (.ireturn, 1) := by decide +kernel
theorem dX9_drop_0 : decode cX9_drop 0 = .ok (.aload_n 0, 1) := by decide +kernel
theorem dX9_drop_1 : decode cX9_drop 1 = .ok (.getfield 120, 3) := by decide +kernel
theorem dX9_drop_4 : decode cX9_drop 4 = .ok (.ifCond .ne 5, 3) := by decide +kernel
theorem dX9_drop_7 : decode cX9_drop 7 = .ok (.iconst (-1), 1) := by decide +kernel
theorem dX9_drop_8 : decode cX9_drop 8 = .ok (.ireturn, 1) := by decide +kernel
theorem dX9_drop_9 : decode cX9_drop 9 = .ok (.aload_n 0, 1) := by decide +kernel
theorem dX9_drop_10 : decode cX9_drop 10 = .ok (.iconst 0, 1) := by decide +kernel
theorem dX9_drop_11 : decode cX9_drop 11 = .ok (.putfield 120, 3) := by decide +kernel
theorem dX9_drop_14 : decode cX9_drop 14 = .ok (.aload_n 0, 1) := by decide +kernel
theorem dX9_drop_15 : decode cX9_drop 15 = .ok (.dup, 1) := by decide +kernel
theorem dX9_drop_16 : decode cX9_drop 16 = .ok (.getfield 292, 3) := by decide +kernel
theorem dX9_drop_19 : decode cX9_drop 19 = .ok (.iconst 1, 1) := by decide +kernel
theorem dX9_drop_20 : decode cX9_drop 20 = .ok (.iadd, 1) := by decide +kernel
theorem dX9_drop_21 : decode cX9_drop 21 = .ok (.putfield 292, 3) := by decide +kernel
theorem dX9_drop_24 : decode cX9_drop 24 = .ok (.aload_n 0, 1) := by decide +kernel
theorem dX9_drop_25 : decode cX9_drop 25 = .ok (.getfield 234, 3) := by decide +kernel
theorem dX9_drop_28 : decode cX9_drop 28 = .ok (.ireturn, 1) := by decide +kernel
theorem dX9_failures_0 : decode cX9_failures 0 = .ok (.aload_n 0, 1) := by decide +kernel
theorem dX9_failures_1 : decode cX9_failures 1 = .ok (.getfield 135, 3) := by decide +kernel
theorem dX9_failures_4 : decode cX9_failures 4 = .ok (.ireturn, 1) := by decide +kernel
theorem dX9_failure_0 : decode cX9_failure 0 = .ok (.iload_n 1, 1) := by decide +kernel
theorem dX9_failure_1 : decode cX9_failure 1 = .ok (.ifCond .lt 27, 3) := by decide +kernel
theorem dX9_failure_4 : decode cX9_failure 4 = .ok (.iload_n 1, 1) := by decide +kernel
theorem dX9_failure_5 : decode cX9_failure 5 = .ok (.aload_n 0, 1) := by decide +kernel
theorem dX9_failure_6 : decode cX9_failure 6 = .ok (.getfield 135, 3) := by decide +kernel
theorem dX9_failure_9 : decode cX9_failure 9 = .ok (.if_icmp .ge 19, 3) := by decide +kernel
theorem dX9_failure_12 : decode cX9_failure 12 = .ok (.iload_n 1, 1) := by decide +kernel
theorem dX9_failure_13 : decode cX9_failure 13 = .ok (.sipush 300, 3) := by decide +kernel
theorem dX9_failure_16 : decode cX9_failure 16 = .ok (.if_icmp .ge 12, 3) := by decide +kernel
theorem dX9_failure_19 : decode cX9_failure 19 = .ok (.iload_n 2, 1) := by decide +kernel
theorem dX9_failure_20 : decode cX9_failure 20 = .ok (.ifCond .lt 8, 3) := by decide +kernel
theorem dX9_failure_23 : decode cX9_failure 23 = .ok (.iload_n 2, 1) := by decide +kernel
theorem dX9_failure_24 : decode cX9_failure 24 = .ok (.iconst 4, 1) := by decide +kernel
theorem dX9_failure_25 : decode cX9_failure 25 = .ok (.if_icmp .le 5, 3) := by decide +kernel
theorem dX9_failure_28 : decode cX9_failure 28 = .ok (.iconst (-1), 1) := by decide +kernel
theorem dX9_failure_29 : decode cX9_failure 29 = .ok (.ireturn, 1) := by decide +kernel
theorem dX9_failure_30 : decode cX9_failure 30 = .ok (.iload_n 2, 1) := by decide +kernel
theorem dX9_failure_31 : decode cX9_failure 31 = .ok (.ifCond .ne 12, 3) := by decide +kernel
theorem dX9_failure_34 : decode cX9_failure 34 = .ok (.aload_n 0, 1) := by decide +kernel
theorem dX9_failure_35 : decode cX9_failure 35 = .ok (.getfield 50, 3) := by decide +kernel
theorem dX9_failure_38 : decode cX9_failure 38 = .ok (.iload_n 1, 1) := by decide +kernel
theorem dX9_failure_39 : decode cX9_failure 39 = .ok (.iaload, 1) := by decide +kernel
theorem dX9_failure_40 : decode cX9_failure 40 = .ok (.goto 51, 3) := by decide +kernel
theorem dX9_failure_43 : decode cX9_failure 43 = .ok (.iload_n 2, 1) := by decide +kernel
theorem dX9_failure_44 : decode cX9_failure 44 = .ok (.iconst 1, 1) := by decide +kernel
theorem dX9_failure_45 : decode cX9_failure 45 = .ok (.if_icmp .ne 12, 3) := by decide +kernel
theorem dX9_failure_48 : decode cX9_failure 48 = .ok (.aload_n 0, 1) := by decide +kernel
theorem dX9_failure_49 : decode cX9_failure 49 = .ok (.getfield 53, 3) := by decide +kernel
theorem dX9_failure_52 : decode cX9_failure 52 = .ok (.iload_n 1, 1) := by decide +kernel
theorem dX9_failure_53 : decode cX9_failure 53 = .ok (.iaload, 1) := by decide +kernel
theorem dX9_failure_54 : decode cX9_failure 54 = .ok (.goto 37, 3) := by decide +kernel
theorem dX9_failure_57 : decode cX9_failure 57 = .ok (.iload_n 2, 1) := by decide +kernel
theorem dX9_failure_58 : decode cX9_failure 58 = .ok (.iconst 2, 1) := by decide +kernel
theorem dX9_failure_59 : decode cX9_failure 59 = .ok (.if_icmp .ne 12, 3) := by decide +kernel
theorem dX9_failure_62 : decode cX9_failure 62 = .ok (.aload_n 0, 1) := by decide +kernel
theorem dX9_failure_63 : decode cX9_failure 63 = .ok (.getfield 56, 3) := by decide +kernel
theorem dX9_failure_66 : decode cX9_failure 66 = .ok (.iload_n 1, 1) := by decide +kernel
theorem dX9_failure_67 : decode cX9_failure 67 = .ok (.iaload, 1) := by decide +kernel
theorem dX9_failure_68 : decode cX9_failure 68 = .ok (.goto 23, 3) := by decide +kernel
theorem dX9_failure_71 : decode cX9_failure 71 = .ok (.iload_n 2, 1) := by decide +kernel
theorem dX9_failure_72 : decode cX9_failure 72 = .ok (.iconst 3, 1) := by decide +kernel
theorem dX9_failure_73 : decode cX9_failure 73 = .ok (.if_icmp .ne 12, 3) := by decide +kernel
theorem dX9_failure_76 : decode cX9_failure 76 = .ok (.aload_n 0, 1) := by decide +kernel
theorem dX9_failure_77 : decode cX9_failure 77 = .ok (.getfield 59, 3) := by decide +kernel
theorem dX9_failure_80 : decode cX9_failure 80 = .ok (.iload_n 1, 1) := by decide +kernel
theorem dX9_failure_81 : decode cX9_failure 81 = .ok (.iaload, 1) := by decide +kernel
theorem dX9_failure_82 : decode cX9_failure 82 = .ok (.goto 9, 3) := by decide +kernel
theorem dX9_failure_85 : decode cX9_failure 85 = .ok (.aload_n 0, 1) := by decide +kernel
theorem dX9_failure_86 : decode cX9_failure 86 = .ok (.getfield 62, 3) := by decide +kernel
theorem dX9_failure_89 : decode cX9_failure 89 = .ok (.iload_n 1, 1) := by decide +kernel
theorem dX9_failure_90 : decode cX9_failure 90 = .ok (.iaload, 1) := by decide +kernel
theorem dX9_failure_91 : decode cX9_failure 91 = .ok (.ireturn, 1) := by decide +kernel
set_option maxRecDepth 20000 in
theorem ggX9_many_X9_groupOf : GoodIn wsX9_many wsX9_groupOf := goodIn_r _ [5] (by decide +kernel) (by decide +kernel)
set_option maxRecDepth 20000 in
theorem gX9_many_X9_groupOf : GoodIn wsX9_many (va_wsS RX9 131 yX9_groupOf wsX9_groupOf) := goodIn_app (goodIn_of _ (by decide +kernel)) ggX9_many_X9_groupOf
theorem dX9_many_0 : decode cX9_many 0 = .ok (.iload_n 1, 1) := by decide +kernel
theorem dX9_many_1 : decode cX9_many 1 = .ok (.iconst 1, 1) := by decide +kernel
theorem dX9_many_2 : decode cX9_many 2 = .ok (.if_icmp .lt 9, 3) := by decide +kernel
theorem dX9_many_5 : decode cX9_many 5 = .ok (.iload_n 1, 1) := by decide +kernel
theorem dX9_many_6 : decode cX9_many 6 = .ok (.bipush 29, 2) := by decide +kernel
theorem dX9_many_8 : decode cX9_many 8 = .ok (.if_icmp .le 5, 3) := by decide +kernel
theorem dX9_many_11 : decode cX9_many 11 = .ok (.iconst (-1), 1) := by decide +kernel
theorem dX9_many_12 : decode cX9_many 12 = .ok (.ireturn, 1) := by decide +kernel
theorem dX9_many_13 : decode cX9_many 13 = .ok (.iconst 0, 1) := by decide +kernel
theorem dX9_many_14 : decode cX9_many 14 = .ok (.istore_n 2, 1) := by decide +kernel
theorem dX9_many_15 : decode cX9_many 15 = .ok (.iconst 1, 1) := by decide +kernel
theorem dX9_many_16 : decode cX9_many 16 = .ok (.istore_n 3, 1) := by decide +kernel
theorem dX9_many_17 : decode cX9_many 17 = .ok (.iload_n 3, 1) := by decide +kernel
theorem dX9_many_18 : decode cX9_many 18 = .ok (.bipush 22, 2) := by decide +kernel
theorem dX9_many_20 : decode cX9_many 20 = .ok (.if_icmp .ge 66, 3) := by decide +kernel
theorem dX9_many_23 : decode cX9_many 23 = .ok (.iconst 0, 1) := by decide +kernel
theorem dX9_many_24 : decode cX9_many 24 = .ok (.istore 4, 2) := by decide +kernel
theorem dX9_many_26 : decode cX9_many 26 = .ok (.iload_n 3, 1) := by decide +kernel
theorem dX9_many_27 : decode cX9_many 27 = .ok (.istore 5, 2) := by decide +kernel
theorem dX9_many_29 : decode cX9_many 29 = .ok (.iload 5, 2) := by decide +kernel
theorem dX9_many_31 : decode cX9_many 31 = .ok (.ifCond .eq 31, 3) := by decide +kernel
theorem dX9_many_34 : decode cX9_many 34 = .ok (.iload 4, 2) := by decide +kernel
theorem dX9_many_36 : decode cX9_many 36 = .ok (.ifCond .ne 9, 3) := by decide +kernel
theorem dX9_many_39 : decode cX9_many 39 = .ok (.iload 5, 2) := by decide +kernel
theorem dX9_many_41 : decode cX9_many 41 = .ok (.iload_n 1, 1) := by decide +kernel
theorem dX9_many_42 : decode cX9_many 42 = .ok (.if_icmp .ne 7, 3) := by decide +kernel
theorem dX9_many_45 : decode cX9_many 45 = .ok (.iconst 1, 1) := by decide +kernel
theorem dX9_many_46 : decode cX9_many 46 = .ok (.goto 4, 3) := by decide +kernel
theorem dX9_many_49 : decode cX9_many 49 = .ok (.iconst 0, 1) := by decide +kernel
theorem dX9_many_50 : decode cX9_many 50 = .ok (.istore 4, 2) := by decide +kernel
theorem dX9_many_52 : decode cX9_many 52 = .ok (.iload 5, 2) := by decide +kernel
theorem dX9_many_54 : decode cX9_many 54 = .ok (.invokestatic 131, 3) := by decide +kernel
theorem dX9_many_57 : decode cX9_many 57 = .ok (.istore 5, 2) := by decide +kernel
theorem dX9_many_59 : decode cX9_many 59 = .ok (.goto (-30), 3) := by decide +kernel
theorem dX9_many_62 : decode cX9_many 62 = .ok (.iload_n 2, 1) := by decide +kernel
theorem dX9_many_63 : decode cX9_many 63 = .ok (.iload 4, 2) := by decide +kernel
theorem dX9_many_65 : decode cX9_many 65 = .ok (.ifCond .eq 12, 3) := by decide +kernel
theorem dX9_many_68 : decode cX9_many 68 = .ok (.aload_n 0, 1) := by decide +kernel
theorem dX9_many_69 : decode cX9_many 69 = .ok (.getfield 65, 3) := by decide +kernel
theorem dX9_many_72 : decode cX9_many 72 = .ok (.iload_n 3, 1) := by decide +kernel
theorem dX9_many_73 : decode cX9_many 73 = .ok (.iaload, 1) := by decide +kernel
theorem dX9_many_74 : decode cX9_many 74 = .ok (.goto 4, 3) := by decide +kernel
theorem dX9_many_77 : decode cX9_many 77 = .ok (.iconst 0, 1) := by decide +kernel
theorem dX9_many_78 : decode cX9_many 78 = .ok (.iadd, 1) := by decide +kernel
theorem dX9_many_79 : decode cX9_many 79 = .ok (.istore_n 2, 1) := by decide +kernel
theorem dX9_many_80 : decode cX9_many 80 = .ok (.iinc 3 1, 3) := by decide +kernel
theorem dX9_many_83 : decode cX9_many 83 = .ok (.goto (-66), 3) := by decide +kernel
theorem dX9_many_86 : decode cX9_many 86 = .ok (.iload_n 2, 1) := by decide +kernel
theorem dX9_many_87 : decode cX9_many 87 = .ok (.ireturn, 1) := by decide +kernel
theorem dX9_depth_0 : decode cX9_depth 0 = .ok (.iload_n 1, 1) := by decide +kernel
theorem dX9_depth_1 : decode cX9_depth 1 = .ok (.ifCond .lt 18, 3) := by decide +kernel
theorem dX9_depth_4 : decode cX9_depth 4 = .ok (.iload_n 1, 1) := by decide +kernel
theorem dX9_depth_5 : decode cX9_depth 5 = .ok (.aload_n 0, 1) := by decide +kernel
theorem dX9_depth_6 : decode cX9_depth 6 = .ok (.getfield 135, 3) := by decide +kernel
theorem dX9_depth_9 : decode cX9_depth 9 = .ok (.if_icmp .ge 10, 3) := by decide +kernel
theorem dX9_depth_12 : decode cX9_depth 12 = .ok (.iload_n 1, 1) := by decide +kernel
theorem dX9_depth_13 : decode cX9_depth 13 = .ok (.sipush 300, 3) := by decide +kernel
theorem dX9_depth_16 : decode cX9_depth 16 = .ok (.if_icmp .lt 5, 3) := by decide +kernel
theorem dX9_depth_19 : decode cX9_depth 19 = .ok (.iconst (-1), 1) := by decide +kernel
theorem dX9_depth_20 : decode cX9_depth 20 = .ok (.ireturn, 1) := by decide +kernel
theorem dX9_depth_21 : decode cX9_depth 21 = .ok (.iconst 0, 1) := by decide +kernel
theorem dX9_depth_22 : decode cX9_depth 22 = .ok (.istore_n 2, 1) := by decide +kernel
theorem dX9_depth_23 : decode cX9_depth 23 = .ok (.aload_n 0, 1) := by decide +kernel
theorem dX9_depth_24 : decode cX9_depth 24 = .ok (.getfield 56, 3) := by decide +kernel
theorem dX9_depth_27 : decode cX9_depth 27 = .ok (.iload_n 1, 1) := by decide +kernel
theorem dX9_depth_28 : decode cX9_depth 28 = .ok (.iaload, 1) := by decide +kernel
theorem dX9_depth_29 : decode cX9_depth 29 = .ok (.istore_n 3, 1) := by decide +kernel
theorem dX9_depth_30 : decode cX9_depth 30 = .ok (.iload_n 3, 1) := by decide +kernel
theorem dX9_depth_31 : decode cX9_depth 31 = .ok (.ifCond .lt 16, 3) := by decide +kernel
theorem dX9_depth_34 : decode cX9_depth 34 = .ok (.iinc 2 1, 3) := by decide +kernel
theorem dX9_depth_37 : decode cX9_depth 37 = .ok (.aload_n 0, 1) := by decide +kernel
theorem dX9_depth_38 : decode cX9_depth 38 = .ok (.getfield 56, 3) := by decide +kernel
theorem dX9_depth_41 : decode cX9_depth 41 = .ok (.iload_n 3, 1) := by decide +kernel
theorem dX9_depth_42 : decode cX9_depth 42 = .ok (.iaload, 1) := by decide +kernel
theorem dX9_depth_43 : decode cX9_depth 43 = .ok (.istore_n 3, 1) := by decide +kernel
theorem dX9_depth_44 : decode cX9_depth 44 = .ok (.goto (-14), 3) := by decide +kernel
theorem dX9_depth_47 : decode cX9_depth 47 = .ok (.iload_n 2, 1) := by decide +kernel
theorem dX9_depth_48 : decode cX9_depth 48 = .ok (.ireturn, 1) := by decide +kernel
set_option maxRecDepth 20000 in
theorem ggX9_sheet_X9_takenPersons_1 : GoodIn wsX9_sheet ([.fieldLink RX9 234 "CensusDeskModel" "houses" "I", .fieldLink RX9 29 "CensusDeskModel" "houseMany" "[I"] : List Cond) := goodIn_r _ [2, 10] (by decide +kernel) (by decide +kernel)
set_option maxRecDepth 20000 in
theorem ggX9_sheet_X9_takenPersons_2 : GoodIn wsX9_sheet wsX90 := goodIn_r _ [11, 12, 13, 14, 15, 16, 17, 18, 19, 20, 21, 22, 23, 24, 25, 26, 27, 28, 29, 30, 31, 32, 33, 34, 35, 36, 37, 38, 39, 40, 41, 42, 43, 44, 45, 46, 47, 48, 49, 50, 51, 52, 53, 54, 55, 56, 57, 58, 59, 60, 61, 62, 63, 64, 65, 66, 67, 68, 69, 70, 71, 72, 73, 74, 75, 76, 77, 78, 79] (by decide +kernel) (by decide +kernel)
set_option maxRecDepth 20000 in
theorem ggX9_sheet_X9_takenPersons_0 : GoodIn wsX9_sheet [.code yX9_takenPersons cX9_takenPersons 3 (some .int)] := goodIn_r _ [9] (by decide +kernel) (by decide +kernel)
theorem ggX9_sheet_X9_takenPersons : GoodIn wsX9_sheet wsX9_takenPersons := goodIn_k ggX9_sheet_X9_takenPersons_0 (goodIn_app ggX9_sheet_X9_takenPersons_1 ggX9_sheet_X9_takenPersons_2)
set_option maxRecDepth 20000 in
theorem gX9_sheet_X9_takenPersons : GoodIn wsX9_sheet (wsV RX9 301 RX9 yX9_takenPersons wsX9_takenPersons) := goodIn_app (goodIn_of _ (by decide +kernel)) ggX9_sheet_X9_takenPersons
theorem dX9_sheet_0 : decode cX9_sheet 0 = .ok (.iload_n 1, 1) := by decide +kernel
theorem dX9_sheet_1 : decode cX9_sheet 1 = .ok (.tableswitch 60 0 4 #[35, 40, 45, 50, 55], 35) := by decide +kernel
theorem dX9_sheet_36 : decode cX9_sheet 36 = .ok (.aload_n 0, 1) := by decide +kernel
theorem dX9_sheet_37 : decode cX9_sheet 37 = .ok (.getfield 274, 3) := by decide +kernel
theorem dX9_sheet_40 : decode cX9_sheet 40 = .ok (.ireturn, 1) := by decide +kernel
theorem dX9_sheet_41 : decode cX9_sheet 41 = .ok (.aload_n 0, 1) := by decide +kernel
theorem dX9_sheet_42 : decode cX9_sheet 42 = .ok (.getfield 234, 3) := by decide +kernel
theorem dX9_sheet_45 : decode cX9_sheet 45 = .ok (.ireturn, 1) := by decide +kernel
theorem dX9_sheet_46 : decode cX9_sheet 46 = .ok (.aload_n 0, 1) := by decide +kernel
theorem dX9_sheet_47 : decode cX9_sheet 47 = .ok (.getfield 161, 3) := by decide +kernel
theorem dX9_sheet_50 : decode cX9_sheet 50 = .ok (.ireturn, 1) := by decide +kernel
theorem dX9_sheet_51 : decode cX9_sheet 51 = .ok (.aload_n 0, 1) := by decide +kernel
theorem dX9_sheet_52 : decode cX9_sheet 52 = .ok (.invokevirtual 301, 3) := by decide +kernel
theorem dX9_sheet_55 : decode cX9_sheet 55 = .ok (.ireturn, 1) := by decide +kernel
theorem dX9_sheet_56 : decode cX9_sheet 56 = .ok (.aload_n 0, 1) := by decide +kernel
theorem dX9_sheet_57 : decode cX9_sheet 57 = .ok (.getfield 261, 3) := by decide +kernel
theorem dX9_sheet_60 : decode cX9_sheet 60 = .ok (.ireturn, 1) := by decide +kernel
theorem dX9_sheet_61 : decode cX9_sheet 61 = .ok (.iconst (-1), 1) := by decide +kernel
theorem dX9_sheet_62 : decode cX9_sheet 62 = .ok (.ireturn, 1) := by decide +kernel
theorem dX9_sum_0 : decode cX9_sum 0 = .ok (.iconst 0, 1) := by decide +kernel
theorem dX9_sum_1 : decode cX9_sum 1 = .ok (.istore_n 2, 1) := by decide +kernel
theorem dX9_sum_2 : decode cX9_sum 2 = .ok (.iload_n 1, 1) := by decide +kernel
theorem dX9_sum_3 : decode cX9_sum 3 = .ok (.tableswitch 77 0 8 #[49, 54, 74, 74, 74, 74, 59, 64, 69], 49) := by decide +kernel
theorem dX9_sum_52 : decode cX9_sum 52 = .ok (.aload_n 0, 1) := by decide +kernel
theorem dX9_sum_53 : decode cX9_sum 53 = .ok (.getfield 295, 3) := by decide +kernel
theorem dX9_sum_56 : decode cX9_sum 56 = .ok (.ireturn, 1) := by decide +kernel
theorem dX9_sum_57 : decode cX9_sum 57 = .ok (.aload_n 0, 1) := by decide +kernel
theorem dX9_sum_58 : decode cX9_sum 58 = .ok (.getfield 298, 3) := by decide +kernel
theorem dX9_sum_61 : decode cX9_sum 61 = .ok (.ireturn, 1) := by decide +kernel
theorem dX9_sum_62 : decode cX9_sum 62 = .ok (.aload_n 0, 1) := by decide +kernel
theorem dX9_sum_63 : decode cX9_sum 63 = .ok (.getfield 310, 3) := by decide +kernel
theorem dX9_sum_66 : decode cX9_sum 66 = .ok (.ireturn, 1) := by decide +kernel
theorem dX9_sum_67 : decode cX9_sum 67 = .ok (.aload_n 0, 1) := by decide +kernel
theorem dX9_sum_68 : decode cX9_sum 68 = .ok (.getfield 292, 3) := by decide +kernel
theorem dX9_sum_71 : decode cX9_sum 71 = .ok (.ireturn, 1) := by decide +kernel
theorem dX9_sum_72 : decode cX9_sum 72 = .ok (.aload_n 0, 1) := by decide +kernel
theorem dX9_sum_73 : decode cX9_sum 73 = .ok (.getfield 304, 3) := by decide +kernel
theorem dX9_sum_76 : decode cX9_sum 76 = .ok (.ireturn, 1) := by decide +kernel
theorem dX9_sum_77 : decode cX9_sum 77 = .ok (.goto 5, 3) := by decide +kernel
theorem dX9_sum_80 : decode cX9_sum 80 = .ok (.iconst (-1), 1) := by decide +kernel
theorem dX9_sum_81 : decode cX9_sum 81 = .ok (.ireturn, 1) := by decide +kernel
theorem dX9_sum_82 : decode cX9_sum 82 = .ok (.iconst 0, 1) := by decide +kernel
theorem dX9_sum_83 : decode cX9_sum 83 = .ok (.istore_n 3, 1) := by decide +kernel
theorem dX9_sum_84 : decode cX9_sum 84 = .ok (.iload_n 3, 1) := by decide +kernel
theorem dX9_sum_85 : decode cX9_sum 85 = .ok (.aload_n 0, 1) := by decide +kernel
theorem dX9_sum_86 : decode cX9_sum 86 = .ok (.getfield 298, 3) := by decide +kernel
theorem dX9_sum_89 : decode cX9_sum 89 = .ok (.if_icmp .ge 78, 3) := by decide +kernel
theorem dX9_sum_92 : decode cX9_sum 92 = .ok (.iload_n 2, 1) := by decide +kernel
theorem dX9_sum_93 : decode cX9_sum 93 = .ok (.iload_n 1, 1) := by decide +kernel
theorem dX9_sum_94 : decode cX9_sum 94 = .ok (.iconst 4, 1) := by decide +kernel
theorem dX9_sum_95 : decode cX9_sum 95 = .ok (.if_icmp .ge 23, 3) := by decide +kernel
theorem dX9_sum_98 : decode cX9_sum 98 = .ok (.aload_n 0, 1) := by decide +kernel
theorem dX9_sum_99 : decode cX9_sum 99 = .ok (.getfield 98, 3) := by decide +kernel
theorem dX9_sum_102 : decode cX9_sum 102 = .ok (.iload_n 3, 1) := by decide +kernel
theorem dX9_sum_103 : decode cX9_sum 103 = .ok (.iaload, 1) := by decide +kernel
theorem dX9_sum_104 : decode cX9_sum 104 = .ok (.iload_n 1, 1) := by decide +kernel
theorem dX9_sum_105 : decode cX9_sum 105 = .ok (.iconst 2, 1) := by decide +kernel
theorem dX9_sum_106 : decode cX9_sum 106 = .ok (.isub, 1) := by decide +kernel
theorem dX9_sum_107 : decode cX9_sum 107 = .ok (.if_icmp .ne 7, 3) := by decide +kernel
theorem dX9_sum_110 : decode cX9_sum 110 = .ok (.iconst 1, 1) := by decide +kernel
theorem dX9_sum_111 : decode cX9_sum 111 = .ok (.goto 48, 3) := by decide +kernel
theorem dX9_sum_114 : decode cX9_sum 114 = .ok (.iconst 0, 1) := by decide +kernel
theorem dX9_sum_115 : decode cX9_sum 115 = .ok (.goto 44, 3) := by decide +kernel
theorem dX9_sum_118 : decode cX9_sum 118 = .ok (.iload_n 1, 1) := by decide +kernel
theorem dX9_sum_119 : decode cX9_sum 119 = .ok (.iconst 4, 1) := by decide +kernel
theorem dX9_sum_120 : decode cX9_sum 120 = .ok (.if_icmp .ne 25, 3) := by decide +kernel
theorem dX9_sum_123 : decode cX9_sum 123 = .ok (.aload_n 0, 1) := by decide +kernel
theorem dX9_sum_124 : decode cX9_sum 124 = .ok (.getfield 101, 3) := by decide +kernel
theorem dX9_sum_127 : decode cX9_sum 127 = .ok (.iload_n 3, 1) := by decide +kernel
theorem dX9_sum_128 : decode cX9_sum 128 = .ok (.iaload, 1) := by decide +kernel
theorem dX9_sum_129 : decode cX9_sum 129 = .ok (.ifCond .lt 12, 3) := by decide +kernel
theorem dX9_sum_132 : decode cX9_sum 132 = .ok (.aload_n 0, 1) := by decide +kernel
theorem dX9_sum_133 : decode cX9_sum 133 = .ok (.getfield 101, 3) := by decide +kernel
theorem dX9_sum_136 : decode cX9_sum 136 = .ok (.iload_n 3, 1) := by decide +kernel
theorem dX9_sum_137 : decode cX9_sum 137 = .ok (.iaload, 1) := by decide +kernel
theorem dX9_sum_138 : decode cX9_sum 138 = .ok (.goto 21, 3) := by decide +kernel
theorem dX9_sum_141 : decode cX9_sum 141 = .ok (.iconst 0, 1) := by decide +kernel
theorem dX9_sum_142 : decode cX9_sum 142 = .ok (.goto 17, 3) := by decide +kernel
theorem dX9_sum_145 : decode cX9_sum 145 = .ok (.aload_n 0, 1) := by decide +kernel
theorem dX9_sum_146 : decode cX9_sum 146 = .ok (.getfield 101, 3) := by decide +kernel
theorem dX9_sum_149 : decode cX9_sum 149 = .ok (.iload_n 3, 1) := by decide +kernel
theorem dX9_sum_150 : decode cX9_sum 150 = .ok (.iaload, 1) := by decide +kernel
theorem dX9_sum_151 : decode cX9_sum 151 = .ok (.ifCond .ge 7, 3) := by decide +kernel
theorem dX9_sum_154 : decode cX9_sum 154 = .ok (.iconst 1, 1) := by decide +kernel
theorem dX9_sum_155 : decode cX9_sum 155 = .ok (.goto 4, 3) := by decide +kernel
theorem dX9_sum_158 : decode cX9_sum 158 = .ok (.iconst 0, 1) := by decide +kernel
theorem dX9_sum_159 : decode cX9_sum 159 = .ok (.iadd, 1) := by decide +kernel
theorem dX9_sum_160 : decode cX9_sum 160 = .ok (.istore_n 2, 1) := by decide +kernel
theorem dX9_sum_161 : decode cX9_sum 161 = .ok (.iinc 3 1, 3) := by decide +kernel
theorem dX9_sum_164 : decode cX9_sum 164 = .ok (.goto (-80), 3) := by decide +kernel
theorem dX9_sum_167 : decode cX9_sum 167 = .ok (.iload_n 2, 1) := by decide +kernel
theorem dX9_sum_168 : decode cX9_sum 168 = .ok (.ireturn, 1) := by decide +kernel
theorem dX9_house_0 : decode cX9_house 0 = .ok (.iload_n 1, 1) := by decide +kernel
theorem dX9_house_1 : decode cX9_house 1 = .ok (.ifCond .lt 20, 3) := by decide +kernel
theorem dX9_house_4 : decode cX9_house 4 = .ok (.iload_n 1, 1) := by decide +kernel
theorem dX9_house_5 : decode cX9_house 5 = .ok (.aload_n 0, 1) := by decide +kernel
theorem dX9_house_6 : decode cX9_house 6 = .ok (.getfield 295, 3) := by decide +kernel
theorem dX9_house_9 : decode cX9_house 9 = .ok (.if_icmp .ge 12, 3) := by decide +kernel
theorem dX9_house_12 : decode cX9_house 12 = .ok (.iload_n 2, 1) := by decide +kernel
theorem dX9_house_13 : decode cX9_house 13 = .ok (.ifCond .lt 8, 3) := by decide +kernel
theorem dX9_house_16 : decode cX9_house 16 = .ok (.iload_n 2, 1) := by decide +kernel
theorem dX9_house_17 : decode cX9_house 17 = .ok (.iconst 4, 1) := by decide +kernel
theorem dX9_house_18 : decode cX9_house 18 = .ok (.if_icmp .le 5, 3) := by decide +kernel
theorem dX9_house_21 : decode cX9_house 21 = .ok (.iconst (-1), 1) := by decide +kernel
theorem dX9_house_22 : decode cX9_house 22 = .ok (.ireturn, 1) := by decide +kernel
theorem dX9_house_23 : decode cX9_house 23 = .ok (.iload_n 2, 1) := by decide +kernel
theorem dX9_house_24 : decode cX9_house 24 = .ok (.ifCond .ne 12, 3) := by decide +kernel
theorem dX9_house_27 : decode cX9_house 27 = .ok (.aload_n 0, 1) := by decide +kernel
theorem dX9_house_28 : decode cX9_house 28 = .ok (.getfield 83, 3) := by decide +kernel
theorem dX9_house_31 : decode cX9_house 31 = .ok (.iload_n 1, 1) := by decide +kernel
theorem dX9_house_32 : decode cX9_house 32 = .ok (.iaload, 1) := by decide +kernel
theorem dX9_house_33 : decode cX9_house 33 = .ok (.goto 51, 3) := by decide +kernel
theorem dX9_house_36 : decode cX9_house 36 = .ok (.iload_n 2, 1) := by decide +kernel
theorem dX9_house_37 : decode cX9_house 37 = .ok (.iconst 1, 1) := by decide +kernel
theorem dX9_house_38 : decode cX9_house 38 = .ok (.if_icmp .ne 12, 3) := by decide +kernel
theorem dX9_house_41 : decode cX9_house 41 = .ok (.aload_n 0, 1) := by decide +kernel
theorem dX9_house_42 : decode cX9_house 42 = .ok (.getfield 86, 3) := by decide +kernel
theorem dX9_house_45 : decode cX9_house 45 = .ok (.iload_n 1, 1) := by decide +kernel
theorem dX9_house_46 : decode cX9_house 46 = .ok (.iaload, 1) := by decide +kernel
theorem dX9_house_47 : decode cX9_house 47 = .ok (.goto 37, 3) := by decide +kernel
theorem dX9_house_50 : decode cX9_house 50 = .ok (.iload_n 2, 1) := by decide +kernel
theorem dX9_house_51 : decode cX9_house 51 = .ok (.iconst 2, 1) := by decide +kernel
theorem dX9_house_52 : decode cX9_house 52 = .ok (.if_icmp .ne 12, 3) := by decide +kernel
theorem dX9_house_55 : decode cX9_house 55 = .ok (.aload_n 0, 1) := by decide +kernel
theorem dX9_house_56 : decode cX9_house 56 = .ok (.getfield 89, 3) := by decide +kernel
theorem dX9_house_59 : decode cX9_house 59 = .ok (.iload_n 1, 1) := by decide +kernel
theorem dX9_house_60 : decode cX9_house 60 = .ok (.iaload, 1) := by decide +kernel
theorem dX9_house_61 : decode cX9_house 61 = .ok (.goto 23, 3) := by decide +kernel
theorem dX9_house_64 : decode cX9_house 64 = .ok (.iload_n 2, 1) := by decide +kernel
theorem dX9_house_65 : decode cX9_house 65 = .ok (.iconst 3, 1) := by decide +kernel
theorem dX9_house_66 : decode cX9_house 66 = .ok (.if_icmp .ne 12, 3) := by decide +kernel
theorem dX9_house_69 : decode cX9_house 69 = .ok (.aload_n 0, 1) := by decide +kernel
theorem dX9_house_70 : decode cX9_house 70 = .ok (.getfield 92, 3) := by decide +kernel
theorem dX9_house_73 : decode cX9_house 73 = .ok (.iload_n 1, 1) := by decide +kernel
theorem dX9_house_74 : decode cX9_house 74 = .ok (.iaload, 1) := by decide +kernel
theorem dX9_house_75 : decode cX9_house 75 = .ok (.goto 9, 3) := by decide +kernel
theorem dX9_house_78 : decode cX9_house 78 = .ok (.aload_n 0, 1) := by decide +kernel
theorem dX9_house_79 : decode cX9_house 79 = .ok (.getfield 95, 3) := by decide +kernel
theorem dX9_house_82 : decode cX9_house 82 = .ok (.iload_n 1, 1) := by decide +kernel
theorem dX9_house_83 : decode cX9_house 83 = .ok (.iaload, 1) := by decide +kernel
theorem dX9_house_84 : decode cX9_house 84 = .ok (.ireturn, 1) := by decide +kernel
theorem dX9_person_0 : decode cX9_person 0 = .ok (.iload_n 1, 1) := by decide +kernel
theorem dX9_person_1 : decode cX9_person 1 = .ok (.ifCond .lt 20, 3) := by decide +kernel
theorem dX9_person_4 : decode cX9_person 4 = .ok (.iload_n 1, 1) := by decide +kernel
theorem dX9_person_5 : decode cX9_person 5 = .ok (.aload_n 0, 1) := by decide +kernel
theorem dX9_person_6 : decode cX9_person 6 = .ok (.getfield 298, 3) := by decide +kernel
theorem dX9_person_9 : decode cX9_person 9 = .ok (.if_icmp .ge 12, 3) := by decide +kernel
theorem dX9_person_12 : decode cX9_person 12 = .ok (.iload_n 2, 1) := by decide +kernel
theorem dX9_person_13 : decode cX9_person 13 = .ok (.ifCond .lt 8, 3) := by decide +kernel
theorem dX9_person_16 : decode cX9_person 16 = .ok (.iload_n 2, 1) := by decide +kernel
theorem dX9_person_17 : decode cX9_person 17 = .ok (.iconst 4, 1) := by decide +kernel
theorem dX9_person_18 : decode cX9_person 18 = .ok (.if_icmp .le 5, 3) := by decide +kernel
theorem dX9_person_21 : decode cX9_person 21 = .ok (.iconst (-1), 1) := by decide +kernel
theorem dX9_person_22 : decode cX9_person 22 = .ok (.ireturn, 1) := by decide +kernel
theorem dX9_person_23 : decode cX9_person 23 = .ok (.iload_n 2, 1) := by decide +kernel
theorem dX9_person_24 : decode cX9_person 24 = .ok (.ifCond .ne 12, 3) := by decide +kernel
theorem dX9_person_27 : decode cX9_person 27 = .ok (.aload_n 0, 1) := by decide +kernel
theorem dX9_person_28 : decode cX9_person 28 = .ok (.getfield 98, 3) := by decide +kernel
theorem dX9_person_31 : decode cX9_person 31 = .ok (.iload_n 1, 1) := by decide +kernel
theorem dX9_person_32 : decode cX9_person 32 = .ok (.iaload, 1) := by decide +kernel
theorem dX9_person_33 : decode cX9_person 33 = .ok (.goto 51, 3) := by decide +kernel
theorem dX9_person_36 : decode cX9_person 36 = .ok (.iload_n 2, 1) := by decide +kernel
theorem dX9_person_37 : decode cX9_person 37 = .ok (.iconst 1, 1) := by decide +kernel
theorem dX9_person_38 : decode cX9_person 38 = .ok (.if_icmp .ne 12, 3) := by decide +kernel
theorem dX9_person_41 : decode cX9_person 41 = .ok (.aload_n 0, 1) := by decide +kernel
theorem dX9_person_42 : decode cX9_person 42 = .ok (.getfield 101, 3) := by decide +kernel
theorem dX9_person_45 : decode cX9_person 45 = .ok (.iload_n 1, 1) := by decide +kernel
theorem dX9_person_46 : decode cX9_person 46 = .ok (.iaload, 1) := by decide +kernel
theorem dX9_person_47 : decode cX9_person 47 = .ok (.goto 37, 3) := by decide +kernel
theorem dX9_person_50 : decode cX9_person 50 = .ok (.iload_n 2, 1) := by decide +kernel
theorem dX9_person_51 : decode cX9_person 51 = .ok (.iconst 2, 1) := by decide +kernel
theorem dX9_person_52 : decode cX9_person 52 = .ok (.if_icmp .ne 12, 3) := by decide +kernel
theorem dX9_person_55 : decode cX9_person 55 = .ok (.aload_n 0, 1) := by decide +kernel
theorem dX9_person_56 : decode cX9_person 56 = .ok (.getfield 104, 3) := by decide +kernel
theorem dX9_person_59 : decode cX9_person 59 = .ok (.iload_n 1, 1) := by decide +kernel
theorem dX9_person_60 : decode cX9_person 60 = .ok (.iaload, 1) := by decide +kernel
theorem dX9_person_61 : decode cX9_person 61 = .ok (.goto 23, 3) := by decide +kernel
theorem dX9_person_64 : decode cX9_person 64 = .ok (.iload_n 2, 1) := by decide +kernel
theorem dX9_person_65 : decode cX9_person 65 = .ok (.iconst 3, 1) := by decide +kernel
theorem dX9_person_66 : decode cX9_person 66 = .ok (.if_icmp .ne 12, 3) := by decide +kernel
theorem dX9_person_69 : decode cX9_person 69 = .ok (.aload_n 0, 1) := by decide +kernel
theorem dX9_person_70 : decode cX9_person 70 = .ok (.getfield 107, 3) := by decide +kernel
theorem dX9_person_73 : decode cX9_person 73 = .ok (.iload_n 1, 1) := by decide +kernel
theorem dX9_person_74 : decode cX9_person 74 = .ok (.iaload, 1) := by decide +kernel
theorem dX9_person_75 : decode cX9_person 75 = .ok (.goto 9, 3) := by decide +kernel
theorem dX9_person_78 : decode cX9_person 78 = .ok (.aload_n 0, 1) := by decide +kernel
theorem dX9_person_79 : decode cX9_person 79 = .ok (.getfield 110, 3) := by decide +kernel
theorem dX9_person_82 : decode cX9_person 82 = .ok (.iload_n 1, 1) := by decide +kernel
theorem dX9_person_83 : decode cX9_person 83 = .ok (.iaload, 1) := by decide +kernel
theorem dX9_person_84 : decode cX9_person 84 = .ok (.ireturn, 1) := by decide +kernel
theorem dX9_sign_0 : decode cX9_sign 0 = .ok (.iload_n 1, 1) := by decide +kernel
theorem dX9_sign_1 : decode cX9_sign 1 = .ok (.ifCond .lt 43, 3) := by decide +kernel
theorem dX9_sign_4 : decode cX9_sign 4 = .ok (.iload_n 1, 1) := by decide +kernel
theorem dX9_sign_5 : decode cX9_sign 5 = .ok (.aload_n 0, 1) := by decide +kernel
theorem dX9_sign_6 : decode cX9_sign 6 = .ok (.getfield 298, 3) := by decide +kernel
theorem dX9_sign_9 : decode cX9_sign 9 = .ok (.if_icmp .ge 35, 3) := by decide +kernel
theorem dX9_sign_12 : decode cX9_sign 12 = .ok (.iload_n 2, 1) := by decide +kernel
theorem dX9_sign_13 : decode cX9_sign 13 = .ok (.ifCond .lt 31, 3) := by decide +kernel
theorem dX9_sign_16 : decode cX9_sign 16 = .ok (.iload_n 2, 1) := by decide +kernel
theorem dX9_sign_17 : decode cX9_sign 17 = .ok (.aload_n 0, 1) := by decide +kernel
theorem dX9_sign_18 : decode cX9_sign 18 = .ok (.getfield 107, 3) := by decide +kernel
theorem dX9_sign_21 : decode cX9_sign 21 = .ok (.iload_n 1, 1) := by decide +kernel
theorem dX9_sign_22 : decode cX9_sign 22 = .ok (.iaload, 1) := by decide +kernel
theorem dX9_sign_23 : decode cX9_sign 23 = .ok (.if_icmp .ge 21, 3) := by decide +kernel
theorem dX9_sign_26 : decode cX9_sign 26 = .ok (.aload_n 0, 1) := by decide +kernel
theorem dX9_sign_27 : decode cX9_sign 27 = .ok (.getfield 113, 3) := by decide +kernel
theorem dX9_sign_30 : decode cX9_sign 30 = .ok (.bipush 30, 2) := by decide +kernel
theorem dX9_sign_32 : decode cX9_sign 32 = .ok (.iload_n 1, 1) := by decide +kernel
theorem dX9_sign_33 : decode cX9_sign 33 = .ok (.imul, 1) := by decide +kernel
theorem dX9_sign_34 : decode cX9_sign 34 = .ok (.iload_n 2, 1) := by decide +kernel
theorem dX9_sign_35 : decode cX9_sign 35 = .ok (.iadd, 1) := by decide +kernel
theorem dX9_sign_36 : decode cX9_sign 36 = .ok (.baload, 1) := by decide +kernel
theorem dX9_sign_37 : decode cX9_sign 37 = .ok (.sipush 255, 3) := by decide +kernel
theorem dX9_sign_40 : decode cX9_sign 40 = .ok (.iand, 1) := by decide +kernel
theorem dX9_sign_41 : decode cX9_sign 41 = .ok (.goto 4, 3) := by decide +kernel
theorem dX9_sign_44 : decode cX9_sign 44 = .ok (.iconst 0, 1) := by decide +kernel
theorem dX9_sign_45 : decode cX9_sign 45 = .ok (.ireturn, 1) := by decide +kernel
set_option maxRecDepth 20000 in
theorem ggX9_named_X9_byteOf : GoodIn wsX9_named wsX9_byteOf := goodIn_r _ [7] (by decide +kernel) (by decide +kernel)
set_option maxRecDepth 20000 in
theorem gX9_named_X9_byteOf : GoodIn wsX9_named (va_wsS RX9 316 yX9_byteOf wsX9_byteOf) := goodIn_app (goodIn_of _ (by decide +kernel)) ggX9_named_X9_byteOf
theorem dX9_named_0 : decode cX9_named 0 = .ok (.iconst 0, 1) := by decide +kernel
theorem dX9_named_1 : decode cX9_named 1 = .ok (.istore 5, 2) := by decide +kernel
theorem dX9_named_3 : decode cX9_named 3 = .ok (.iload 5, 2) := by decide +kernel
theorem dX9_named_5 : decode cX9_named 5 = .ok (.bipush 16, 2) := by decide +kernel
theorem dX9_named_7 : decode cX9_named 7 = .ok (.if_icmp .ge 22, 3) := by decide +kernel
theorem dX9_named_10 : decode cX9_named 10 = .ok (.iload_n 1, 1) := by decide +kernel
theorem dX9_named_11 : decode cX9_named 11 = .ok (.iload_n 2, 1) := by decide +kernel
theorem dX9_named_12 : decode cX9_named 12 = .ok (.iload_n 3, 1) := by decide +kernel
theorem dX9_named_13 : decode cX9_named 13 = .ok (.iload 4, 2) := by decide +kernel
theorem dX9_named_15 : decode cX9_named 15 = .ok (.iload 5, 2) := by decide +kernel
theorem dX9_named_17 : decode cX9_named 17 = .ok (.invokestatic 316, 3) := by decide +kernel
theorem dX9_named_20 : decode cX9_named 20 = .ok (.ifCond .eq 9, 3) := by decide +kernel
theorem dX9_named_23 : decode cX9_named 23 = .ok (.iinc 5 1, 3) := by decide +kernel
theorem dX9_named_26 : decode cX9_named 26 = .ok (.goto (-23), 3) := by decide +kernel
theorem dX9_named_29 : decode cX9_named 29 = .ok (.iconst 0, 1) := by decide +kernel
theorem dX9_named_30 : decode cX9_named 30 = .ok (.istore 6, 2) := by decide +kernel
theorem dX9_named_32 : decode cX9_named 32 = .ok (.iconst 0, 1) := by decide +kernel
theorem dX9_named_33 : decode cX9_named 33 = .ok (.istore 7, 2) := by decide +kernel
theorem dX9_named_35 : decode cX9_named 35 = .ok (.iload 7, 2) := by decide +kernel
theorem dX9_named_37 : decode cX9_named 37 = .ok (.aload_n 0, 1) := by decide +kernel
theorem dX9_named_38 : decode cX9_named 38 = .ok (.getfield 298, 3) := by decide +kernel
theorem dX9_named_41 : decode cX9_named 41 = .ok (.if_icmp .ge 106, 3) := by decide +kernel
theorem dX9_named_44 : decode cX9_named 44 = .ok (.iload 5, 2) := by decide +kernel
theorem dX9_named_46 : decode cX9_named 46 = .ok (.ifCond .le 101, 3) := by decide +kernel
theorem dX9_named_49 : decode cX9_named 49 = .ok (.aload_n 0, 1) := by decide +kernel
theorem dX9_named_50 : decode cX9_named 50 = .ok (.getfield 107, 3) := by decide +kernel
theorem dX9_named_53 : decode cX9_named 53 = .ok (.iload 7, 2) := by decide +kernel
theorem dX9_named_55 : decode cX9_named 55 = .ok (.iaload, 1) := by decide +kernel
theorem dX9_named_56 : decode cX9_named 56 = .ok (.iload 5, 2) := by decide +kernel
theorem dX9_named_58 : decode cX9_named 58 = .ok (.if_icmp .ne 7, 3) := by decide +kernel
theorem dX9_named_61 : decode cX9_named 61 = .ok (.iconst 1, 1) := by decide +kernel
theorem dX9_named_62 : decode cX9_named 62 = .ok (.goto 4, 3) := by decide +kernel
theorem dX9_named_65 : decode cX9_named 65 = .ok (.iconst 0, 1) := by decide +kernel
theorem dX9_named_66 : decode cX9_named 66 = .ok (.istore 8, 2) := by decide +kernel
theorem dX9_named_68 : decode cX9_named 68 = .ok (.iconst 0, 1) := by decide +kernel
theorem dX9_named_69 : decode cX9_named 69 = .ok (.istore 9, 2) := by decide +kernel
theorem dX9_named_71 : decode cX9_named 71 = .ok (.iload 9, 2) := by decide +kernel
theorem dX9_named_73 : decode cX9_named 73 = .ok (.iload 5, 2) := by decide +kernel
theorem dX9_named_75 : decode cX9_named 75 = .ok (.if_icmp .ge 51, 3) := by decide +kernel
theorem dX9_named_78 : decode cX9_named 78 = .ok (.iload 8, 2) := by decide +kernel
theorem dX9_named_80 : decode cX9_named 80 = .ok (.ifCond .eq 46, 3) := by decide +kernel
theorem dX9_named_83 : decode cX9_named 83 = .ok (.aload_n 0, 1) := by decide +kernel
theorem dX9_named_84 : decode cX9_named 84 = .ok (.getfield 113, 3) := by decide +kernel
theorem dX9_named_87 : decode cX9_named 87 = .ok (.bipush 30, 2) := by decide +kernel
theorem dX9_named_89 : decode cX9_named 89 = .ok (.iload 7, 2) := by decide +kernel
theorem dX9_named_91 : decode cX9_named 91 = .ok (.imul, 1) := by decide +kernel
theorem dX9_named_92 : decode cX9_named 92 = .ok (.iload 9, 2) := by decide +kernel
theorem dX9_named_94 : decode cX9_named 94 = .ok (.iadd, 1) := by decide +kernel
theorem dX9_named_95 : decode cX9_named 95 = .ok (.baload, 1) := by decide +kernel
theorem dX9_named_96 : decode cX9_named 96 = .ok (.sipush 255, 3) := by decide +kernel
theorem dX9_named_99 : decode cX9_named 99 = .ok (.iand, 1) := by decide +kernel
theorem dX9_named_100 : decode cX9_named 100 = .ok (.iload_n 1, 1) := by decide +kernel
theorem dX9_named_101 : decode cX9_named 101 = .ok (.iload_n 2, 1) := by decide +kernel
theorem dX9_named_102 : decode cX9_named 102 = .ok (.iload_n 3, 1) := by decide +kernel
theorem dX9_named_103 : decode cX9_named 103 = .ok (.iload 4, 2) := by decide +kernel
theorem dX9_named_105 : decode cX9_named 105 = .ok (.iload 9, 2) := by decide +kernel
theorem dX9_named_107 : decode cX9_named 107 = .ok (.invokestatic 316, 3) := by decide +kernel
theorem dX9_named_110 : decode cX9_named 110 = .ok (.if_icmp .ne 7, 3) := by decide +kernel
theorem dX9_named_113 : decode cX9_named 113 = .ok (.iconst 1, 1) := by decide +kernel
theorem dX9_named_114 : decode cX9_named 114 = .ok (.goto 4, 3) := by decide +kernel
theorem dX9_named_117 : decode cX9_named 117 = .ok (.iconst 0, 1) := by decide +kernel
theorem dX9_named_118 : decode cX9_named 118 = .ok (.istore 8, 2) := by decide +kernel
theorem dX9_named_120 : decode cX9_named 120 = .ok (.iinc 9 1, 3) := by decide +kernel
theorem dX9_named_123 : decode cX9_named 123 = .ok (.goto (-52), 3) := by decide +kernel
theorem dX9_named_126 : decode cX9_named 126 = .ok (.iload 6, 2) := by decide +kernel
theorem dX9_named_128 : decode cX9_named 128 = .ok (.iload 8, 2) := by decide +kernel
theorem dX9_named_130 : decode cX9_named 130 = .ok (.ifCond .eq 7, 3) := by decide +kernel
theorem dX9_named_133 : decode cX9_named 133 = .ok (.iconst 1, 1) := by decide +kernel
theorem dX9_named_134 : decode cX9_named 134 = .ok (.goto 4, 3) := by decide +kernel
theorem dX9_named_137 : decode cX9_named 137 = .ok (.iconst 0, 1) := by decide +kernel
theorem dX9_named_138 : decode cX9_named 138 = .ok (.iadd, 1) := by decide +kernel
theorem dX9_named_139 : decode cX9_named 139 = .ok (.istore 6, 2) := by decide +kernel
theorem dX9_named_141 : decode cX9_named 141 = .ok (.iinc 7 1, 3) := by decide +kernel
theorem dX9_named_144 : decode cX9_named 144 = .ok (.goto (-109), 3) := by decide +kernel
theorem dX9_named_147 : decode cX9_named 147 = .ok (.iload 6, 2) := by decide +kernel
theorem dX9_named_149 : decode cX9_named 149 = .ok (.ireturn, 1) := by decide +kernel
theorem dX9_byteOf_0 : decode cX9_byteOf 0 = .ok (.iload 4, 2) := by decide +kernel
theorem dX9_byteOf_2 : decode cX9_byteOf 2 = .ok (.iconst 4, 1) := by decide +kernel
theorem dX9_byteOf_3 : decode cX9_byteOf 3 = .ok (.if_icmp .ge 7, 3) := by decide +kernel
theorem dX9_byteOf_6 : decode cX9_byteOf 6 = .ok (.iload_n 0, 1) := by decide +kernel
theorem dX9_byteOf_7 : decode cX9_byteOf 7 = .ok (.goto 26, 3) := by decide +kernel
theorem dX9_byteOf_10 : decode cX9_byteOf 10 = .ok (.iload 4, 2) := by decide +kernel
theorem dX9_byteOf_12 : decode cX9_byteOf 12 = .ok (.bipush 8, 2) := by decide +kernel
theorem dX9_byteOf_14 : decode cX9_byteOf 14 = .ok (.if_icmp .ge 7, 3) := by decide +kernel
theorem dX9_byteOf_17 : decode cX9_byteOf 17 = .ok (.iload_n 1, 1) := by decide +kernel
theorem dX9_byteOf_18 : decode cX9_byteOf 18 = .ok (.goto 15, 3) := by decide +kernel
theorem dX9_byteOf_21 : decode cX9_byteOf 21 = .ok (.iload 4, 2) := by decide +kernel
theorem dX9_byteOf_23 : decode cX9_byteOf 23 = .ok (.bipush 12, 2) := by decide +kernel
theorem dX9_byteOf_25 : decode cX9_byteOf 25 = .ok (.if_icmp .ge 7, 3) := by decide +kernel
theorem dX9_byteOf_28 : decode cX9_byteOf 28 = .ok (.iload_n 2, 1) := by decide +kernel
theorem dX9_byteOf_29 : decode cX9_byteOf 29 = .ok (.goto 4, 3) := by decide +kernel
theorem dX9_byteOf_32 : decode cX9_byteOf 32 = .ok (.iload_n 3, 1) := by decide +kernel
theorem dX9_byteOf_33 : decode cX9_byteOf 33 = .ok (.istore 5, 2) := by decide +kernel
theorem dX9_byteOf_35 : decode cX9_byteOf 35 = .ok (.iload 5, 2) := by decide +kernel
theorem dX9_byteOf_37 : decode cX9_byteOf 37 = .ok (.bipush 24, 2) := by decide +kernel
theorem dX9_byteOf_39 : decode cX9_byteOf 39 = .ok (.bipush 8, 2) := by decide +kernel
theorem dX9_byteOf_41 : decode cX9_byteOf 41 = .ok (.iload 4, 2) := by decide +kernel
theorem dX9_byteOf_43 : decode cX9_byteOf 43 = .ok (.iconst 4, 1) := by decide +kernel
theorem dX9_byteOf_44 : decode cX9_byteOf 44 = .ok (.irem, 1) := by decide +kernel
theorem dX9_byteOf_45 : decode cX9_byteOf 45 = .ok (.imul, 1) := by decide +kernel
theorem dX9_byteOf_46 : decode cX9_byteOf 46 = .ok (.isub, 1) := by decide +kernel
theorem dX9_byteOf_47 : decode cX9_byteOf 47 = .ok (.ishr, 1) := by decide +kernel
theorem dX9_byteOf_48 : decode cX9_byteOf 48 = .ok (.sipush 255, 3) := by decide +kernel
theorem dX9_byteOf_51 : decode cX9_byteOf 51 = .ok (.iand, 1) := by decide +kernel
theorem dX9_byteOf_52 : decode cX9_byteOf 52 = .ok (.ireturn, 1) := by decide +kernel
set_option maxRecDepth 20000 in
theorem ggX9_audit_X9_sum_1 : GoodIn wsX9_audit ([.fieldLink RX9 295 "CensusDeskModel" "booked" "I", .fieldLink RX9 298 "CensusDeskModel" "bookedPersons" "I", .fieldLink RX9 310 "CensusDeskModel" "sheetsBooked" "I", .fieldLink RX9 292 "CensusDeskModel" "sheetsRejected" "I", .fieldLink RX9 304 "CensusDeskModel" "sheetsWithoutRoom" "I", .fieldLink RX9 98 "CensusDeskModel" "bSex" "[I", .fieldLink RX9 101 "CensusDeskModel" "bAge" "[I"] : List Cond) := goodIn_r _ [1, 3, 7, 8, 9, 4, 5] (by decide +kernel) (by decide +kernel)
set_option maxRecDepth 20000 in
theorem ggX9_audit_X9_sum_2 : GoodIn wsX9_audit wsX90 := goodIn_r _ [16, 17, 18, 19, 20, 21, 22, 23, 24, 25, 26, 27, 28, 29, 30, 31, 32, 33, 34, 35, 36, 37, 38, 39, 40, 41, 42, 43, 44, 45, 46, 47, 48, 49, 50, 51, 52, 53, 54, 55, 56, 57, 58, 59, 60, 61, 62, 63, 64, 65, 66, 67, 68, 69, 70, 71, 72, 73, 74, 75, 76, 77, 78, 79, 80, 81, 82, 83, 84] (by decide +kernel) (by decide +kernel)
set_option maxRecDepth 20000 in
theorem ggX9_audit_X9_sum_0 : GoodIn wsX9_audit [.code yX9_sum cX9_sum 4 (some .int)] := goodIn_r _ [15] (by decide +kernel) (by decide +kernel)
theorem ggX9_audit_X9_sum : GoodIn wsX9_audit wsX9_sum := goodIn_k ggX9_audit_X9_sum_0 (goodIn_app ggX9_audit_X9_sum_1 ggX9_audit_X9_sum_2)
set_option maxRecDepth 20000 in
theorem gX9_audit_X9_sum : GoodIn wsX9_audit (wsV RX9 320 RX9 yX9_sum wsX9_sum) := goodIn_app (goodIn_of _ (by decide +kernel)) ggX9_audit_X9_sum
theorem dX9_audit_0 : decode cX9_audit 0 = .ok (.iconst 0, 1) := by decide +kernel
theorem dX9_audit_1 : decode cX9_audit 1 = .ok (.istore_n 1, 1) := by decide +kernel
theorem dX9_audit_2 : decode cX9_audit 2 = .ok (.iconst 0, 1) := by decide +kernel
theorem dX9_audit_3 : decode cX9_audit 3 = .ok (.istore_n 2, 1) := by decide +kernel
theorem dX9_audit_4 : decode cX9_audit 4 = .ok (.iload_n 2, 1) := by decide +kernel
theorem dX9_audit_5 : decode cX9_audit 5 = .ok (.aload_n 0, 1) := by decide +kernel
theorem dX9_audit_6 : decode cX9_audit 6 = .ok (.getfield 295, 3) := by decide +kernel
theorem dX9_audit_9 : decode cX9_audit 9 = .ok (.if_icmp .ge 18, 3) := by decide +kernel
theorem dX9_audit_12 : decode cX9_audit 12 = .ok (.iload_n 1, 1) := by decide +kernel
theorem dX9_audit_13 : decode cX9_audit 13 = .ok (.aload_n 0, 1) := by decide +kernel
theorem dX9_audit_14 : decode cX9_audit 14 = .ok (.getfield 89, 3) := by decide +kernel
theorem dX9_audit_17 : decode cX9_audit 17 = .ok (.iload_n 2, 1) := by decide +kernel
theorem dX9_audit_18 : decode cX9_audit 18 = .ok (.iaload, 1) := by decide +kernel
theorem dX9_audit_19 : decode cX9_audit 19 = .ok (.iadd, 1) := by decide +kernel
theorem dX9_audit_20 : decode cX9_audit 20 = .ok (.istore_n 1, 1) := by decide +kernel
theorem dX9_audit_21 : decode cX9_audit 21 = .ok (.iinc 2 1, 3) := by decide +kernel
theorem dX9_audit_24 : decode cX9_audit 24 = .ok (.goto (-20), 3) := by decide +kernel
theorem dX9_audit_27 : decode cX9_audit 27 = .ok (.iconst 0, 1) := by decide +kernel
theorem dX9_audit_28 : decode cX9_audit 28 = .ok (.istore_n 2, 1) := by decide +kernel
theorem dX9_audit_29 : decode cX9_audit 29 = .ok (.iconst 0, 1) := by decide +kernel
theorem dX9_audit_30 : decode cX9_audit 30 = .ok (.istore_n 3, 1) := by decide +kernel
theorem dX9_audit_31 : decode cX9_audit 31 = .ok (.iconst 0, 1) := by decide +kernel
theorem dX9_audit_32 : decode cX9_audit 32 = .ok (.istore 4, 2) := by decide +kernel
theorem dX9_audit_34 : decode cX9_audit 34 = .ok (.iload 4, 2) := by decide +kernel
theorem dX9_audit_36 : decode cX9_audit 36 = .ok (.aload_n 0, 1) := by decide +kernel
theorem dX9_audit_37 : decode cX9_audit 37 = .ok (.getfield 298, 3) := by decide +kernel
theorem dX9_audit_40 : decode cX9_audit 40 = .ok (.if_icmp .ge 51, 3) := by decide +kernel
theorem dX9_audit_43 : decode cX9_audit 43 = .ok (.iload_n 2, 1) := by decide +kernel
theorem dX9_audit_44 : decode cX9_audit 44 = .ok (.aload_n 0, 1) := by decide +kernel
theorem dX9_audit_45 : decode cX9_audit 45 = .ok (.getfield 98, 3) := by decide +kernel
theorem dX9_audit_48 : decode cX9_audit 48 = .ok (.iload 4, 2) := by decide +kernel
theorem dX9_audit_50 : decode cX9_audit 50 = .ok (.iaload, 1) := by decide +kernel
theorem dX9_audit_51 : decode cX9_audit 51 = .ok (.ifCond .ge 7, 3) := by decide +kernel
theorem dX9_audit_54 : decode cX9_audit 54 = .ok (.iconst 1, 1) := by decide +kernel
theorem dX9_audit_55 : decode cX9_audit 55 = .ok (.goto 4, 3) := by decide +kernel
theorem dX9_audit_58 : decode cX9_audit 58 = .ok (.iconst 0, 1) := by decide +kernel
theorem dX9_audit_59 : decode cX9_audit 59 = .ok (.iadd, 1) := by decide +kernel
theorem dX9_audit_60 : decode cX9_audit 60 = .ok (.istore_n 2, 1) := by decide +kernel
theorem dX9_audit_61 : decode cX9_audit 61 = .ok (.iload_n 3, 1) := by decide +kernel
theorem dX9_audit_62 : decode cX9_audit 62 = .ok (.aload_n 0, 1) := by decide +kernel
theorem dX9_audit_63 : decode cX9_audit 63 = .ok (.getfield 101, 3) := by decide +kernel
theorem dX9_audit_66 : decode cX9_audit 66 = .ok (.iload 4, 2) := by decide +kernel
theorem dX9_audit_68 : decode cX9_audit 68 = .ok (.iaload, 1) := by decide +kernel
theorem dX9_audit_69 : decode cX9_audit 69 = .ok (.ifCond .lt 13, 3) := by decide +kernel
theorem dX9_audit_72 : decode cX9_audit 72 = .ok (.aload_n 0, 1) := by decide +kernel
theorem dX9_audit_73 : decode cX9_audit 73 = .ok (.getfield 101, 3) := by decide +kernel
theorem dX9_audit_76 : decode cX9_audit 76 = .ok (.iload 4, 2) := by decide +kernel
theorem dX9_audit_78 : decode cX9_audit 78 = .ok (.iaload, 1) := by decide +kernel
theorem dX9_audit_79 : decode cX9_audit 79 = .ok (.goto 4, 3) := by decide +kernel
theorem dX9_audit_82 : decode cX9_audit 82 = .ok (.iconst 0, 1) := by decide +kernel
theorem dX9_audit_83 : decode cX9_audit 83 = .ok (.iadd, 1) := by decide +kernel
theorem dX9_audit_84 : decode cX9_audit 84 = .ok (.istore_n 3, 1) := by decide +kernel
theorem dX9_audit_85 : decode cX9_audit 85 = .ok (.iinc 4 1, 3) := by decide +kernel
theorem dX9_audit_88 : decode cX9_audit 88 = .ok (.goto (-54), 3) := by decide +kernel
theorem dX9_audit_91 : decode cX9_audit 91 = .ok (.iload_n 1, 1) := by decide +kernel
theorem dX9_audit_92 : decode cX9_audit 92 = .ok (.aload_n 0, 1) := by decide +kernel
theorem dX9_audit_93 : decode cX9_audit 93 = .ok (.getfield 298, 3) := by decide +kernel
theorem dX9_audit_96 : decode cX9_audit 96 = .ok (.if_icmp .ne 7, 3) := by decide +kernel
theorem dX9_audit_99 : decode cX9_audit 99 = .ok (.iconst 0, 1) := by decide +kernel
theorem dX9_audit_100 : decode cX9_audit 100 = .ok (.goto 4, 3) := by decide +kernel
theorem dX9_audit_103 : decode cX9_audit 103 = .ok (.iconst 1, 1) := by decide +kernel
theorem dX9_audit_104 : decode cX9_audit 104 = .ok (.istore 4, 2) := by decide +kernel
theorem dX9_audit_106 : decode cX9_audit 106 = .ok (.iload 4, 2) := by decide +kernel
theorem dX9_audit_108 : decode cX9_audit 108 = .ok (.aload_n 0, 1) := by decide +kernel
theorem dX9_audit_109 : decode cX9_audit 109 = .ok (.iconst 2, 1) := by decide +kernel
theorem dX9_audit_110 : decode cX9_audit 110 = .ok (.invokevirtual 320, 3) := by decide +kernel
theorem dX9_audit_113 : decode cX9_audit 113 = .ok (.aload_n 0, 1) := by decide +kernel
theorem dX9_audit_114 : decode cX9_audit 114 = .ok (.iconst 3, 1) := by decide +kernel
theorem dX9_audit_115 : decode cX9_audit 115 = .ok (.invokevirtual 320, 3) := by decide +kernel
theorem dX9_audit_118 : decode cX9_audit 118 = .ok (.iadd, 1) := by decide +kernel
theorem dX9_audit_119 : decode cX9_audit 119 = .ok (.iload_n 2, 1) := by decide +kernel
theorem dX9_audit_120 : decode cX9_audit 120 = .ok (.iadd, 1) := by decide +kernel
theorem dX9_audit_121 : decode cX9_audit 121 = .ok (.aload_n 0, 1) := by decide +kernel
theorem dX9_audit_122 : decode cX9_audit 122 = .ok (.getfield 298, 3) := by decide +kernel
theorem dX9_audit_125 : decode cX9_audit 125 = .ok (.if_icmp .ne 7, 3) := by decide +kernel
theorem dX9_audit_128 : decode cX9_audit 128 = .ok (.iconst 0, 1) := by decide +kernel
theorem dX9_audit_129 : decode cX9_audit 129 = .ok (.goto 4, 3) := by decide +kernel
theorem dX9_audit_132 : decode cX9_audit 132 = .ok (.iconst 1, 1) := by decide +kernel
theorem dX9_audit_133 : decode cX9_audit 133 = .ok (.iadd, 1) := by decide +kernel
theorem dX9_audit_134 : decode cX9_audit 134 = .ok (.istore 4, 2) := by decide +kernel
theorem dX9_audit_136 : decode cX9_audit 136 = .ok (.iload 4, 2) := by decide +kernel
theorem dX9_audit_138 : decode cX9_audit 138 = .ok (.iload_n 3, 1) := by decide +kernel
theorem dX9_audit_139 : decode cX9_audit 139 = .ok (.aload_n 0, 1) := by decide +kernel
theorem dX9_audit_140 : decode cX9_audit 140 = .ok (.iconst 4, 1) := by decide +kernel
theorem dX9_audit_141 : decode cX9_audit 141 = .ok (.invokevirtual 320, 3) := by decide +kernel
theorem dX9_audit_144 : decode cX9_audit 144 = .ok (.if_icmp .ne 7, 3) := by decide +kernel
theorem dX9_audit_147 : decode cX9_audit 147 = .ok (.iconst 0, 1) := by decide +kernel
theorem dX9_audit_148 : decode cX9_audit 148 = .ok (.goto 4, 3) := by decide +kernel
theorem dX9_audit_151 : decode cX9_audit 151 = .ok (.iconst 1, 1) := by decide +kernel
theorem dX9_audit_152 : decode cX9_audit 152 = .ok (.iadd, 1) := by decide +kernel
theorem dX9_audit_153 : decode cX9_audit 153 = .ok (.istore 4, 2) := by decide +kernel
theorem dX9_audit_155 : decode cX9_audit 155 = .ok (.iload 4, 2) := by decide +kernel
theorem dX9_audit_157 : decode cX9_audit 157 = .ok (.aload_n 0, 1) := by decide +kernel
theorem dX9_audit_158 : decode cX9_audit 158 = .ok (.getfield 307, 3) := by decide +kernel
theorem dX9_audit_161 : decode cX9_audit 161 = .ok (.aload_n 0, 1) := by decide +kernel
theorem dX9_audit_162 : decode cX9_audit 162 = .ok (.getfield 310, 3) := by decide +kernel
theorem dX9_audit_165 : decode cX9_audit 165 = .ok (.aload_n 0, 1) := by decide +kernel
theorem dX9_audit_166 : decode cX9_audit 166 = .ok (.getfield 292, 3) := by decide +kernel
theorem dX9_audit_169 : decode cX9_audit 169 = .ok (.iadd, 1) := by decide +kernel
theorem dX9_audit_170 : decode cX9_audit 170 = .ok (.aload_n 0, 1) := by decide +kernel
theorem dX9_audit_171 : decode cX9_audit 171 = .ok (.getfield 304, 3) := by decide +kernel
theorem dX9_audit_174 : decode cX9_audit 174 = .ok (.iadd, 1) := by decide +kernel
theorem dX9_audit_175 : decode cX9_audit 175 = .ok (.aload_n 0, 1) := by decide +kernel
theorem dX9_audit_176 : decode cX9_audit 176 = .ok (.getfield 120, 3) := by decide +kernel
theorem dX9_audit_179 : decode cX9_audit 179 = .ok (.ifCond .eq 7, 3) := by decide +kernel
theorem dX9_audit_182 : decode cX9_audit 182 = .ok (.iconst 1, 1) := by decide +kernel
theorem dX9_audit_183 : decode cX9_audit 183 = .ok (.goto 4, 3) := by decide +kernel
theorem dX9_audit_186 : decode cX9_audit 186 = .ok (.iconst 0, 1) := by decide +kernel
theorem dX9_audit_187 : decode cX9_audit 187 = .ok (.iadd, 1) := by decide +kernel
theorem dX9_audit_188 : decode cX9_audit 188 = .ok (.if_icmp .ne 7, 3) := by decide +kernel
theorem dX9_audit_191 : decode cX9_audit 191 = .ok (.iconst 0, 1) := by decide +kernel
theorem dX9_audit_192 : decode cX9_audit 192 = .ok (.goto 4, 3) := by decide +kernel
theorem dX9_audit_195 : decode cX9_audit 195 = .ok (.iconst 1, 1) := by decide +kernel
theorem dX9_audit_196 : decode cX9_audit 196 = .ok (.iadd, 1) := by decide +kernel
theorem dX9_audit_197 : decode cX9_audit 197 = .ok (.istore 4, 2) := by decide +kernel
theorem dX9_audit_199 : decode cX9_audit 199 = .ok (.iload 4, 2) := by decide +kernel
theorem dX9_audit_201 : decode cX9_audit 201 = .ok (.ireturn, 1) := by decide +kernel
theorem dJ7_fill_53178_0 : decode cJ7_fill_53178 0 = .ok (.iconst 0, 1) := by decide +kernel
theorem dJ7_fill_53178_1 : decode cJ7_fill_53178 1 = .ok (.istore_n 2, 1) := by decide +kernel
theorem dJ7_fill_53178_2 : decode cJ7_fill_53178 2 = .ok (.aload_n 0, 1) := by decide +kernel
theorem dJ7_fill_53178_3 : decode cJ7_fill_53178 3 = .ok (.arraylength, 1) := by decide +kernel
theorem dJ7_fill_53178_4 : decode cJ7_fill_53178 4 = .ok (.istore_n 3, 1) := by decide +kernel
theorem dJ7_fill_53178_5 : decode cJ7_fill_53178 5 = .ok (.iload_n 2, 1) := by decide +kernel
theorem dJ7_fill_53178_6 : decode cJ7_fill_53178 6 = .ok (.iload_n 3, 1) := by decide +kernel
theorem dJ7_fill_53178_7 : decode cJ7_fill_53178 7 = .ok (.if_icmp .ge 13, 3) := by decide +kernel
theorem dJ7_fill_53178_10 : decode cJ7_fill_53178 10 = .ok (.aload_n 0, 1) := by decide +kernel
theorem dJ7_fill_53178_11 : decode cJ7_fill_53178 11 = .ok (.iload_n 2, 1) := by decide +kernel
