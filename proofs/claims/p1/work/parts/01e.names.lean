theorem dX9_endHouse_145 : decode cX9_endHouse 145 = .ok (.aload_n 0, 1) := by decide +kernel
theorem dX9_endHouse_146 : decode cX9_endHouse 146 = .ok (.getfield 255, 3) := by decide +kernel
theorem dX9_endHouse_149 : decode cX9_endHouse 149 = .ok (.putfield 252, 3) := by decide +kernel
theorem dX9_endHouse_152 : decode cX9_endHouse 152 = .ok (.return_, 1) := by decide +kernel
theorem dX9_endHouse_153 : decode cX9_endHouse 153 = .ok (.aload_n 0, 1) := by decide +kernel
theorem dX9_endHouse_154 : decode cX9_endHouse 154 = .ok (.getfield 20, 3) := by decide +kernel
theorem dX9_endHouse_157 : decode cX9_endHouse 157 = .ok (.aload_n 0, 1) := by decide +kernel
theorem dX9_endHouse_158 : decode cX9_endHouse 158 = .ok (.getfield 234, 3) := by decide +kernel
theorem dX9_endHouse_161 : decode cX9_endHouse 161 = .ok (.aload_n 0, 1) := by decide +kernel
theorem dX9_endHouse_162 : decode cX9_endHouse 162 = .ok (.getfield 221, 3) := by decide +kernel
theorem dX9_endHouse_165 : decode cX9_endHouse 165 = .ok (.iastore, 1) := by decide +kernel
theorem dX9_endHouse_166 : decode cX9_endHouse 166 = .ok (.aload_n 0, 1) := by decide +kernel
theorem dX9_endHouse_167 : decode cX9_endHouse 167 = .ok (.getfield 23, 3) := by decide +kernel
theorem dX9_endHouse_170 : decode cX9_endHouse 170 = .ok (.aload_n 0, 1) := by decide +kernel
theorem dX9_endHouse_171 : decode cX9_endHouse 171 = .ok (.getfield 234, 3) := by decide +kernel
theorem dX9_endHouse_174 : decode cX9_endHouse 174 = .ok (.aload_n 0, 1) := by decide +kernel
theorem dX9_endHouse_175 : decode cX9_endHouse 175 = .ok (.getfield 224, 3) := by decide +kernel
theorem dX9_endHouse_178 : decode cX9_endHouse 178 = .ok (.iastore, 1) := by decide +kernel
theorem dX9_endHouse_179 : decode cX9_endHouse 179 = .ok (.aload_n 0, 1) := by decide +kernel
theorem dX9_endHouse_180 : decode cX9_endHouse 180 = .ok (.getfield 26, 3) := by decide +kernel
theorem dX9_endHouse_183 : decode cX9_endHouse 183 = .ok (.aload_n 0, 1) := by decide +kernel
theorem dX9_endHouse_184 : decode cX9_endHouse 184 = .ok (.getfield 234, 3) := by decide +kernel
theorem dX9_endHouse_187 : decode cX9_endHouse 187 = .ok (.aload_n 0, 1) := by decide +kernel
theorem dX9_endHouse_188 : decode cX9_endHouse 188 = .ok (.getfield 255, 3) := by decide +kernel
theorem dX9_endHouse_191 : decode cX9_endHouse 191 = .ok (.iastore, 1) := by decide +kernel
theorem dX9_endHouse_192 : decode cX9_endHouse 192 = .ok (.aload_n 0, 1) := by decide +kernel
theorem dX9_endHouse_193 : decode cX9_endHouse 193 = .ok (.getfield 29, 3) := by decide +kernel
theorem dX9_endHouse_196 : decode cX9_endHouse 196 = .ok (.aload_n 0, 1) := by decide +kernel
theorem dX9_endHouse_197 : decode cX9_endHouse 197 = .ok (.getfield 234, 3) := by decide +kernel
theorem dX9_endHouse_200 : decode cX9_endHouse 200 = .ok (.iload_n 1, 1) := by decide +kernel
theorem dX9_endHouse_201 : decode cX9_endHouse 201 = .ok (.iastore, 1) := by decide +kernel
theorem dX9_endHouse_202 : decode cX9_endHouse 202 = .ok (.aload_n 0, 1) := by decide +kernel
theorem dX9_endHouse_203 : decode cX9_endHouse 203 = .ok (.dup, 1) := by decide +kernel
theorem dX9_endHouse_204 : decode cX9_endHouse 204 = .ok (.getfield 234, 3) := by decide +kernel
theorem dX9_endHouse_207 : decode cX9_endHouse 207 = .ok (.iconst 1, 1) := by decide +kernel
theorem dX9_endHouse_208 : decode cX9_endHouse 208 = .ok (.iadd, 1) := by decide +kernel
theorem dX9_endHouse_209 : decode cX9_endHouse 209 = .ok (.putfield 234, 3) := by decide +kernel
theorem dX9_endHouse_212 : decode cX9_endHouse 212 = .ok (.aload_n 0, 1) := by decide +kernel
theorem dX9_endHouse_213 : decode cX9_endHouse 213 = .ok (.aload_n 0, 1) := by decide +kernel
theorem dX9_endHouse_214 : decode cX9_endHouse 214 = .ok (.getfield 221, 3) := by decide +kernel
theorem dX9_endHouse_217 : decode cX9_endHouse 217 = .ok (.ifCond .lt 10, 3) := by decide +kernel
theorem dX9_endHouse_220 : decode cX9_endHouse 220 = .ok (.aload_n 0, 1) := by decide +kernel
theorem dX9_endHouse_221 : decode cX9_endHouse 221 = .ok (.getfield 221, 3) := by decide +kernel
theorem dX9_endHouse_224 : decode cX9_endHouse 224 = .ok (.goto 7, 3) := by decide +kernel
theorem dX9_endHouse_227 : decode cX9_endHouse 227 = .ok (.aload_n 0, 1) := by decide +kernel
theorem dX9_endHouse_228 : decode cX9_endHouse 228 = .ok (.getfield 258, 3) := by decide +kernel
theorem dX9_endHouse_231 : decode cX9_endHouse 231 = .ok (.putfield 258, 3) := by decide +kernel
theorem dX9_endHouse_234 : decode cX9_endHouse 234 = .ok (.return_, 1) := by decide +kernel
set_option maxRecDepth 20000 in
theorem ggX9_readOn_X9_at : GoodIn wsX9_readOn wsX9_at := goodIn_r _ [15, 16, 178, 179, 180, 181, 182, 183, 184, 185, 186, 187, 188, 189, 190, 191, 192, 193, 194, 195, 196, 197, 198, 199, 200, 201, 202, 203, 204, 205, 206, 207, 208, 209, 210, 211, 212, 213, 214, 215, 216, 217, 218, 219, 220, 221, 222, 223, 224, 225, 226, 227, 228, 229, 230, 231, 232, 233, 234, 235, 236, 237, 238, 239, 240, 241, 242, 243, 244, 245, 246] (by decide +kernel) (by decide +kernel)
set_option maxRecDepth 20000 in
theorem gX9_readOn_X9_at : GoodIn wsX9_readOn (wsV RX9 197 RX9 yX9_at wsX9_at) := goodIn_app (goodIn_of _ (by decide +kernel)) ggX9_readOn_X9_at
set_option maxRecDepth 20000 in
theorem ggX9_readOn_X9_endHouse : GoodIn wsX9_readOn wsX9_endHouse := goodIn_r _ [20, 21, 22, 9, 23, 24, 25, 26, 4, 27, 28, 29, 30, 31, 32, 33, 34, 35, 36, 14, 37, 38, 39, 40, 41, 42, 43, 44, 45, 46, 47, 48, 49, 50, 51, 52, 53, 54, 55, 7, 56, 57, 58, 59, 60, 61, 62, 63, 64, 65, 66, 67, 68, 6, 178, 179, 180, 181, 182, 183, 184, 185, 186, 187, 188, 189, 190, 191, 192, 193, 194, 195, 196, 197, 198, 199, 200, 201, 202, 203, 204, 205, 206, 207, 208, 209, 210, 211, 212, 213, 214, 215, 216, 217, 218, 219, 220, 221, 222, 223, 224, 225, 226, 227, 228, 229, 230, 231, 232, 233, 234, 235, 236, 237, 238, 239, 240, 241, 242, 243, 244, 245, 246] (by decide +kernel) (by decide +kernel)
set_option maxRecDepth 20000 in
theorem gX9_readOn_X9_endHouse : GoodIn wsX9_readOn (wsV RX9 264 RX9 yX9_endHouse wsX9_endHouse) := goodIn_app (goodIn_of _ (by decide +kernel)) ggX9_readOn_X9_endHouse
set_option maxRecDepth 20000 in
theorem ggX9_readOn_X9_settle : GoodIn wsX9_readOn wsX9_settle := goodIn_r _ [72, 6, 73, 7, 1, 178, 179, 180, 181, 182, 183, 184, 185, 186, 187, 188, 189, 190, 191, 192, 193, 194, 195, 196, 197, 198, 199, 200, 201, 202, 203, 204, 205, 206, 207, 208, 209, 210, 211, 212, 213, 214, 215, 216, 217, 218, 219, 220, 221, 222, 223, 224, 225, 226, 227, 228, 229, 230, 231, 232, 233, 234, 235, 236, 237, 238, 239, 240, 241, 242, 243, 244, 245, 246] (by decide +kernel) (by decide +kernel)
set_option maxRecDepth 20000 in
theorem gX9_readOn_X9_settle : GoodIn wsX9_readOn (wsV RX9 267 RX9 yX9_settle wsX9_settle) := goodIn_app (goodIn_of _ (by decide +kernel)) ggX9_readOn_X9_settle
set_option maxRecDepth 20000 in
theorem ggX9_readOn_X9_book : GoodIn wsX9_readOn wsX9_book := goodIn_r _ [77, 78, 30, 79, 80, 81, 29, 82, 31, 83, 33, 84, 85, 86, 32, 87, 88, 89, 90, 91, 92, 93, 94, 95, 96, 97, 27, 98, 99, 100, 101, 14, 102, 178, 179, 180, 181, 182, 183, 184, 185, 186, 187, 188, 189, 190, 191, 192, 193, 194, 195, 196, 197, 198, 199, 200, 201, 202, 203, 204, 205, 206, 207, 208, 209, 210, 211, 212, 213, 214, 215, 216, 217, 218, 219, 220, 221, 222, 223, 224, 225, 226, 227, 228, 229, 230, 231, 232, 233, 234, 235, 236, 237, 238, 239, 240, 241, 242, 243, 244, 245, 246] (by decide +kernel) (by decide +kernel)
set_option maxRecDepth 20000 in
theorem gX9_readOn_X9_book : GoodIn wsX9_readOn (wsV RX9 271 RX9 yX9_book wsX9_book) := goodIn_app (goodIn_of _ (by decide +kernel)) ggX9_readOn_X9_book
set_option maxRecDepth 20000 in
theorem ggX9_readOn_X9_readLine : GoodIn wsX9_readOn wsX9_readLine := goodIn_r _ [106, 107, 108, 109, 14, 110, 4, 9, 5, 23, 21, 22, 49, 111, 112, 113, 114, 25, 24, 115, 116, 117, 118, 119, 120, 8, 121, 11, 12, 13, 15, 16, 122, 123, 124, 125, 38, 40, 41, 42, 43, 44, 45, 46, 47, 48, 50, 51, 52, 53, 54, 55, 7, 56, 57, 58, 59, 60, 61, 62, 63, 64, 126, 127, 128, 129, 34, 35, 36, 37, 39, 65, 66, 67, 68, 6, 130, 131, 132, 133, 134, 135, 136, 137, 138, 139, 140, 141, 142, 143, 144, 145, 146, 147, 148, 149, 150, 151, 152, 153, 30, 154, 155, 156, 157, 97, 28, 158, 88, 90, 92, 27, 94, 159, 160, 161, 162, 163, 164, 165, 166, 167, 168, 169, 170, 171, 172, 173, 174, 175, 176, 177, 178, 179, 180, 181, 182, 183, 184, 185, 186, 187, 188, 189, 190, 191, 192, 193, 194, 195, 196, 197, 198, 199, 200, 201, 202, 203, 204, 205, 206, 207, 208, 209, 210, 211, 212, 213, 214, 215, 216, 217, 218, 219, 220, 221, 222, 223, 224, 225, 226, 227, 228, 229, 230, 231, 232, 233, 234, 235, 236, 237, 238, 239, 240, 241, 242, 243, 244, 245, 246] (by decide +kernel) (by decide +kernel)
set_option maxRecDepth 20000 in
theorem gX9_readOn_X9_readLine : GoodIn wsX9_readOn (wsV RX9 277 RX9 yX9_readLine wsX9_readLine) := goodIn_app (goodIn_of _ (by decide +kernel)) ggX9_readOn_X9_readLine
theorem dX9_readOn_0 : decode cX9_readOn 0 = .ok (.aload_n 0, 1) := by decide +kernel
theorem dX9_readOn_1 : decode cX9_readOn 1 = .ok (.iconst 0, 1) := by decide +kernel
theorem dX9_readOn_2 : decode cX9_readOn 2 = .ok (.putfield 120, 3) := by decide +kernel
theorem dX9_readOn_5 : decode cX9_readOn 5 = .ok (.aload_n 0, 1) := by decide +kernel
theorem dX9_readOn_6 : decode cX9_readOn 6 = .ok (.getfield 261, 3) := by decide +kernel
theorem dX9_readOn_9 : decode cX9_readOn 9 = .ok (.aload_n 0, 1) := by decide +kernel
theorem dX9_readOn_10 : decode cX9_readOn 10 = .ok (.getfield 116, 3) := by decide +kernel
theorem dX9_readOn_13 : decode cX9_readOn 13 = .ok (.if_icmp .ge 29, 3) := by decide +kernel
theorem dX9_readOn_16 : decode cX9_readOn 16 = .ok (.aload_n 0, 1) := by decide +kernel
theorem dX9_readOn_17 : decode cX9_readOn 17 = .ok (.aload_n 0, 1) := by decide +kernel
theorem dX9_readOn_18 : decode cX9_readOn 18 = .ok (.getfield 261, 3) := by decide +kernel
theorem dX9_readOn_21 : decode cX9_readOn 21 = .ok (.invokevirtual 197, 3) := by decide +kernel
theorem dX9_readOn_24 : decode cX9_readOn 24 = .ok (.bipush 10, 2) := by decide +kernel
theorem dX9_readOn_26 : decode cX9_readOn 26 = .ok (.if_icmp .ne 16, 3) := by decide +kernel
theorem dX9_readOn_29 : decode cX9_readOn 29 = .ok (.aload_n 0, 1) := by decide +kernel
theorem dX9_readOn_30 : decode cX9_readOn 30 = .ok (.dup, 1) := by decide +kernel
theorem dX9_readOn_31 : decode cX9_readOn 31 = .ok (.getfield 261, 3) := by decide +kernel
theorem dX9_readOn_34 : decode cX9_readOn 34 = .ok (.iconst 1, 1) := by decide +kernel
theorem dX9_readOn_35 : decode cX9_readOn 35 = .ok (.iadd, 1) := by decide +kernel
theorem dX9_readOn_36 : decode cX9_readOn 36 = .ok (.putfield 261, 3) := by decide +kernel
theorem dX9_readOn_39 : decode cX9_readOn 39 = .ok (.goto (-34), 3) := by decide +kernel
theorem dX9_readOn_42 : decode cX9_readOn 42 = .ok (.aload_n 0, 1) := by decide +kernel
theorem dX9_readOn_43 : decode cX9_readOn 43 = .ok (.getfield 261, 3) := by decide +kernel
theorem dX9_readOn_46 : decode cX9_readOn 46 = .ok (.aload_n 0, 1) := by decide +kernel
theorem dX9_readOn_47 : decode cX9_readOn 47 = .ok (.getfield 116, 3) := by decide +kernel
theorem dX9_readOn_50 : decode cX9_readOn 50 = .ok (.if_icmp .ge 14, 3) := by decide +kernel
theorem dX9_readOn_53 : decode cX9_readOn 53 = .ok (.aload_n 0, 1) := by decide +kernel
theorem dX9_readOn_54 : decode cX9_readOn 54 = .ok (.aload_n 0, 1) := by decide +kernel
theorem dX9_readOn_55 : decode cX9_readOn 55 = .ok (.getfield 261, 3) := by decide +kernel
theorem dX9_readOn_58 : decode cX9_readOn 58 = .ok (.invokevirtual 197, 3) := by decide +kernel
theorem dX9_readOn_61 : decode cX9_readOn 61 = .ok (.goto 4, 3) := by decide +kernel
theorem dX9_readOn_64 : decode cX9_readOn 64 = .ok (.iconst (-1), 1) := by decide +kernel
theorem dX9_readOn_65 : decode cX9_readOn 65 = .ok (.istore_n 1, 1) := by decide +kernel
theorem dX9_readOn_66 : decode cX9_readOn 66 = .ok (.aload_n 0, 1) := by decide +kernel
theorem dX9_readOn_67 : decode cX9_readOn 67 = .ok (.getfield 141, 3) := by decide +kernel
theorem dX9_readOn_70 : decode cX9_readOn 70 = .ok (.ifCond .eq 50, 3) := by decide +kernel
theorem dX9_readOn_73 : decode cX9_readOn 73 = .ok (.iload_n 1, 1) := by decide +kernel
theorem dX9_readOn_74 : decode cX9_readOn 74 = .ok (.ifCond .lt 15, 3) := by decide +kernel
theorem dX9_readOn_77 : decode cX9_readOn 77 = .ok (.iload_n 1, 1) := by decide +kernel
theorem dX9_readOn_78 : decode cX9_readOn 78 = .ok (.bipush 72, 2) := by decide +kernel
theorem dX9_readOn_80 : decode cX9_readOn 80 = .ok (.if_icmp .eq 9, 3) := by decide +kernel
theorem dX9_readOn_83 : decode cX9_readOn 83 = .ok (.iload_n 1, 1) := by decide +kernel
theorem dX9_readOn_84 : decode cX9_readOn 84 = .ok (.bipush 83, 2) := by decide +kernel
theorem dX9_readOn_86 : decode cX9_readOn 86 = .ok (.if_icmp .ne 34, 3) := by decide +kernel
theorem dX9_readOn_89 : decode cX9_readOn 89 = .ok (.aload_n 0, 1) := by decide +kernel
theorem dX9_readOn_90 : decode cX9_readOn 90 = .ok (.aload_n 0, 1) := by decide +kernel
theorem dX9_readOn_91 : decode cX9_readOn 91 = .ok (.getfield 261, 3) := by decide +kernel
theorem dX9_readOn_94 : decode cX9_readOn 94 = .ok (.putfield 171, 3) := by decide +kernel
theorem dX9_readOn_97 : decode cX9_readOn 97 = .ok (.aload_n 0, 1) := by decide +kernel
theorem dX9_readOn_98 : decode cX9_readOn 98 = .ok (.invokevirtual 264, 3) := by decide +kernel
theorem dX9_readOn_101 : decode cX9_readOn 101 = .ok (.aload_n 0, 1) := by decide +kernel
theorem dX9_readOn_102 : decode cX9_readOn 102 = .ok (.getfield 151, 3) := by decide +kernel
theorem dX9_readOn_105 : decode cX9_readOn 105 = .ok (.ifCond .ne 10, 3) := by decide +kernel
theorem dX9_readOn_108 : decode cX9_readOn 108 = .ok (.aload_n 0, 1) := by decide +kernel
theorem dX9_readOn_109 : decode cX9_readOn 109 = .ok (.getfield 144, 3) := by decide +kernel
theorem dX9_readOn_112 : decode cX9_readOn 112 = .ok (.ifCond .eq 8, 3) := by decide +kernel
theorem dX9_readOn_115 : decode cX9_readOn 115 = .ok (.aload_n 0, 1) := by decide +kernel
theorem dX9_readOn_116 : decode cX9_readOn 116 = .ok (.invokevirtual 267, 3) := by decide +kernel
theorem dX9_readOn_119 : decode cX9_readOn 119 = .ok (.ireturn, 1) := by decide +kernel
theorem dX9_readOn_120 : decode cX9_readOn 120 = .ok (.iload_n 1, 1) := by decide +kernel
theorem dX9_readOn_121 : decode cX9_readOn 121 = .ok (.ifCond .ge 8, 3) := by decide +kernel
theorem dX9_readOn_124 : decode cX9_readOn 124 = .ok (.aload_n 0, 1) := by decide +kernel
theorem dX9_readOn_125 : decode cX9_readOn 125 = .ok (.invokevirtual 271, 3) := by decide +kernel
theorem dX9_readOn_128 : decode cX9_readOn 128 = .ok (.ireturn, 1) := by decide +kernel
theorem dX9_readOn_129 : decode cX9_readOn 129 = .ok (.aload_n 0, 1) := by decide +kernel
theorem dX9_readOn_130 : decode cX9_readOn 130 = .ok (.aload_n 0, 1) := by decide +kernel
theorem dX9_readOn_131 : decode cX9_readOn 131 = .ok (.getfield 261, 3) := by decide +kernel
theorem dX9_readOn_134 : decode cX9_readOn 134 = .ok (.putfield 171, 3) := by decide +kernel
theorem dX9_readOn_137 : decode cX9_readOn 137 = .ok (.aload_n 0, 1) := by decide +kernel
theorem dX9_readOn_138 : decode cX9_readOn 138 = .ok (.aload_n 0, 1) := by decide +kernel
theorem dX9_readOn_139 : decode cX9_readOn 139 = .ok (.getfield 261, 3) := by decide +kernel
theorem dX9_readOn_142 : decode cX9_readOn 142 = .ok (.putfield 194, 3) := by decide +kernel
theorem dX9_readOn_145 : decode cX9_readOn 145 = .ok (.aload_n 0, 1) := by decide +kernel
theorem dX9_readOn_146 : decode cX9_readOn 146 = .ok (.getfield 194, 3) := by decide +kernel
theorem dX9_readOn_149 : decode cX9_readOn 149 = .ok (.aload_n 0, 1) := by decide +kernel
theorem dX9_readOn_150 : decode cX9_readOn 150 = .ok (.getfield 116, 3) := by decide +kernel
theorem dX9_readOn_153 : decode cX9_readOn 153 = .ok (.if_icmp .ge 29, 3) := by decide +kernel
theorem dX9_readOn_156 : decode cX9_readOn 156 = .ok (.aload_n 0, 1) := by decide +kernel
theorem dX9_readOn_157 : decode cX9_readOn 157 = .ok (.aload_n 0, 1) := by decide +kernel
theorem dX9_readOn_158 : decode cX9_readOn 158 = .ok (.getfield 194, 3) := by decide +kernel
theorem dX9_readOn_161 : decode cX9_readOn 161 = .ok (.invokevirtual 197, 3) := by decide +kernel
theorem dX9_readOn_164 : decode cX9_readOn 164 = .ok (.bipush 10, 2) := by decide +kernel
theorem dX9_readOn_166 : decode cX9_readOn 166 = .ok (.if_icmp .eq 16, 3) := by decide +kernel
theorem dX9_readOn_169 : decode cX9_readOn 169 = .ok (.aload_n 0, 1) := by decide +kernel
theorem dX9_readOn_170 : decode cX9_readOn 170 = .ok (.dup, 1) := by decide +kernel
theorem dX9_readOn_171 : decode cX9_readOn 171 = .ok (.getfield 194, 3) := by decide +kernel
theorem dX9_readOn_174 : decode cX9_readOn 174 = .ok (.iconst 1, 1) := by decide +kernel
theorem dX9_readOn_175 : decode cX9_readOn 175 = .ok (.iadd, 1) := by decide +kernel
theorem dX9_readOn_176 : decode cX9_readOn 176 = .ok (.putfield 194, 3) := by decide +kernel
theorem dX9_readOn_179 : decode cX9_readOn 179 = .ok (.goto (-34), 3) := by decide +kernel
theorem dX9_readOn_182 : decode cX9_readOn 182 = .ok (.aload_n 0, 1) := by decide +kernel
theorem dX9_readOn_183 : decode cX9_readOn 183 = .ok (.aload_n 0, 1) := by decide +kernel
theorem dX9_readOn_184 : decode cX9_readOn 184 = .ok (.getfield 194, 3) := by decide +kernel
theorem dX9_readOn_187 : decode cX9_readOn 187 = .ok (.aload_n 0, 1) := by decide +kernel
theorem dX9_readOn_188 : decode cX9_readOn 188 = .ok (.getfield 116, 3) := by decide +kernel
theorem dX9_readOn_191 : decode cX9_readOn 191 = .ok (.if_icmp .ge 12, 3) := by decide +kernel
theorem dX9_readOn_194 : decode cX9_readOn 194 = .ok (.aload_n 0, 1) := by decide +kernel
theorem dX9_readOn_195 : decode cX9_readOn 195 = .ok (.getfield 194, 3) := by decide +kernel
theorem dX9_readOn_198 : decode cX9_readOn 198 = .ok (.iconst 1, 1) := by decide +kernel
theorem dX9_readOn_199 : decode cX9_readOn 199 = .ok (.iadd, 1) := by decide +kernel
theorem dX9_readOn_200 : decode cX9_readOn 200 = .ok (.goto 7, 3) := by decide +kernel
theorem dX9_readOn_203 : decode cX9_readOn 203 = .ok (.aload_n 0, 1) := by decide +kernel
theorem dX9_readOn_204 : decode cX9_readOn 204 = .ok (.getfield 194, 3) := by decide +kernel
theorem dX9_readOn_207 : decode cX9_readOn 207 = .ok (.putfield 261, 3) := by decide +kernel
theorem dX9_readOn_210 : decode cX9_readOn 210 = .ok (.aload_n 0, 1) := by decide +kernel
theorem dX9_readOn_211 : decode cX9_readOn 211 = .ok (.getfield 141, 3) := by decide +kernel
theorem dX9_readOn_214 : decode cX9_readOn 214 = .ok (.ifCond .eq 13, 3) := by decide +kernel
theorem dX9_readOn_217 : decode cX9_readOn 217 = .ok (.aload_n 0, 1) := by decide +kernel
theorem dX9_readOn_218 : decode cX9_readOn 218 = .ok (.getfield 158, 3) := by decide +kernel
theorem dX9_readOn_221 : decode cX9_readOn 221 = .ok (.ifCond .eq 6, 3) := by decide +kernel
theorem dX9_readOn_224 : decode cX9_readOn 224 = .ok (.goto (-219), 3) := by decide +kernel
theorem dX9_readOn_227 : decode cX9_readOn 227 = .ok (.aload_n 0, 1) := by decide +kernel
theorem dX9_readOn_228 : decode cX9_readOn 228 = .ok (.dup, 1) := by decide +kernel
theorem dX9_readOn_229 : decode cX9_readOn 229 = .ok (.getfield 274, 3) := by decide +kernel
theorem dX9_readOn_232 : decode cX9_readOn 232 = .ok (.iconst 1, 1) := by decide +kernel
theorem dX9_readOn_233 : decode cX9_readOn 233 = .ok (.iadd, 1) := by decide +kernel
theorem dX9_readOn_234 : decode cX9_readOn 234 = .ok (.putfield 274, 3) := by decide +kernel
theorem dX9_readOn_237 : decode cX9_readOn 237 = .ok (.aload_n 0, 1) := by decide +kernel
theorem dX9_readOn_238 : decode cX9_readOn 238 = .ok (.iload_n 1, 1) := by decide +kernel
theorem dX9_readOn_239 : decode cX9_readOn 239 = .ok (.invokevirtual 277, 3) := by decide +kernel
theorem dX9_readOn_242 : decode cX9_readOn 242 = .ok (.aload_n 0, 1) := by decide +kernel
theorem dX9_readOn_243 : decode cX9_readOn 243 = .ok (.getfield 151, 3) := by decide +kernel
theorem dX9_readOn_246 : decode cX9_readOn 246 = .ok (.ifCond .ne 17, 3) := by decide +kernel
theorem dX9_readOn_249 : decode cX9_readOn 249 = .ok (.aload_n 0, 1) := by decide +kernel
theorem dX9_readOn_250 : decode cX9_readOn 250 = .ok (.getfield 144, 3) := by decide +kernel
theorem dX9_readOn_253 : decode cX9_readOn 253 = .ok (.ifCond .eq 15, 3) := by decide +kernel
theorem dX9_readOn_256 : decode cX9_readOn 256 = .ok (.aload_n 0, 1) := by decide +kernel
theorem dX9_readOn_257 : decode cX9_readOn 257 = .ok (.getfield 141, 3) := by decide +kernel
theorem dX9_readOn_260 : decode cX9_readOn 260 = .ok (.ifCond .ne 8, 3) := by decide +kernel
theorem dX9_readOn_263 : decode cX9_readOn 263 = .ok (.aload_n 0, 1) := by decide +kernel
theorem dX9_readOn_264 : decode cX9_readOn 264 = .ok (.invokevirtual 267, 3) := by decide +kernel
theorem dX9_readOn_267 : decode cX9_readOn 267 = .ok (.ireturn, 1) := by decide +kernel
theorem dX9_readOn_268 : decode cX9_readOn 268 = .ok (.goto (-263), 3) := by decide +kernel
set_option maxRecDepth 20000 in
theorem ggX9_readLine_X9_beginHouse : GoodIn wsX9_readLine wsX9_beginHouse := goodIn_r _ [5, 6, 7, 8, 9, 10, 11, 12, 132, 133, 134, 135, 136, 137, 138, 139, 140, 141, 142, 143, 144, 145, 146, 147, 148, 149, 150, 151, 152, 153, 154, 155, 156, 157, 158, 159, 160, 161, 162, 163, 164, 165, 166, 167, 168, 169, 170, 171, 172, 173, 174, 175, 176, 177, 178, 179, 180, 181, 182, 183, 184, 185, 186, 187, 188, 189, 190, 191, 192, 193, 194, 195, 196, 197, 198, 199, 200] (by decide +kernel) (by decide +kernel)
set_option maxRecDepth 20000 in
theorem gX9_readLine_X9_beginHouse : GoodIn wsX9_readLine (wsV RX9 280 RX9 yX9_beginHouse wsX9_beginHouse) := goodIn_app (goodIn_of _ (by decide +kernel)) ggX9_readLine_X9_beginHouse
set_option maxRecDepth 20000 in
theorem ggX9_readLine_X9_readHouse : GoodIn wsX9_readLine wsX9_readHouse := goodIn_r _ [16, 17, 18, 19, 20, 21, 22, 23, 4, 24, 25, 8, 6, 26, 27, 28, 29, 30, 31, 32, 33, 34, 35, 36, 37, 38, 39, 40, 41, 42, 43, 44, 45, 12, 46, 47, 48, 49, 50, 51, 52, 53, 54, 55, 56, 57, 58, 59, 60, 61, 62, 63, 64, 65, 66, 67, 68, 69, 7, 70, 9, 71, 72, 73, 74, 75, 76, 77, 78, 79, 80, 81, 82, 83, 84, 85, 86, 87, 88, 89, 90, 91, 92, 93, 94, 95, 132, 133, 134, 135, 136, 137, 138, 139, 140, 141, 142, 143, 144, 145, 146, 147, 148, 149, 150, 151, 152, 153, 154, 155, 156, 157, 158, 159, 160, 161, 162, 163, 164, 165, 166, 167, 168, 169, 170, 171, 172, 173, 174, 175, 176, 177, 178, 179, 180, 181, 182, 183, 184, 185, 186, 187, 188, 189, 190, 191, 192, 193, 194, 195, 196, 197, 198, 199, 200] (by decide +kernel) (by decide +kernel)
set_option maxRecDepth 20000 in
theorem gX9_readLine_X9_readHouse : GoodIn wsX9_readLine (wsV RX9 283 RX9 yX9_readHouse wsX9_readHouse) := goodIn_app (goodIn_of _ (by decide +kernel)) ggX9_readLine_X9_readHouse
set_option maxRecDepth 20000 in
theorem ggX9_readLine_X9_readSums : GoodIn wsX9_readLine wsX9_readSums := goodIn_r _ [99, 20, 19, 100, 8, 21, 22, 23, 4, 24, 25, 6, 26, 27, 28, 29, 30, 31, 32, 33, 34, 35, 36, 37, 38, 39, 40, 41, 42, 43, 44, 45, 12, 46, 47, 48, 49, 50, 51, 52, 53, 54, 55, 56, 57, 58, 59, 60, 61, 62, 63, 64, 65, 66, 67, 68, 69, 7, 70, 9, 71, 72, 73, 74, 75, 76, 77, 78, 79, 80, 81, 82, 83, 84, 85, 86, 87, 88, 89, 90, 91, 92, 93, 94, 95, 132, 133, 134, 135, 136, 137, 138, 139, 140, 141, 142, 143, 144, 145, 146, 147, 148, 149, 150, 151, 152, 153, 154, 155, 156, 157, 158, 159, 160, 161, 162, 163, 164, 165, 166, 167, 168, 169, 170, 171, 172, 173, 174, 175, 176, 177, 178, 179, 180, 181, 182, 183, 184, 185, 186, 187, 188, 189, 190, 191, 192, 193, 194, 195, 196, 197, 198, 199, 200] (by decide +kernel) (by decide +kernel)
set_option maxRecDepth 20000 in
theorem gX9_readLine_X9_readSums : GoodIn wsX9_readLine (wsV RX9 286 RX9 yX9_readSums wsX9_readSums) := goodIn_app (goodIn_of _ (by decide +kernel)) ggX9_readLine_X9_readSums
set_option maxRecDepth 20000 in
theorem ggX9_readLine_X9_readPerson : GoodIn wsX9_readLine wsX9_readPerson := goodIn_r _ [104, 20, 81, 105, 106, 82, 107, 19, 8, 36, 108, 10, 109, 110, 111, 112, 21, 22, 23, 4, 24, 25, 6, 26, 27, 28, 29, 30, 31, 32, 33, 34, 35, 37, 38, 39, 40, 41, 42, 43, 44, 45, 12, 46, 47, 48, 49, 50, 51, 52, 53, 54, 55, 56, 57, 58, 59, 60, 61, 62, 63, 64, 65, 66, 67, 68, 69, 7, 70, 9, 71, 72, 73, 74, 75, 113, 114, 115, 116, 80, 83, 88, 84, 85, 86, 87, 89, 90, 91, 92, 117, 118, 119, 120, 121, 122, 123, 76, 77, 78, 79, 93, 94, 95, 124, 125, 126, 127, 128, 129, 130, 131, 11, 132, 133, 134, 135, 136, 137, 138, 139, 140, 141, 142, 143, 144, 145, 146, 147, 148, 149, 150, 151, 152, 153, 154, 155, 156, 157, 158, 159, 160, 161, 162, 163, 164, 165, 166, 167, 168, 169, 170, 171, 172, 173, 174, 175, 176, 177, 178, 179, 180, 181, 182, 183, 184, 185, 186, 187, 188, 189, 190, 191, 192, 193, 194, 195, 196, 197, 198, 199, 200] (by decide +kernel) (by decide +kernel)
set_option maxRecDepth 20000 in
theorem gX9_readLine_X9_readPerson : GoodIn wsX9_readLine (wsV RX9 289 RX9 yX9_readPerson wsX9_readPerson) := goodIn_app (goodIn_of _ (by decide +kernel)) ggX9_readLine_X9_readPerson
theorem dX9_readLine_0 : decode cX9_readLine 0 = .ok (.iload_n 1, 1) := by decide +kernel
theorem dX9_readLine_1 : decode cX9_readLine 1 = .ok (.bipush 72, 2) := by decide +kernel
theorem dX9_readLine_3 : decode cX9_readLine 3 = .ok (.if_icmp .ne 14, 3) := by decide +kernel
theorem dX9_readLine_6 : decode cX9_readLine 6 = .ok (.aload_n 0, 1) := by decide +kernel
theorem dX9_readLine_7 : decode cX9_readLine 7 = .ok (.invokevirtual 280, 3) := by decide +kernel
theorem dX9_readLine_10 : decode cX9_readLine 10 = .ok (.aload_n 0, 1) := by decide +kernel
theorem dX9_readLine_11 : decode cX9_readLine 11 = .ok (.invokevirtual 283, 3) := by decide +kernel
theorem dX9_readLine_14 : decode cX9_readLine 14 = .ok (.goto 21, 3) := by decide +kernel
theorem dX9_readLine_17 : decode cX9_readLine 17 = .ok (.iload_n 1, 1) := by decide +kernel
theorem dX9_readLine_18 : decode cX9_readLine 18 = .ok (.bipush 83, 2) := by decide +kernel
theorem dX9_readLine_20 : decode cX9_readLine 20 = .ok (.if_icmp .ne 10, 3) := by decide +kernel
theorem dX9_readLine_23 : decode cX9_readLine 23 = .ok (.aload_n 0, 1) := by decide +kernel
theorem dX9_readLine_24 : decode cX9_readLine 24 = .ok (.invokevirtual 286, 3) := by decide +kernel
theorem dX9_readLine_27 : decode cX9_readLine 27 = .ok (.goto 8, 3) := by decide +kernel
theorem dX9_readLine_30 : decode cX9_readLine 30 = .ok (.aload_n 0, 1) := by decide +kernel
theorem dX9_readLine_31 : decode cX9_readLine 31 = .ok (.iload_n 1, 1) := by decide +kernel
theorem dX9_readLine_32 : decode cX9_readLine 32 = .ok (.invokevirtual 289, 3) := by decide +kernel
theorem dX9_readLine_35 : decode cX9_readLine 35 = .ok (.return_, 1) := by decide +kernel
theorem dX9_settle_0 : decode cX9_settle 0 = .ok (.aload_n 0, 1) := by decide +kernel
theorem dX9_settle_1 : decode cX9_settle 1 = .ok (.getfield 151, 3) := by decide +kernel
theorem dX9_settle_4 : decode cX9_settle 4 = .ok (.ifCond .eq 15, 3) := by decide +kernel
theorem dX9_settle_7 : decode cX9_settle 7 = .ok (.aload_n 0, 1) := by decide +kernel
theorem dX9_settle_8 : decode cX9_settle 8 = .ok (.dup, 1) := by decide +kernel
theorem dX9_settle_9 : decode cX9_settle 9 = .ok (.getfield 292, 3) := by decide +kernel
theorem dX9_settle_12 : decode cX9_settle 12 = .ok (.iconst 1, 1) := by decide +kernel
theorem dX9_settle_13 : decode cX9_settle 13 = .ok (.iadd, 1) := by decide +kernel
theorem dX9_settle_14 : decode cX9_settle 14 = .ok (.putfield 292, 3) := by decide +kernel
theorem dX9_settle_17 : decode cX9_settle 17 = .ok (.iconst 1, 1) := by decide +kernel
theorem dX9_settle_18 : decode cX9_settle 18 = .ok (.ireturn, 1) := by decide +kernel
theorem dX9_settle_19 : decode cX9_settle 19 = .ok (.aload_n 0, 1) := by decide +kernel
theorem dX9_settle_20 : decode cX9_settle 20 = .ok (.iconst 0, 1) := by decide +kernel
theorem dX9_settle_21 : decode cX9_settle 21 = .ok (.putfield 144, 3) := by decide +kernel
theorem dX9_settle_24 : decode cX9_settle 24 = .ok (.aload_n 0, 1) := by decide +kernel
theorem dX9_settle_25 : decode cX9_settle 25 = .ok (.iconst 1, 1) := by decide +kernel
theorem dX9_settle_26 : decode cX9_settle 26 = .ok (.putfield 120, 3) := by decide +kernel
theorem dX9_settle_29 : decode cX9_settle 29 = .ok (.iconst 2, 1) := by decide +kernel
theorem dX9_settle_30 : decode cX9_settle 30 = .ok (.ireturn, 1) := by decide +kernel
theorem dX9_takenPersons_0 : decode cX9_takenPersons 0 = .ok (.iconst 0, 1) := by decide +kernel
theorem dX9_takenPersons_1 : decode cX9_takenPersons 1 = .ok (.istore_n 1, 1) := by decide +kernel
theorem dX9_takenPersons_2 : decode cX9_takenPersons 2 = .ok (.iconst 0, 1) := by decide +kernel
theorem dX9_takenPersons_3 : decode cX9_takenPersons 3 = .ok (.istore_n 2, 1) := by decide +kernel
theorem dX9_takenPersons_4 : decode cX9_takenPersons 4 = .ok (.iload_n 2, 1) := by decide +kernel
theorem dX9_takenPersons_5 : decode cX9_takenPersons 5 = .ok (.aload_n 0, 1) := by decide +kernel
theorem dX9_takenPersons_6 : decode cX9_takenPersons 6 = .ok (.getfield 234, 3) := by decide +kernel
theorem dX9_takenPersons_9 : decode cX9_takenPersons 9 = .ok (.if_icmp .ge 18, 3) := by decide +kernel
theorem dX9_takenPersons_12 : decode cX9_takenPersons 12 = .ok (.iload_n 1, 1) := by decide +kernel
theorem dX9_takenPersons_13 : decode cX9_takenPersons 13 = .ok (.aload_n 0, 1) := by decide +kernel
theorem dX9_takenPersons_14 : decode cX9_takenPersons 14 = .ok (.getfield 29, 3) := by decide +kernel
theorem dX9_takenPersons_17 : decode cX9_takenPersons 17 = .ok (.iload_n 2, 1) := by decide +kernel
theorem dX9_takenPersons_18 : decode cX9_takenPersons 18 = .ok (.iaload, 1) := by decide +kernel
theorem dX9_takenPersons_19 : decode cX9_takenPersons 19 = .ok (.iadd, 1) := by decide +kernel
theorem dX9_takenPersons_20 : decode cX9_takenPersons 20 = .ok (.istore_n 1, 1) := by decide +kernel
theorem dX9_takenPersons_21 : decode cX9_takenPersons 21 = .ok (.iinc 2 1, 3) := by decide +kernel
theorem dX9_takenPersons_24 : decode cX9_takenPersons 24 = .ok (.goto (-20), 3) := by decide +kernel
theorem dX9_takenPersons_27 : decode cX9_takenPersons 27 = .ok (.iload_n 1, 1) := by decide +kernel
theorem dX9_takenPersons_28 : decode cX9_takenPersons 28 = .ok (.ireturn, 1) := by decide +kernel
set_option maxRecDepth 20000 in
theorem ggX9_book_X9_takenPersons : GoodIn wsX9_book wsX9_takenPersons := goodIn_r _ [32, 2, 10, 33, 34, 35, 36, 37, 38, 39, 40, 41, 42, 43, 44, 45, 46, 47, 48, 49, 50, 51, 52, 53, 54, 55, 56, 57, 58, 59, 60, 61, 62, 63, 64, 65, 66, 67, 68, 69, 70, 71, 72, 73, 74, 75, 76, 77, 78, 79, 80, 81, 82, 83, 84, 85, 86, 87, 88, 89, 90, 91, 92, 93, 94, 95, 96, 97, 98, 99, 100, 101] (by decide +kernel) (by decide +kernel)
set_option maxRecDepth 20000 in
theorem gX9_book_X9_takenPersons : GoodIn wsX9_book (wsV RX9 301 RX9 yX9_takenPersons wsX9_takenPersons) := goodIn_app (goodIn_of _ (by decide +kernel)) ggX9_book_X9_takenPersons
theorem dX9_book_0 : decode cX9_book 0 = .ok (.aload_n 0, 1) := by decide +kernel
theorem dX9_book_1 : decode cX9_book 1 = .ok (.getfield 295, 3) := by decide +kernel
theorem dX9_book_4 : decode cX9_book 4 = .ok (.aload_n 0, 1) := by decide +kernel
theorem dX9_book_5 : decode cX9_book 5 = .ok (.getfield 234, 3) := by decide +kernel
theorem dX9_book_8 : decode cX9_book 8 = .ok (.iadd, 1) := by decide +kernel
theorem dX9_book_9 : decode cX9_book 9 = .ok (.bipush 60, 2) := by decide +kernel
theorem dX9_book_11 : decode cX9_book 11 = .ok (.if_icmp .gt 18, 3) := by decide +kernel
theorem dX9_book_14 : decode cX9_book 14 = .ok (.aload_n 0, 1) := by decide +kernel
theorem dX9_book_15 : decode cX9_book 15 = .ok (.getfield 298, 3) := by decide +kernel
theorem dX9_book_18 : decode cX9_book 18 = .ok (.aload_n 0, 1) := by decide +kernel
theorem dX9_book_19 : decode cX9_book 19 = .ok (.invokevirtual 301, 3) := by decide +kernel
theorem dX9_book_22 : decode cX9_book 22 = .ok (.iadd, 1) := by decide +kernel
theorem dX9_book_23 : decode cX9_book 23 = .ok (.sipush 300, 3) := by decide +kernel
theorem dX9_book_26 : decode cX9_book 26 = .ok (.if_icmp .le 15, 3) := by decide +kernel
theorem dX9_book_29 : decode cX9_book 29 = .ok (.aload_n 0, 1) := by decide +kernel
theorem dX9_book_30 : decode cX9_book 30 = .ok (.dup, 1) := by decide +kernel
theorem dX9_book_31 : decode cX9_book 31 = .ok (.getfield 304, 3) := by decide +kernel
theorem dX9_book_34 : decode cX9_book 34 = .ok (.iconst 1, 1) := by decide +kernel
theorem dX9_book_35 : decode cX9_book 35 = .ok (.iadd, 1) := by decide +kernel
theorem dX9_book_36 : decode cX9_book 36 = .ok (.putfield 304, 3) := by decide +kernel
theorem dX9_book_39 : decode cX9_book 39 = .ok (.iconst 3, 1) := by decide +kernel
theorem dX9_book_40 : decode cX9_book 40 = .ok (.ireturn, 1) := by decide +kernel
theorem dX9_book_41 : decode cX9_book 41 = .ok (.iconst 0, 1) := by decide +kernel
theorem dX9_book_42 : decode cX9_book 42 = .ok (.istore_n 1, 1) := by decide +kernel
theorem dX9_book_43 : decode cX9_book 43 = .ok (.iload_n 1, 1) := by decide +kernel
theorem dX9_book_44 : decode cX9_book 44 = .ok (.aload_n 0, 1) := by decide +kernel
theorem dX9_book_45 : decode cX9_book 45 = .ok (.getfield 234, 3) := by decide +kernel
theorem dX9_book_48 : decode cX9_book 48 = .ok (.if_icmp .ge 250, 3) := by decide +kernel
theorem dX9_book_51 : decode cX9_book 51 = .ok (.aload_n 0, 1) := by decide +kernel
theorem dX9_book_52 : decode cX9_book 52 = .ok (.getfield 83, 3) := by decide +kernel
theorem dX9_book_55 : decode cX9_book 55 = .ok (.aload_n 0, 1) := by decide +kernel
theorem dX9_book_56 : decode cX9_book 56 = .ok (.getfield 295, 3) := by decide +kernel
theorem dX9_book_59 : decode cX9_book 59 = .ok (.aload_n 0, 1) := by decide +kernel
theorem dX9_book_60 : decode cX9_book 60 = .ok (.getfield 20, 3) := by decide +kernel
theorem dX9_book_63 : decode cX9_book 63 = .ok (.iload_n 1, 1) := by decide +kernel
theorem dX9_book_64 : decode cX9_book 64 = .ok (.iaload, 1) := by decide +kernel
theorem dX9_book_65 : decode cX9_book 65 = .ok (.iastore, 1) := by decide +kernel
theorem dX9_book_66 : decode cX9_book 66 = .ok (.aload_n 0, 1) := by decide +kernel
theorem dX9_book_67 : decode cX9_book 67 = .ok (.getfield 86, 3) := by decide +kernel
theorem dX9_book_70 : decode cX9_book 70 = .ok (.aload_n 0, 1) := by decide +kernel
theorem dX9_book_71 : decode cX9_book 71 = .ok (.getfield 295, 3) := by decide +kernel
theorem dX9_book_74 : decode cX9_book 74 = .ok (.aload_n 0, 1) := by decide +kernel
theorem dX9_book_75 : decode cX9_book 75 = .ok (.getfield 23, 3) := by decide +kernel
theorem dX9_book_78 : decode cX9_book 78 = .ok (.iload_n 1, 1) := by decide +kernel
theorem dX9_book_79 : decode cX9_book 79 = .ok (.iaload, 1) := by decide +kernel
theorem dX9_book_80 : decode cX9_book 80 = .ok (.iastore, 1) := by decide +kernel
theorem dX9_book_81 : decode cX9_book 81 = .ok (.aload_n 0, 1) := by decide +kernel
theorem dX9_book_82 : decode cX9_book 82 = .ok (.getfield 89, 3) := by decide +kernel
theorem dX9_book_85 : decode cX9_book 85 = .ok (.aload_n 0, 1) := by decide +kernel
theorem dX9_book_86 : decode cX9_book 86 = .ok (.getfield 295, 3) := by decide +kernel
theorem dX9_book_89 : decode cX9_book 89 = .ok (.aload_n 0, 1) := by decide +kernel
theorem dX9_book_90 : decode cX9_book 90 = .ok (.getfield 29, 3) := by decide +kernel
theorem dX9_book_93 : decode cX9_book 93 = .ok (.iload_n 1, 1) := by decide +kernel
theorem dX9_book_94 : decode cX9_book 94 = .ok (.iaload, 1) := by decide +kernel
theorem dX9_book_95 : decode cX9_book 95 = .ok (.iastore, 1) := by decide +kernel
theorem dX9_book_96 : decode cX9_book 96 = .ok (.aload_n 0, 1) := by decide +kernel
theorem dX9_book_97 : decode cX9_book 97 = .ok (.getfield 92, 3) := by decide +kernel
theorem dX9_book_100 : decode cX9_book 100 = .ok (.aload_n 0, 1) := by decide +kernel
theorem dX9_book_101 : decode cX9_book 101 = .ok (.getfield 295, 3) := by decide +kernel
theorem dX9_book_104 : decode cX9_book 104 = .ok (.aload_n 0, 1) := by decide +kernel
theorem dX9_book_105 : decode cX9_book 105 = .ok (.getfield 298, 3) := by decide +kernel
theorem dX9_book_108 : decode cX9_book 108 = .ok (.iastore, 1) := by decide +kernel
theorem dX9_book_109 : decode cX9_book 109 = .ok (.aload_n 0, 1) := by decide +kernel
theorem dX9_book_110 : decode cX9_book 110 = .ok (.getfield 95, 3) := by decide +kernel
theorem dX9_book_113 : decode cX9_book 113 = .ok (.aload_n 0, 1) := by decide +kernel
theorem dX9_book_114 : decode cX9_book 114 = .ok (.getfield 295, 3) := by decide +kernel
theorem dX9_book_117 : decode cX9_book 117 = .ok (.aload_n 0, 1) := by decide +kernel
theorem dX9_book_118 : decode cX9_book 118 = .ok (.getfield 307, 3) := by decide +kernel
theorem dX9_book_121 : decode cX9_book 121 = .ok (.iconst 1, 1) := by decide +kernel
theorem dX9_book_122 : decode cX9_book 122 = .ok (.isub, 1) := by decide +kernel
theorem dX9_book_123 : decode cX9_book 123 = .ok (.iastore, 1) := by decide +kernel
theorem dX9_book_124 : decode cX9_book 124 = .ok (.aload_n 0, 1) := by decide +kernel
theorem dX9_book_125 : decode cX9_book 125 = .ok (.getfield 26, 3) := by decide +kernel
theorem dX9_book_128 : decode cX9_book 128 = .ok (.iload_n 1, 1) := by decide +kernel
theorem dX9_book_129 : decode cX9_book 129 = .ok (.iaload, 1) := by decide +kernel
theorem dX9_book_130 : decode cX9_book 130 = .ok (.istore_n 2, 1) := by decide +kernel
theorem dX9_book_131 : decode cX9_book 131 = .ok (.iload_n 2, 1) := by decide +kernel
theorem dX9_book_132 : decode cX9_book 132 = .ok (.aload_n 0, 1) := by decide +kernel
theorem dX9_book_133 : decode cX9_book 133 = .ok (.getfield 26, 3) := by decide +kernel
theorem dX9_book_136 : decode cX9_book 136 = .ok (.iload_n 1, 1) := by decide +kernel
theorem dX9_book_137 : decode cX9_book 137 = .ok (.iaload, 1) := by decide +kernel
theorem dX9_book_138 : decode cX9_book 138 = .ok (.aload_n 0, 1) := by decide +kernel
theorem dX9_book_139 : decode cX9_book 139 = .ok (.getfield 29, 3) := by decide +kernel
theorem dX9_book_142 : decode cX9_book 142 = .ok (.iload_n 1, 1) := by decide +kernel
theorem dX9_book_143 : decode cX9_book 143 = .ok (.iaload, 1) := by decide +kernel
theorem dX9_book_144 : decode cX9_book 144 = .ok (.iadd, 1) := by decide +kernel
theorem dX9_book_145 : decode cX9_book 145 = .ok (.if_icmp .ge 137, 3) := by decide +kernel
theorem dX9_book_148 : decode cX9_book 148 = .ok (.aload_n 0, 1) := by decide +kernel
theorem dX9_book_149 : decode cX9_book 149 = .ok (.getfield 98, 3) := by decide +kernel
theorem dX9_book_152 : decode cX9_book 152 = .ok (.aload_n 0, 1) := by decide +kernel
theorem dX9_book_153 : decode cX9_book 153 = .ok (.getfield 298, 3) := by decide +kernel
theorem dX9_book_156 : decode cX9_book 156 = .ok (.aload_n 0, 1) := by decide +kernel
theorem dX9_book_157 : decode cX9_book 157 = .ok (.getfield 32, 3) := by decide +kernel
theorem dX9_book_160 : decode cX9_book 160 = .ok (.iload_n 2, 1) := by decide +kernel
theorem dX9_book_161 : decode cX9_book 161 = .ok (.iaload, 1) := by decide +kernel
theorem dX9_book_162 : decode cX9_book 162 = .ok (.iastore, 1) := by decide +kernel
theorem dX9_book_163 : decode cX9_book 163 = .ok (.aload_n 0, 1) := by decide +kernel
theorem dX9_book_164 : decode cX9_book 164 = .ok (.getfield 101, 3) := by decide +kernel
theorem dX9_book_167 : decode cX9_book 167 = .ok (.aload_n 0, 1) := by decide +kernel
theorem dX9_book_168 : decode cX9_book 168 = .ok (.getfield 298, 3) := by decide +kernel
theorem dX9_book_171 : decode cX9_book 171 = .ok (.aload_n 0, 1) := by decide +kernel
theorem dX9_book_172 : decode cX9_book 172 = .ok (.getfield 35, 3) := by decide +kernel
theorem dX9_book_175 : decode cX9_book 175 = .ok (.iload_n 2, 1) := by decide +kernel
theorem dX9_book_176 : decode cX9_book 176 = .ok (.iaload, 1) := by decide +kernel
theorem dX9_book_177 : decode cX9_book 177 = .ok (.iastore, 1) := by decide +kernel
theorem dX9_book_178 : decode cX9_book 178 = .ok (.aload_n 0, 1) := by decide +kernel
theorem dX9_book_179 : decode cX9_book 179 = .ok (.getfield 104, 3) := by decide +kernel
theorem dX9_book_182 : decode cX9_book 182 = .ok (.aload_n 0, 1) := by decide +kernel
theorem dX9_book_183 : decode cX9_book 183 = .ok (.getfield 298, 3) := by decide +kernel
theorem dX9_book_186 : decode cX9_book 186 = .ok (.aload_n 0, 1) := by decide +kernel
theorem dX9_book_187 : decode cX9_book 187 = .ok (.getfield 38, 3) := by decide +kernel
theorem dX9_book_190 : decode cX9_book 190 = .ok (.iload_n 2, 1) := by decide +kernel
theorem dX9_book_191 : decode cX9_book 191 = .ok (.iaload, 1) := by decide +kernel
theorem dX9_book_192 : decode cX9_book 192 = .ok (.iastore, 1) := by decide +kernel
theorem dX9_book_193 : decode cX9_book 193 = .ok (.aload_n 0, 1) := by decide +kernel
theorem dX9_book_194 : decode cX9_book 194 = .ok (.getfield 107, 3) := by decide +kernel
theorem dX9_book_197 : decode cX9_book 197 = .ok (.aload_n 0, 1) := by decide +kernel
theorem dX9_book_198 : decode cX9_book 198 = .ok (.getfield 298, 3) := by decide +kernel
theorem dX9_book_201 : decode cX9_book 201 = .ok (.aload_n 0, 1) := by decide +kernel
theorem dX9_book_202 : decode cX9_book 202 = .ok (.getfield 44, 3) := by decide +kernel
theorem dX9_book_205 : decode cX9_book 205 = .ok (.iload_n 2, 1) := by decide +kernel
theorem dX9_book_206 : decode cX9_book 206 = .ok (.iaload, 1) := by decide +kernel
theorem dX9_book_207 : decode cX9_book 207 = .ok (.iastore, 1) := by decide +kernel
theorem dX9_book_208 : decode cX9_book 208 = .ok (.aload_n 0, 1) := by decide +kernel
theorem dX9_book_209 : decode cX9_book 209 = .ok (.getfield 110, 3) := by decide +kernel
theorem dX9_book_212 : decode cX9_book 212 = .ok (.aload_n 0, 1) := by decide +kernel
theorem dX9_book_213 : decode cX9_book 213 = .ok (.getfield 298, 3) := by decide +kernel
theorem dX9_book_216 : decode cX9_book 216 = .ok (.aload_n 0, 1) := by decide +kernel
theorem dX9_book_217 : decode cX9_book 217 = .ok (.getfield 295, 3) := by decide +kernel
theorem dX9_book_220 : decode cX9_book 220 = .ok (.iastore, 1) := by decide +kernel
theorem dX9_book_221 : decode cX9_book 221 = .ok (.iconst 0, 1) := by decide +kernel
theorem dX9_book_222 : decode cX9_book 222 = .ok (.istore_n 3, 1) := by decide +kernel
theorem dX9_book_223 : decode cX9_book 223 = .ok (.iload_n 3, 1) := by decide +kernel
theorem dX9_book_224 : decode cX9_book 224 = .ok (.aload_n 0, 1) := by decide +kernel
theorem dX9_book_225 : decode cX9_book 225 = .ok (.getfield 44, 3) := by decide +kernel
theorem dX9_book_228 : decode cX9_book 228 = .ok (.iload_n 2, 1) := by decide +kernel
theorem dX9_book_229 : decode cX9_book 229 = .ok (.iaload, 1) := by decide +kernel
theorem dX9_book_230 : decode cX9_book 230 = .ok (.if_icmp .ge 36, 3) := by decide +kernel
theorem dX9_book_233 : decode cX9_book 233 = .ok (.aload_n 0, 1) := by decide +kernel
theorem dX9_book_234 : decode cX9_book 234 = .ok (.getfield 113, 3) := by decide +kernel
theorem dX9_book_237 : decode cX9_book 237 = .ok (.bipush 30, 2) := by decide +kernel
theorem dX9_book_239 : decode cX9_book 239 = .ok (.aload_n 0, 1) := by decide +kernel
theorem dX9_book_240 : decode cX9_book 240 = .ok (.getfield 298, 3) := by decide +kernel
theorem dX9_book_243 : decode cX9_book 243 = .ok (.imul, 1) := by decide +kernel
theorem dX9_book_244 : decode cX9_book 244 = .ok (.iload_n 3, 1) := by decide +kernel
theorem dX9_book_245 : decode cX9_book 245 = .ok (.iadd, 1) := by decide +kernel
theorem dX9_book_246 : decode cX9_book 246 = .ok (.aload_n 0, 1) := by decide +kernel
theorem dX9_book_247 : decode cX9_book 247 = .ok (.getfield 47, 3) := by decide +kernel
theorem dX9_book_250 : decode cX9_book 250 = .ok (.aload_n 0, 1) := by decide +kernel
theorem dX9_book_251 : decode cX9_book 251 = .ok (.getfield 41, 3) := by decide +kernel
theorem dX9_book_254 : decode cX9_book 254 = .ok (.iload_n 2, 1) := by decide +kernel
theorem dX9_book_255 : decode cX9_book 255 = .ok (.iaload, 1) := by decide +kernel
theorem dX9_book_256 : decode cX9_book 256 = .ok (.iload_n 3, 1) := by decide +kernel
theorem dX9_book_257 : decode cX9_book 257 = .ok (.iadd, 1) := by decide +kernel
theorem dX9_book_258 : decode cX9_book 258 = .ok (.baload, 1) := by decide +kernel
theorem dX9_book_259 : decode cX9_book 259 = .ok (.bastore, 1) := by decide +kernel
theorem dX9_book_260 : decode cX9_book 260 = .ok (.iinc 3 1, 3) := by decide +kernel
theorem dX9_book_263 : decode cX9_book 263 = .ok (.goto (-40), 3) := by decide +kernel
theorem dX9_book_266 : decode cX9_book 266 = .ok (.aload_n 0, 1) := by decide +kernel
theorem dX9_book_267 : decode cX9_book 267 = .ok (.dup, 1) := by decide +kernel
theorem dX9_book_268 : decode cX9_book 268 = .ok (.getfield 298, 3) := by decide +kernel
theorem dX9_book_271 : decode cX9_book 271 = .ok (.iconst 1, 1) := by decide +kernel
theorem dX9_book_272 : decode cX9_book 272 = .ok (.iadd, 1) := by decide +kernel
theorem dX9_book_273 : decode cX9_book 273 = .ok (.putfield 298, 3) := by decide +kernel
theorem dX9_book_276 : decode cX9_book 276 = .ok (.iinc 2 1, 3) := by decide +kernel
theorem dX9_book_279 : decode cX9_book 279 = .ok (.goto (-148), 3) := by decide +kernel
theorem dX9_book_282 : decode cX9_book 282 = .ok (.aload_n 0, 1) := by decide +kernel
theorem dX9_book_283 : decode cX9_book 283 = .ok (.dup, 1) := by decide +kernel
theorem dX9_book_284 : decode cX9_book 284 = .ok (.getfield 295, 3) := by decide +kernel
theorem dX9_book_287 : decode cX9_book 287 = .ok (.iconst 1, 1) := by decide +kernel
theorem dX9_book_288 : decode cX9_book 288 = .ok (.iadd, 1) := by decide +kernel
theorem dX9_book_289 : decode cX9_book 289 = .ok (.putfield 295, 3) := by decide +kernel
theorem dX9_book_292 : decode cX9_book 292 = .ok (.iinc 1 1, 3) := by decide +kernel
theorem dX9_book_295 : decode cX9_book 295 = .ok (.goto (-252), 3) := by decide +kernel
theorem dX9_book_298 : decode cX9_book 298 = .ok (.aload_n 0, 1) := by decide +kernel
theorem dX9_book_299 : decode cX9_book 299 = .ok (.dup, 1) := by decide +kernel
theorem dX9_book_300 : decode cX9_book 300 = .ok (.getfield 310, 3) := by decide +kernel
theorem dX9_book_303 : decode cX9_book 303 = .ok (.iconst 1, 1) := by decide +kernel
theorem dX9_book_304 : decode cX9_book 304 = .ok (.iadd, 1) := by decide +kernel
theorem dX9_book_305 : decode cX9_book 305 = .ok (.putfield 310, 3) := by decide +kernel
theorem dX9_book_308 : decode cX9_book 308 = .ok (.iconst 0, 1) := by decide +kernel
theorem dX9_book_309 : decode cX9_book 309 = .ok (.ireturn, 1) := by decide +kernel
set_option maxRecDepth 20000 in
theorem ggX9_receive_X9_readOn : GoodIn wsX9_receive wsX9_readOn := goodIn_r _ [20, 1, 3, 21, 9, 22, 4, 5, 23, 24, 6, 25, 26, 27, 19, 28, 29, 30, 31, 32, 33, 11, 34, 35, 36, 37, 8, 38, 12, 39, 10, 40, 41, 42, 43, 44, 45, 46, 47, 7, 48, 49, 50, 51, 52, 53, 54, 13, 15, 55, 56, 57, 58, 59, 60, 14, 61, 62, 63, 64, 65, 66, 67, 68, 69, 70, 71, 72, 73, 74, 75, 76, 77, 78, 79, 80, 81, 82, 83, 84, 85, 86, 87, 88, 89, 90, 2, 91, 92, 93, 94, 95, 96, 97, 98, 99, 100, 101, 102, 103, 104, 105, 106, 107, 108, 109, 110, 111, 112, 113, 114, 115, 116, 117, 118, 119, 120, 121, 122, 123, 124, 125, 126, 127, 128, 129, 130, 131, 132, 133, 134, 135, 136, 137, 138, 139, 140, 141, 142, 143, 144, 145, 146, 147, 148, 149, 150, 151, 152, 153, 154, 155, 156, 157, 158, 159, 160, 161, 162, 163, 164, 165, 166, 167, 168, 169, 170, 171, 172, 173, 174, 175, 176, 177, 178, 179, 180, 181, 182, 183, 184, 185, 186, 187, 188, 189, 190, 191, 192, 193, 194, 195, 196, 197, 198, 199, 200, 201, 202, 203, 204, 205, 206, 207, 208, 209, 210, 211, 212, 213, 214, 215, 216, 217, 218, 219, 220, 221, 222, 223, 224, 225, 226, 227, 228, 229, 230, 231, 232, 233, 234, 235, 236, 237, 238, 239, 240, 241, 242, 243, 244, 245, 246, 247, 248, 249, 250] (by decide +kernel) (by decide +kernel)
set_option maxRecDepth 20000 in
theorem gX9_receive_X9_readOn : GoodIn wsX9_receive (wsV RX9 313 RX9 yX9_readOn wsX9_readOn) := goodIn_app (goodIn_of _ (by decide +kernel)) ggX9_receive_X9_readOn
theorem dX9_receive_0 : decode cX9_receive 0 = .ok (.aload_n 0, 1) := by decide +kernel
theorem dX9_receive_1 : decode cX9_receive 1 = .ok (.getfield 120, 3) := by decide +kernel
theorem dX9_receive_4 : decode cX9_receive 4 = .ok (.ifCond .eq 6, 3) := by decide +kernel
theorem dX9_receive_7 : decode cX9_receive 7 = .ok (.bipush (-2), 2) := by decide +kernel
theorem dX9_receive_9 : decode cX9_receive 9 = .ok (.ireturn, 1) := by decide +kernel
theorem dX9_receive_10 : decode cX9_receive 10 = .ok (.aload_n 0, 1) := by decide +kernel
theorem dX9_receive_11 : decode cX9_receive 11 = .ok (.dup, 1) := by decide +kernel
theorem dX9_receive_12 : decode cX9_receive 12 = .ok (.getfield 307, 3) := by decide +kernel
theorem dX9_receive_15 : decode cX9_receive 15 = .ok (.iconst 1, 1) := by decide +kernel
theorem dX9_receive_16 : decode cX9_receive 16 = .ok (.iadd, 1) := by decide +kernel
theorem dX9_receive_17 : decode cX9_receive 17 = .ok (.putfield 307, 3) := by decide +kernel
theorem dX9_receive_20 : decode cX9_receive 20 = .ok (.aload_n 0, 1) := by decide +kernel
theorem dX9_receive_21 : decode cX9_receive 21 = .ok (.iconst 0, 1) := by decide +kernel
theorem dX9_receive_22 : decode cX9_receive 22 = .ok (.putfield 261, 3) := by decide +kernel
theorem dX9_receive_25 : decode cX9_receive 25 = .ok (.aload_n 0, 1) := by decide +kernel
theorem dX9_receive_26 : decode cX9_receive 26 = .ok (.iconst 0, 1) := by decide +kernel
theorem dX9_receive_27 : decode cX9_receive 27 = .ok (.putfield 151, 3) := by decide +kernel
theorem dX9_receive_30 : decode cX9_receive 30 = .ok (.aload_n 0, 1) := by decide +kernel
theorem dX9_receive_31 : decode cX9_receive 31 = .ok (.iconst 0, 1) := by decide +kernel
theorem dX9_receive_32 : decode cX9_receive 32 = .ok (.putfield 144, 3) := by decide +kernel
theorem dX9_receive_35 : decode cX9_receive 35 = .ok (.aload_n 0, 1) := by decide +kernel
theorem dX9_receive_36 : decode cX9_receive 36 = .ok (.iconst 0, 1) := by decide +kernel
theorem dX9_receive_37 : decode cX9_receive 37 = .ok (.putfield 274, 3) := by decide +kernel
theorem dX9_receive_40 : decode cX9_receive 40 = .ok (.aload_n 0, 1) := by decide +kernel
theorem dX9_receive_41 : decode cX9_receive 41 = .ok (.iconst 0, 1) := by decide +kernel
theorem dX9_receive_42 : decode cX9_receive 42 = .ok (.putfield 161, 3) := by decide +kernel
theorem dX9_receive_45 : decode cX9_receive 45 = .ok (.aload_n 0, 1) := by decide +kernel
theorem dX9_receive_46 : decode cX9_receive 46 = .ok (.iconst (-1), 1) := by decide +kernel
theorem dX9_receive_47 : decode cX9_receive 47 = .ok (.putfield 258, 3) := by decide +kernel
theorem dX9_receive_50 : decode cX9_receive 50 = .ok (.aload_n 0, 1) := by decide +kernel
theorem dX9_receive_51 : decode cX9_receive 51 = .ok (.iconst 0, 1) := by decide +kernel
theorem dX9_receive_52 : decode cX9_receive 52 = .ok (.putfield 141, 3) := by decide +kernel
theorem dX9_receive_55 : decode cX9_receive 55 = .ok (.aload_n 0, 1) := by decide +kernel
theorem dX9_receive_56 : decode cX9_receive 56 = .ok (.iconst 0, 1) := by decide +kernel
theorem dX9_receive_57 : decode cX9_receive 57 = .ok (.putfield 234, 3) := by decide +kernel
theorem dX9_receive_60 : decode cX9_receive 60 = .ok (.aload_n 0, 1) := by decide +kernel
theorem dX9_receive_61 : decode cX9_receive 61 = .ok (.iconst 0, 1) := by decide +kernel
theorem dX9_receive_62 : decode cX9_receive 62 = .ok (.putfield 252, 3) := by decide +kernel
theorem dX9_receive_65 : decode cX9_receive 65 = .ok (.aload_n 0, 1) := by decide +kernel
theorem dX9_receive_66 : decode cX9_receive 66 = .ok (.iconst 0, 1) := by decide +kernel
theorem dX9_receive_67 : decode cX9_receive 67 = .ok (.putfield 240, 3) := by decide +kernel
theorem dX9_receive_70 : decode cX9_receive 70 = .ok (.aload_n 0, 1) := by decide +kernel
theorem dX9_receive_71 : decode cX9_receive 71 = .ok (.iconst 0, 1) := by decide +kernel
theorem dX9_receive_72 : decode cX9_receive 72 = .ok (.putfield 135, 3) := by decide +kernel
theorem dX9_receive_75 : decode cX9_receive 75 = .ok (.iconst 0, 1) := by decide +kernel
theorem dX9_receive_76 : decode cX9_receive 76 = .ok (.istore_n 1, 1) := by decide +kernel
theorem dX9_receive_77 : decode cX9_receive 77 = .ok (.iload_n 1, 1) := by decide +kernel
theorem dX9_receive_78 : decode cX9_receive 78 = .ok (.bipush 22, 2) := by decide +kernel
theorem dX9_receive_80 : decode cX9_receive 80 = .ok (.if_icmp .ge 16, 3) := by decide +kernel
theorem dX9_receive_83 : decode cX9_receive 83 = .ok (.aload_n 0, 1) := by decide +kernel
theorem dX9_receive_84 : decode cX9_receive 84 = .ok (.getfield 65, 3) := by decide +kernel
theorem dX9_receive_87 : decode cX9_receive 87 = .ok (.iload_n 1, 1) := by decide +kernel
theorem dX9_receive_88 : decode cX9_receive 88 = .ok (.iconst 0, 1) := by decide +kernel
theorem dX9_receive_89 : decode cX9_receive 89 = .ok (.iastore, 1) := by decide +kernel
theorem dX9_receive_90 : decode cX9_receive 90 = .ok (.iinc 1 1, 3) := by decide +kernel
theorem dX9_receive_93 : decode cX9_receive 93 = .ok (.goto (-16), 3) := by decide +kernel
theorem dX9_receive_96 : decode cX9_receive 96 = .ok (.iconst 0, 1) := by decide +kernel
theorem dX9_receive_97 : decode cX9_receive 97 = .ok (.istore_n 1, 1) := by decide +kernel
theorem dX9_receive_98 : decode cX9_receive 98 = .ok (.iload_n 1, 1) := by decide +kernel
theorem dX9_receive_99 : decode cX9_receive 99 = .ok (.bipush 6, 2) := by decide +kernel
theorem dX9_receive_101 : decode cX9_receive 101 = .ok (.if_icmp .ge 16, 3) := by decide +kernel
theorem dX9_receive_104 : decode cX9_receive 104 = .ok (.aload_n 0, 1) := by decide +kernel
theorem dX9_receive_105 : decode cX9_receive 105 = .ok (.getfield 71, 3) := by decide +kernel
theorem dX9_receive_108 : decode cX9_receive 108 = .ok (.iload_n 1, 1) := by decide +kernel
theorem dX9_receive_109 : decode cX9_receive 109 = .ok (.iconst (-1), 1) := by decide +kernel
theorem dX9_receive_110 : decode cX9_receive 110 = .ok (.iastore, 1) := by decide +kernel
theorem dX9_receive_111 : decode cX9_receive 111 = .ok (.iinc 1 1, 3) := by decide +kernel
theorem dX9_receive_114 : decode cX9_receive 114 = .ok (.goto (-16), 3) := by decide +kernel
theorem dX9_receive_117 : decode cX9_receive 117 = .ok (.aload_n 0, 1) := by decide +kernel
theorem dX9_receive_118 : decode cX9_receive 118 = .ok (.invokevirtual 313, 3) := by decide +kernel
theorem dX9_receive_121 : decode cX9_receive 121 = .ok (.ireturn, 1) := by decide +kernel
set_option maxRecDepth 20000 in
theorem ggX9_resume_X9_readOn : GoodIn wsX9_resume wsX9_readOn := goodIn_r _ [6, 1, 7, 8, 9, 10, 11, 12, 13, 14, 15, 16, 17, 18, 5, 19, 20, 21, 22, 23, 24, 25, 26, 27, 28, 29, 30, 31, 32, 33, 34, 35, 36, 37, 38, 39, 40, 41, 42, 43, 44, 45, 46, 47, 48, 49, 50, 51, 52, 53, 54, 55, 56, 57, 58, 59, 60, 61, 62, 63, 64, 65, 66, 67, 68, 69, 70, 71, 72, 73, 74, 75, 76, 77, 78, 79, 80, 81, 82, 83, 84, 85, 86, 87, 88, 89, 90, 91, 92, 93, 94, 95, 96, 97, 98, 99, 100, 101, 102, 103, 104, 105, 106, 107, 108, 109, 110, 111, 112, 113, 114, 115, 116, 117, 118, 119, 120, 121, 122, 123, 124, 125, 126, 127, 128, 129, 130, 131, 132, 133, 134, 135, 136, 137, 138, 139, 140, 141, 142, 143, 144, 145, 146, 147, 148, 149, 150, 151, 152, 153, 154, 155, 156, 157, 158, 159, 160, 161, 162, 163, 164, 165, 166, 167, 168, 169, 170, 171, 172, 173, 174, 175, 176, 177, 178, 179, 180, 181, 182, 183, 184, 185, 186, 187, 188, 189, 190, 191, 192, 193, 194, 195, 196, 197, 198, 199, 200, 201, 202, 203, 204, 205, 206, 207, 208, 209, 210, 211, 212, 213, 214, 215, 216, 217, 218, 219, 220, 221, 222, 223, 224, 225, 226, 227, 228, 229, 230, 231, 232, 233, 234, 235, 236, 237, 238, 239, 240, 241, 242, 243, 244, 245, 246, 247, 248, 249, 250] (by decide +kernel) (by decide +kernel)
set_option maxRecDepth 20000 in
theorem gX9_resume_X9_readOn : GoodIn wsX9_resume (wsV RX9 313 RX9 yX9_readOn wsX9_readOn) := goodIn_app (goodIn_of _ (by decide +kernel)) ggX9_resume_X9_readOn
theorem dX9_resume_0 : decode cX9_resume 0 = .ok (.aload_n 0, 1) := by decide +kernel
theorem dX9_resume_1 : decode cX9_resume 1 = .ok (.getfield 120, 3) := by decide +kernel
theorem dX9_resume_4 : decode cX9_resume 4 = .ok (.ifCond .eq 10, 3) := by decide +kernel
theorem dX9_resume_7 : decode cX9_resume 7 = .ok (.aload_n 0, 1) := by decide +kernel
theorem dX9_resume_8 : decode cX9_resume 8 = .ok (.invokevirtual 313, 3) := by decide +kernel
theorem dX9_resume_11 : decode cX9_resume 11 = .ok (.goto 4, 3) := by decide +kernel
theorem dX9_resume_14 : decode cX9_resume 14 = .ok (.iconst (-1), 1) := by decide +kernel
theorem dX9_resume_15 : decode cX9_resume 15 = .ok (.ireturn, 1) := by decide +kernel
theorem dX9_drop_0 : decode cX9_drop 0 = .ok (.aload_n 0, 1) := by decide +kernel
theorem dX9_drop_1 : decode cX9_drop 1 = .ok (.getfield 120, 3) := by decide +kernel
theorem dX9_drop_4 : decode cX9_drop 4 = .ok (.ifCond .ne 5, 3) := by decide +kernel
theorem dX9_drop_7 : decode cX9_drop 7 = .ok (.iconst (-1), 1) := by decide +kernel
theorem dX9_drop_8 : decode cX9_drop 8 = .ok (.ireturn, 1) := by decide +kernel
theorem dX9_drop_9 : decode cX9_drop 9 = .ok (.aload_n 0, 1) := by decide +kernel
theorem dX9_drop_10 : decode cX9_drop 10 = .ok (.iconst 0, 1) := by decide +kernel
theorem dX9_drop_11 : decode cX9_drop 11 = .ok (.putfield 120, 3) := by decide +kernel
theorem dX9_drop_14 : decode cX9_drop 14 = .ok (.aload_n 0, 1) := by decide +kernel
theorem dX9_drop_15 : decode cX9_drop 15 = .ok (.dup, 1) := by decide +kernel
theorem dX9_drop_16 : decode cX9_drop 16 = .ok (.getfield 292, 3) := by decide +kernel
theorem dX9_drop_19 : decode cX9_drop 19 = .ok (.iconst 1, 1) := by decide +kernel
theorem dX9_drop_20 : decode cX9_drop 20 = .ok (.iadd, 1) := by decide +kernel
theorem dX9_drop_21 : decode cX9_drop 21 = .ok (.putfield 292, 3) := by decide +kernel
theorem dX9_drop_24 : decode cX9_drop 24 = .ok (.aload_n 0, 1) := by decide +kernel
theorem dX9_drop_25 : decode cX9_drop 25 = .ok (.getfield 234, 3) := by decide +kernel
theorem dX9_drop_28 : decode cX9_drop 28 = .ok (.ireturn, 1) := by decide +kernel
theorem dX9_failures_0 : decode cX9_failures 0 = .ok (.aload_n 0, 1) := by decide +kernel
theorem dX9_failures_1 : decode cX9_failures 1 = .ok (.getfield 135, 3) := by decide +kernel
theorem dX9_failures_4 : decode cX9_failures 4 = .ok (.ireturn, 1) := by decide +kernel
theorem dX9_failure_0 : decode cX9_failure 0 = .ok (.iload_n 1, 1) := by decide +kernel
theorem dX9_failure_1 : decode cX9_failure 1 = .ok (.ifCond .lt 27, 3) := by decide +kernel
theorem dX9_failure_4 : decode cX9_failure 4 = .ok (.iload_n 1, 1) := by decide +kernel
theorem dX9_failure_5 : decode cX9_failure 5 = .ok (.aload_n 0, 1) := by decide +kernel
theorem dX9_failure_6 : decode cX9_failure 6 = .ok (.getfield 135, 3) := by decide +kernel
theorem dX9_failure_9 : decode cX9_failure 9 = .ok (.if_icmp .ge 19, 3) := by decide +kernel
theorem dX9_failure_12 : decode cX9_failure 12 = .ok (.iload_n 1, 1) := by decide +kernel
theorem dX9_failure_13 : decode cX9_failure 13 = .ok (.sipush 300, 3) := by decide +kernel
theorem dX9_failure_16 : decode cX9_failure 16 = .ok (.if_icmp .ge 12, 3) := by decide +kernel
theorem dX9_failure_19 : decode cX9_failure 19 = .ok (.iload_n 2, 1) := by decide +kernel
theorem dX9_failure_20 : decode cX9_failure 20 = .ok (.ifCond .lt 8, 3) := by decide +kernel
theorem dX9_failure_23 : decode cX9_failure 23 = .ok (.iload_n 2, 1) := by decide +kernel
theorem dX9_failure_24 : decode cX9_failure 24 = .ok (.iconst 4, 1) := by decide +kernel
theorem dX9_failure_25 : decode cX9_failure 25 = .ok (.if_icmp .le 5, 3) := by decide +kernel
theorem dX9_failure_28 : decode cX9_failure 28 = .ok (.iconst (-1), 1) := by decide +kernel
theorem dX9_failure_29 : decode cX9_failure 29 = .ok (.ireturn, 1) := by decide +kernel
theorem dX9_failure_30 : decode cX9_failure 30 = .ok (.iload_n 2, 1) := by decide +kernel
theorem dX9_failure_31 : decode cX9_failure 31 = .ok (.ifCond .ne 12, 3) := by decide +kernel
theorem dX9_failure_34 : decode cX9_failure 34 = .ok (.aload_n 0, 1) := by decide +kernel
theorem dX9_failure_35 : decode cX9_failure 35 = .ok (.getfield 50, 3) := by decide +kernel
theorem dX9_failure_38 : decode cX9_failure 38 = .ok (.iload_n 1, 1) := by decide +kernel
theorem dX9_failure_39 : decode cX9_failure 39 = .ok (.iaload, 1) := by decide +kernel
theorem dX9_failure_40 : decode cX9_failure 40 = .ok (.goto 51, 3) := by decide +kernel
theorem dX9_failure_43 : decode cX9_failure 43 = .ok (.iload_n 2, 1) := by decide +kernel
theorem dX9_failure_44 : decode cX9_failure 44 = .ok (.iconst 1, 1) := by decide +kernel
theorem dX9_failure_45 : decode cX9_failure 45 = .ok (.if_icmp .ne 12, 3) := by decide +kernel
theorem dX9_failure_48 : decode cX9_failure 48 = .ok (.aload_n 0, 1) := by decide +kernel
theorem dX9_failure_49 : decode cX9_failure 49 = .ok (.getfield 53, 3) := by decide +kernel
theorem dX9_failure_52 : decode cX9_failure 52 = .ok (.iload_n 1, 1) := by decide +kernel
theorem dX9_failure_53 : decode cX9_failure 53 = .ok (.iaload, 1) := by decide +kernel
theorem dX9_failure_54 : decode cX9_failure 54 = .ok (.goto 37, 3) := by decide +kernel
theorem dX9_failure_57 : decode cX9_failure 57 = .ok (.iload_n 2, 1) := by decide +kernel
theorem dX9_failure_58 : decode cX9_failure 58 = .ok (.iconst 2, 1) := by decide +kernel
theorem dX9_failure_59 : decode cX9_failure 59 = .ok (.if_icmp .ne 12, 3) := by decide +kernel
theorem dX9_failure_62 : decode cX9_failure 62 = .ok (.aload_n 0, 1) := by decide +kernel
theorem dX9_failure_63 : decode cX9_failure 63 = .ok (.getfield 56, 3) := by decide +kernel
theorem dX9_failure_66 : decode cX9_failure 66 = .ok (.iload_n 1, 1) := by decide +kernel
theorem dX9_failure_67 : decode cX9_failure 67 = .ok (.iaload, 1) := by decide +kernel
theorem dX9_failure_68 : decode cX9_failure 68 = .ok (.goto 23, 3) := by decide +kernel
theorem dX9_failure_71 : decode cX9_failure 71 = .ok (.iload_n 2, 1) := by decide +kernel
theorem dX9_failure_72 : decode cX9_failure 72 = .ok (.iconst 3, 1) := by decide +kernel
theorem dX9_failure_73 : decode cX9_failure 73 = .ok (.if_icmp .ne 12, 3) := by decide +kernel
theorem dX9_failure_76 : decode cX9_failure 76 = .ok (.aload_n 0, 1) := by decide +kernel
theorem dX9_failure_77 : decode cX9_failure 77 = .ok (.getfield 59, 3) := by decide +kernel
theorem dX9_failure_80 : decode cX9_failure 80 = .ok (.iload_n 1, 1) := by decide +kernel
theorem dX9_failure_81 : decode cX9_failure 81 = .ok (.iaload, 1) := by decide +kernel
theorem dX9_failure_82 : decode cX9_failure 82 = .ok (.goto 9, 3) := by decide +kernel
theorem dX9_failure_85 : decode cX9_failure 85 = .ok (.aload_n 0, 1) := by decide +kernel
theorem dX9_failure_86 : decode cX9_failure 86 = .ok (.getfield 62, 3) := by decide +kernel
theorem dX9_failure_89 : decode cX9_failure 89 = .ok (.iload_n 1, 1) := by decide +kernel
theorem dX9_failure_90 : decode cX9_failure 90 = .ok (.iaload, 1) := by decide +kernel
theorem dX9_failure_91 : decode cX9_failure 91 = .ok (.ireturn, 1) := by decide +kernel
set_option maxRecDepth 20000 in
theorem ggX9_many_X9_groupOf : GoodIn wsX9_many wsX9_groupOf := goodIn_r _ [5] (by decide +kernel) (by decide +kernel)
set_option maxRecDepth 20000 in
theorem gX9_many_X9_groupOf : GoodIn wsX9_many (va_wsS RX9 131 yX9_groupOf wsX9_groupOf) := goodIn_app (goodIn_of _ (by decide +kernel)) ggX9_many_X9_groupOf
theorem dX9_many_0 : decode cX9_many 0 = .ok (.iload_n 1, 1) := by decide +kernel
theorem dX9_many_1 : decode cX9_many 1 = .ok (.iconst 1, 1) := by decide +kernel
theorem dX9_many_2 : decode cX9_many 2 = .ok (.if_icmp .lt 9, 3) := by decide +kernel
theorem dX9_many_5 : decode cX9_many 5 = .ok (.iload_n 1, 1) := by decide +kernel
theorem dX9_many_6 : decode cX9_many 6 = .ok (.bipush 29, 2) := by decide +kernel
theorem dX9_many_8 : decode cX9_many 8 = .ok (.if_icmp .le 5, 3) := by decide +kernel
theorem dX9_many_11 : decode cX9_many 11 = .ok (.iconst (-1), 1) := by decide +kernel
theorem dX9_many_12 : decode cX9_many 12 = .ok (.ireturn, 1) := by decide +kernel
theorem dX9_many_13 : decode cX9_many 13 = .ok (.iconst 0, 1) := by decide +kernel
theorem dX9_many_14 : decode cX9_many 14 = .ok (.istore_n 2, 1) := by decide +kernel
theorem dX9_many_15 : decode cX9_many 15 = .ok (.iconst 1, 1) := by decide +kernel
theorem dX9_many_16 : decode cX9_many 16 = .ok (.istore_n 3, 1) := by decide +kernel
theorem dX9_many_17 : decode cX9_many 17 = .ok (.iload_n 3, 1) := by decide +kernel
theorem dX9_many_18 : decode cX9_many 18 = .ok (.bipush 22, 2) := by decide +kernel
theorem dX9_many_20 : decode cX9_many 20 = .ok (.if_icmp .ge 66, 3) := by decide +kernel
theorem dX9_many_23 : decode cX9_many 23 = .ok (.iconst 0, 1) := by decide +kernel
theorem dX9_many_24 : decode cX9_many 24 = .ok (.istore 4, 2) := by decide +kernel
theorem dX9_many_26 : decode cX9_many 26 = .ok (.iload_n 3, 1) := by decide +kernel
theorem dX9_many_27 : decode cX9_many 27 = .ok (.istore 5, 2) := by decide +kernel
theorem dX9_many_29 : decode cX9_many 29 = .ok (.iload 5, 2) := by decide +kernel
theorem dX9_many_31 : decode cX9_many 31 = .ok (.ifCond .eq 31, 3) := by decide +kernel
theorem dX9_many_34 : decode cX9_many 34 = .ok (.iload 4, 2) := by decide +kernel
theorem dX9_many_36 : decode cX9_many 36 = .ok (.ifCond .ne 9, 3) := by decide +kernel
theorem dX9_many_39 : decode cX9_many 39 = .ok (.iload 5, 2) := by decide +kernel
theorem dX9_many_41 : decode cX9_many 41 = .ok (.iload_n 1, 1) := by decide +kernel
theorem dX9_many_42 : decode cX9_many 42 = .ok (.if_icmp .ne 7, 3) := by decide +kernel
theorem dX9_many_45 : decode cX9_many 45 = .ok (.iconst 1, 1) := by decide +kernel
theorem dX9_many_46 : decode cX9_many 46 = .ok (.goto 4, 3) := by decide +kernel
theorem dX9_many_49 : decode cX9_many 49 = .ok (.iconst 0, 1) := by decide +kernel
theorem dX9_many_50 : decode cX9_many 50 = .ok (.istore 4, 2) := by decide +kernel
theorem dX9_many_52 : decode cX9_many 52 = .ok (.iload 5, 2) := by decide +kernel
theorem dX9_many_54 : decode cX9_many 54 = .ok (.invokestatic 131, 3) := by decide +kernel
theorem dX9_many_57 : decode cX9_many 57 = .ok (.istore 5, 2) := by decide +kernel
theorem dX9_many_59 : decode cX9_many 59 = .ok (.goto (-30), 3) := by decide +kernel
theorem dX9_many_62 : decode cX9_many 62 = .ok (.iload_n 2, 1) := by decide +kernel
theorem dX9_many_63 : decode cX9_many 63 = .ok (.iload 4, 2) := by decide +kernel
theorem dX9_many_65 : decode cX9_many 65 = .ok (.ifCond .eq 12, 3) := by decide +kernel
theorem dX9_many_68 : decode cX9_many 68 = .ok (.aload_n 0, 1) := by decide +kernel
theorem dX9_many_69 : decode cX9_many 69 = .ok (.getfield 65, 3) := by decide +kernel
theorem dX9_many_72 : decode cX9_many 72 = .ok (.iload_n 3, 1) := by decide +kernel
theorem dX9_many_73 : decode cX9_many 73 = .ok (.iaload, 1) := by decide +kernel
theorem dX9_many_74 : decode cX9_many 74 = .ok (.goto 4, 3) := by decide +kernel
theorem dX9_many_77 : decode cX9_many 77 = .ok (.iconst 0, 1) := by decide +kernel
theorem dX9_many_78 : decode cX9_many 78 = .ok (.iadd, 1) := by decide +kernel
theorem dX9_many_79 : decode cX9_many 79 = .ok (.istore_n 2, 1) := by decide +kernel
theorem dX9_many_80 : decode cX9_many 80 = .ok (.iinc 3 1, 3) := by decide +kernel
theorem dX9_many_83 : decode cX9_many 83 = .ok (.goto (-66), 3) := by decide +kernel
theorem dX9_many_86 : decode cX9_many 86 = .ok (.iload_n 2, 1) := by decide +kernel
theorem dX9_many_87 : decode cX9_many 87 = .ok (.ireturn, 1) := by decide +kernel
theorem dX9_depth_0 : decode cX9_depth 0 = .ok (.iload_n 1, 1) := by decide +kernel
theorem dX9_depth_1 : decode cX9_depth 1 = .ok (.ifCond .lt 18, 3) := by decide +kernel
theorem dX9_depth_4 : decode cX9_depth 4 = .ok (.iload_n 1, 1) := by decide +kernel
theorem dX9_depth_5 : decode cX9_depth 5 = .ok (.aload_n 0, 1) := by decide +kernel
theorem dX9_depth_6 : decode cX9_depth 6 = .ok (.getfield 135, 3) := by decide +kernel
theorem dX9_depth_9 : decode cX9_depth 9 = .ok (.if_icmp .ge 10, 3) := by decide +kernel
theorem dX9_depth_12 : decode cX9_depth 12 = .ok (.iload_n 1, 1) := by decide +kernel
theorem dX9_depth_13 : decode cX9_depth 13 = .ok (.sipush 300, 3) := by decide +kernel
theorem dX9_depth_16 : decode cX9_depth 16 = .ok (.if_icmp .lt 5, 3) := by decide +kernel
theorem dX9_depth_19 : decode cX9_depth 19 = .ok (.iconst (-1), 1) := by decide +kernel
theorem dX9_depth_20 : decode cX9_depth 20 = .ok (.ireturn, 1) := by decide +kernel
theorem dX9_depth_21 : decode cX9_depth 21 = .ok (.iconst 0, 1) := by decide +kernel
theorem dX9_depth_22 : decode cX9_depth 22 = .ok (.istore_n 2, 1) := by decide +kernel
theorem dX9_depth_23 : decode cX9_depth 23 = .ok (.aload_n 0, 1) := by decide +kernel
theorem dX9_depth_24 : decode cX9_depth 24 = .ok (.getfield 56, 3) := by decide +kernel
theorem dX9_depth_27 : decode cX9_depth 27 = .ok (.iload_n 1, 1) := by decide +kernel
theorem dX9_depth_28 : decode cX9_depth 28 = .ok (.iaload, 1) := by decide +kernel
theorem dX9_depth_29 : decode cX9_depth 29 = .ok (.istore_n 3, 1) := by decide +kernel
theorem dX9_depth_30 : decode cX9_depth 30 = .ok (.iload_n 3, 1) := by decide +kernel
theorem dX9_depth_31 : decode cX9_depth 31 = .ok (.ifCond .lt 16, 3) := by decide +kernel
theorem dX9_depth_34 : decode cX9_depth 34 = .ok (.iinc 2 1, 3) := by decide +kernel
theorem dX9_depth_37 : decode cX9_depth 37 = .ok (.aload_n 0, 1) := by decide +kernel
theorem dX9_depth_38 : decode cX9_depth 38 = .ok (.getfield 56, 3) := by decide +kernel
theorem dX9_depth_41 : decode cX9_depth 41 = .ok (.iload_n 3, 1) := by decide +kernel
theorem dX9_depth_42 : decode cX9_depth 42 = .ok (.iaload, 1) := by decide +kernel
theorem dX9_depth_43 : decode cX9_depth 43 = .ok (.istore_n 3, 1) := by decide +kernel
theorem dX9_depth_44 : decode cX9_depth 44 = .ok (.goto (-14), 3) := by decide +kernel
theorem dX9_depth_47 : decode cX9_depth 47 = .ok (.iload_n 2, 1) := by decide +kernel
theorem dX9_depth_48 : decode cX9_depth 48 = .ok (.ireturn, 1) := by decide +kernel
set_option maxRecDepth 20000 in
theorem ggX9_sheet_X9_takenPersons : GoodIn wsX9_sheet wsX9_takenPersons := goodIn_r _ [9, 2, 10, 11, 12, 13, 14, 15, 16, 17, 18, 19, 20, 21, 22, 23, 24, 25, 26, 27, 28, 29, 30, 31, 32, 33, 34, 35, 36, 37, 38, 39, 40, 41, 42, 43, 44, 45, 46, 47, 48, 49, 50, 51, 52, 53, 54, 55, 56, 57, 58, 59, 60, 61, 62, 63, 64, 65, 66, 67, 68, 69, 70, 71, 72, 73, 74, 75, 76, 77, 78, 79] (by decide +kernel) (by decide +kernel)
set_option maxRecDepth 20000 in
theorem gX9_sheet_X9_takenPersons : GoodIn wsX9_sheet (wsV RX9 301 RX9 yX9_takenPersons wsX9_takenPersons) := goodIn_app (goodIn_of _ (by decide +kernel)) ggX9_sheet_X9_takenPersons
theorem dX9_sheet_0 : decode cX9_sheet 0 = .ok (.iload_n 1, 1) := by decide +kernel
theorem dX9_sheet_1 : decode cX9_sheet 1 = .ok (.tableswitch 60 0 4 #[35, 40, 45, 50, 55], 35) := by decide +kernel
theorem dX9_sheet_36 : decode cX9_sheet 36 = .ok (.aload_n 0, 1) := by decide +kernel
theorem dX9_sheet_37 : decode cX9_sheet 37 = .ok (.getfield 274, 3) := by decide +kernel
theorem dX9_sheet_40 : decode cX9_sheet 40 = .ok (.ireturn, 1) := by decide +kernel
theorem dX9_sheet_41 : decode cX9_sheet 41 = .ok (.aload_n 0, 1) := by decide +kernel
theorem dX9_sheet_42 : decode cX9_sheet 42 = .ok (.getfield 234, 3) := by decide +kernel
theorem dX9_sheet_45 : decode cX9_sheet 45 = .ok (.ireturn, 1) := by decide +kernel
theorem dX9_sheet_46 : decode cX9_sheet 46 = .ok (.aload_n 0, 1) := by decide +kernel
theorem dX9_sheet_47 : decode cX9_sheet 47 = .ok (.getfield 161, 3) := by decide +kernel
theorem dX9_sheet_50 : decode cX9_sheet 50 = .ok (.ireturn, 1) := by decide +kernel
theorem dX9_sheet_51 : decode cX9_sheet 51 = .ok (.aload_n 0, 1) := by decide +kernel
theorem dX9_sheet_52 : decode cX9_sheet 52 = .ok (.invokevirtual 301, 3) := by decide +kernel
theorem dX9_sheet_55 : decode cX9_sheet 55 = .ok (.ireturn, 1) := by decide +kernel
theorem dX9_sheet_56 : decode cX9_sheet 56 = .ok (.aload_n 0, 1) := by decide +kernel
theorem dX9_sheet_57 : decode cX9_sheet 57 = .ok (.getfield 261, 3) := by decide +kernel
theorem dX9_sheet_60 : decode cX9_sheet 60 = .ok (.ireturn, 1) := by decide +kernel
theorem dX9_sheet_61 : decode cX9_sheet 61 = .ok (.iconst (-1), 1) := by decide +kernel
theorem dX9_sheet_62 : decode cX9_sheet 62 = .ok (.ireturn, 1) := by decide +kernel
theorem dX9_sum_0 : decode cX9_sum 0 = .ok (.iconst 0, 1) := by decide +kernel
theorem dX9_sum_1 : decode cX9_sum 1 = .ok (.istore_n 2, 1) := by decide +kernel
theorem dX9_sum_2 : decode cX9_sum 2 = .ok (.iload_n 1, 1) := by decide +kernel
theorem dX9_sum_3 : decode cX9_sum 3 = .ok (.tableswitch 77 0 8 #[49, 54, 74, 74, 74, 74, 59, 64, 69], 49) := by decide +kernel
theorem dX9_sum_52 : decode cX9_sum 52 = .ok (.aload_n 0, 1) := by decide +kernel
theorem dX9_sum_53 : decode cX9_sum 53 = .ok (.getfield 295, 3) := by decide +kernel
theorem dX9_sum_56 : decode cX9_sum 56 = .ok (.ireturn, 1) := by decide +kernel
theorem dX9_sum_57 : decode cX9_sum 57 = .ok (.aload_n 0, 1) := by decide +kernel
theorem dX9_sum_58 : decode cX9_sum 58 = .ok (.getfield 298, 3) := by decide +kernel
theorem dX9_sum_61 : decode cX9_sum 61 = .ok (.ireturn, 1) := by decide +kernel
theorem dX9_sum_62 : decode cX9_sum 62 = .ok (.aload_n 0, 1) := by decide +kernel
theorem dX9_sum_63 : decode cX9_sum 63 = .ok (.getfield 310, 3) := by decide +kernel
theorem dX9_sum_66 : decode cX9_sum 66 = .ok (.ireturn, 1) := by decide +kernel
theorem dX9_sum_67 : decode cX9_sum 67 = .ok (.aload_n 0, 1) := by decide +kernel
theorem dX9_sum_68 : decode cX9_sum 68 = .ok (.getfield 292, 3) := by decide +kernel
theorem dX9_sum_71 : decode cX9_sum 71 = .ok (.ireturn, 1) := by decide +kernel
theorem dX9_sum_72 : decode cX9_sum 72 = .ok (.aload_n 0, 1) := by decide +kernel
theorem dX9_sum_73 : decode cX9_sum 73 = .ok (.getfield 304, 3) := by decide +kernel
theorem dX9_sum_76 : decode cX9_sum 76 = .ok (.ireturn, 1) := by decide +kernel
theorem dX9_sum_77 : decode cX9_sum 77 = .ok (.goto 5, 3) := by decide +kernel
theorem dX9_sum_80 : decode cX9_sum 80 = .ok (.iconst (-1), 1) := by decide +kernel
theorem dX9_sum_81 : decode cX9_sum 81 = .ok (.ireturn, 1) := by decide +kernel
theorem dX9_sum_82 : decode cX9_sum 82 = .ok (.iconst 0, 1) := by decide +kernel
theorem dX9_sum_83 : decode cX9_sum 83 = .ok (.istore_n 3, 1) := by decide +kernel
theorem dX9_sum_84 : decode cX9_sum 84 = .ok (.iload_n 3, 1) := by decide +kernel
theorem dX9_sum_85 : decode cX9_sum 85 = .ok (.aload_n 0, 1) := by decide +kernel
theorem dX9_sum_86 : decode cX9_sum 86 = .ok (.getfield 298, 3) := by decide +kernel
theorem dX9_sum_89 : decode cX9_sum 89 = .ok (.if_icmp .ge 78, 3) := by decide +kernel
theorem dX9_sum_92 : decode cX9_sum 92 = .ok (.iload_n 2, 1) := by decide +kernel
theorem dX9_sum_93 : decode cX9_sum 93 = .ok (.iload_n 1, 1) := by decide +kernel
theorem dX9_sum_94 : decode cX9_sum 94 = .ok (.iconst 4, 1) := by decide +kernel
theorem dX9_sum_95 : decode cX9_sum 95 = .ok (.if_icmp .ge 23, 3) := by decide +kernel
theorem dX9_sum_98 : decode cX9_sum 98 = .ok (.aload_n 0, 1) := by decide +kernel
theorem dX9_sum_99 : decode cX9_sum 99 = .ok (.getfield 98, 3) := by decide +kernel
theorem dX9_sum_102 : decode cX9_sum 102 = .ok (.iload_n 3, 1) := by decide +kernel
theorem dX9_sum_103 : decode cX9_sum 103 = .ok (.iaload, 1) := by decide +kernel
theorem dX9_sum_104 : decode cX9_sum 104 = .ok (.iload_n 1, 1) := by decide +kernel
theorem dX9_sum_105 : decode cX9_sum 105 = .ok (.iconst 2, 1) := by decide +kernel
theorem dX9_sum_106 : decode cX9_sum 106 = .ok (.isub, 1) := by decide +kernel
theorem dX9_sum_107 : decode cX9_sum 107 = .ok (.if_icmp .ne 7, 3) := by decide +kernel
theorem dX9_sum_110 : decode cX9_sum 110 = .ok (.iconst 1, 1) := by decide +kernel
theorem dX9_sum_111 : decode cX9_sum 111 = .ok (.goto 48, 3) := by decide +kernel
theorem dX9_sum_114 : decode cX9_sum 114 = .ok (.iconst 0, 1) := by decide +kernel
theorem dX9_sum_115 : decode cX9_sum 115 = .ok (.goto 44, 3) := by decide +kernel
theorem dX9_sum_118 : decode cX9_sum 118 = .ok (.iload_n 1, 1) := by decide +kernel
theorem dX9_sum_119 : decode cX9_sum 119 = .ok (.iconst 4, 1) := by decide +kernel
theorem dX9_sum_120 : decode cX9_sum 120 = .ok (.if_icmp .ne 25, 3) := by decide +kernel
theorem dX9_sum_123 : decode cX9_sum 123 = .ok (.aload_n 0, 1) := by decide +kernel
theorem dX9_sum_124 : decode cX9_sum 124 = .ok (.getfield 101, 3) := by decide +kernel
theorem dX9_sum_127 : decode cX9_sum 127 = .ok (.iload_n 3, 1) := by decide +kernel
theorem dX9_sum_128 : decode cX9_sum 128 = .ok (.iaload, 1) := by decide +kernel
theorem dX9_sum_129 : decode cX9_sum 129 = .ok (.ifCond .lt 12, 3) := by decide +kernel
theorem dX9_sum_132 : decode cX9_sum 132 = .ok (.aload_n 0, 1) := by decide +kernel
theorem dX9_sum_133 : decode cX9_sum 133 = .ok (.getfield 101, 3) := by decide +kernel
theorem dX9_sum_136 : decode cX9_sum 136 = .ok (.iload_n 3, 1) := by decide +kernel
theorem dX9_sum_137 : decode cX9_sum 137 = .ok (.iaload, 1) := by decide +kernel
theorem dX9_sum_138 : decode cX9_sum 138 = .ok (.goto 21, 3) := by decide +kernel
theorem dX9_sum_141 : decode cX9_sum 141 = .ok (.iconst 0, 1) := by decide +kernel
theorem dX9_sum_142 : decode cX9_sum 142 = .ok (.goto 17, 3) := by decide +kernel
theorem dX9_sum_145 : decode cX9_sum 145 = .ok (.aload_n 0, 1) := by decide +kernel
theorem dX9_sum_146 : decode cX9_sum 146 = .ok (.getfield 101, 3) := by decide +kernel
theorem dX9_sum_149 : decode cX9_sum 149 = .ok (.iload_n 3, 1) := by decide +kernel
theorem dX9_sum_150 : decode cX9_sum 150 = .ok (.iaload, 1) := by decide +kernel
theorem dX9_sum_151 : decode cX9_sum 151 = .ok (.ifCond .ge 7, 3) := by decide +kernel
theorem dX9_sum_154 : decode cX9_sum 154 = .ok (.iconst 1, 1) := by decide +kernel
theorem dX9_sum_155 : decode cX9_sum 155 = .ok (.goto 4, 3) := by decide +kernel
theorem dX9_sum_158 : decode cX9_sum 158 = .ok (.iconst 0, 1) := by decide +kernel
theorem dX9_sum_159 : decode cX9_sum 159 = .ok (.iadd, 1) := by decide +kernel
theorem dX9_sum_160 : decode cX9_sum 160 = .ok (.istore_n 2, 1) := by decide +kernel
theorem dX9_sum_161 : decode cX9_sum 161 = .ok (.iinc 3 1, 3) := by decide +kernel
theorem dX9_sum_164 : decode cX9_sum 164 = .ok (.goto (-80), 3) := by decide +kernel
theorem dX9_sum_167 : decode cX9_sum 167 = .ok (.iload_n 2, 1) := by decide +kernel
theorem dX9_sum_168 : decode cX9_sum 168 = .ok (.ireturn, 1) := by decide +kernel
theorem dX9_house_0 : decode cX9_house 0 = .ok (.iload_n 1, 1) := by decide +kernel
theorem dX9_house_1 : decode cX9_house 1 = .ok (.ifCond .lt 20, 3) := by decide +kernel
theorem dX9_house_4 : decode cX9_house 4 = .ok (.iload_n 1, 1) := by decide +kernel
theorem dX9_house_5 : decode cX9_house 5 = .ok (.aload_n 0, 1) := by decide +kernel
theorem dX9_house_6 : decode cX9_house 6 = .ok (.getfield 295, 3) := by decide +kernel
theorem dX9_house_9 : decode cX9_house 9 = .ok (.if_icmp .ge 12, 3) := by decide +kernel
theorem dX9_house_12 : decode cX9_house 12 = .ok (.iload_n 2, 1) := by decide +kernel
theorem dX9_house_13 : decode cX9_house 13 = .ok (.ifCond .lt 8, 3) := by decide +kernel
theorem dX9_house_16 : decode cX9_house 16 = .ok (.iload_n 2, 1) := by decide +kernel
theorem dX9_house_17 : decode cX9_house 17 = .ok (.iconst 4, 1) := by decide +kernel
theorem dX9_house_18 : decode cX9_house 18 = .ok (.if_icmp .le 5, 3) := by decide +kernel
theorem dX9_house_21 : decode cX9_house 21 = .ok (.iconst (-1), 1) := by decide +kernel
theorem dX9_house_22 : decode cX9_house 22 = .ok (.ireturn, 1) := by decide +kernel
theorem dX9_house_23 : decode cX9_house 23 = .ok (.iload_n 2, 1) := by decide +kernel
theorem dX9_house_24 : decode cX9_house 24 = .ok (.ifCond .ne 12, 3) := by decide +kernel
theorem dX9_house_27 : decode cX9_house 27 = .ok (.aload_n 0, 1) := by decide +kernel
theorem dX9_house_28 : decode cX9_house 28 = .ok (.getfield 83, 3) := by decide +kernel
theorem dX9_house_31 : decode cX9_house 31 = .ok (.iload_n 1, 1) := by decide +kernel
theorem dX9_house_32 : decode cX9_house 32 = .ok (.iaload, 1) := by decide +kernel
theorem dX9_house_33 : decode cX9_house 33 = .ok (.goto 51, 3) := by decide +kernel
theorem dX9_house_36 : decode cX9_house 36 = .ok (.iload_n 2, 1) := by decide +kernel
theorem dX9_house_37 : decode cX9_house 37 = .ok (.iconst 1, 1) := by decide +kernel
theorem dX9_house_38 : decode cX9_house 38 = .ok (.if_icmp .ne 12, 3) := by decide +kernel
theorem dX9_house_41 : decode cX9_house 41 = .ok (.aload_n 0, 1) := by decide +kernel
theorem dX9_house_42 : decode cX9_house 42 = .ok (.getfield 86, 3) := by decide +kernel
theorem dX9_house_45 : decode cX9_house 45 = .ok (.iload_n 1, 1) := by decide +kernel
theorem dX9_house_46 : decode cX9_house 46 = .ok (.iaload, 1) := by decide +kernel
theorem dX9_house_47 : decode cX9_house 47 = .ok (.goto 37, 3) := by decide +kernel
theorem dX9_house_50 : decode cX9_house 50 = .ok (.iload_n 2, 1) := by decide +kernel
theorem dX9_house_51 : decode cX9_house 51 = .ok (.iconst 2, 1) := by decide +kernel
theorem dX9_house_52 : decode cX9_house 52 = .ok (.if_icmp .ne 12, 3) := by decide +kernel
theorem dX9_house_55 : decode cX9_house 55 = .ok (.aload_n 0, 1) := by decide +kernel
theorem dX9_house_56 : decode cX9_house 56 = .ok (.getfield 89, 3) := by decide +kernel
theorem dX9_house_59 : decode cX9_house 59 = .ok (.iload_n 1, 1) := by decide +kernel
theorem dX9_house_60 : decode cX9_house 60 = .ok (.iaload, 1) := by decide +kernel
theorem dX9_house_61 : decode cX9_house 61 = .ok (.goto 23, 3) := by decide +kernel
theorem dX9_house_64 : decode cX9_house 64 = .ok (.iload_n 2, 1) := by decide +kernel
theorem dX9_house_65 : decode cX9_house 65 = .ok (.iconst 3, 1) := by decide +kernel
theorem dX9_house_66 : decode cX9_house 66 = .ok (.if_icmp .ne 12, 3) := by decide +kernel
theorem dX9_house_69 : decode cX9_house 69 = .ok (.aload_n 0, 1) := by decide +kernel
theorem dX9_house_70 : decode cX9_house 70 = .ok (.getfield 92, 3) := by decide +kernel
theorem dX9_house_73 : decode cX9_house 73 = .ok (.iload_n 1, 1) := by decide +kernel
theorem dX9_house_74 : decode cX9_house 74 = .ok (.iaload, 1) := by decide +kernel
theorem dX9_house_75 : decode cX9_house 75 = .ok (.goto 9, 3) := by decide +kernel
theorem dX9_house_78 : decode cX9_house 78 = .ok (.aload_n 0, 1) := by decide +kernel
theorem dX9_house_79 : decode cX9_house 79 = .ok (.getfield 95, 3) := by decide +kernel
theorem dX9_house_82 : decode cX9_house 82 = .ok (.iload_n 1, 1) := by decide +kernel
theorem dX9_house_83 : decode cX9_house 83 = .ok (.iaload, 1) := by decide +kernel
theorem dX9_house_84 : decode cX9_house 84 = .ok (.ireturn, 1) := by decide +kernel
theorem dX9_person_0 : decode cX9_person 0 = .ok (.iload_n 1, 1) := by decide +kernel
theorem dX9_person_1 : decode cX9_person 1 = .ok (.ifCond .lt 20, 3) := by decide +kernel
theorem dX9_person_4 : decode cX9_person 4 = .ok (.iload_n 1, 1) := by decide +kernel
theorem dX9_person_5 : decode cX9_person 5 = .ok (.aload_n 0, 1) := by decide +kernel
theorem dX9_person_6 : decode cX9_person 6 = .ok (.getfield 298, 3) := by decide +kernel
theorem dX9_person_9 : decode cX9_person 9 = .ok (.if_icmp .ge 12, 3) := by decide +kernel
theorem dX9_person_12 : decode cX9_person 12 = .ok (.iload_n 2, 1) := by decide +kernel
theorem dX9_person_13 : decode cX9_person 13 = .ok (.ifCond .lt 8, 3) := by decide +kernel
theorem dX9_person_16 : decode cX9_person 16 = .ok (.iload_n 2, 1) := by decide +kernel
theorem dX9_person_17 : decode cX9_person 17 = .ok (.iconst 4, 1) := by decide +kernel
theorem dX9_person_18 : decode cX9_person 18 = .ok (.if_icmp .le 5, 3) := by decide +kernel
theorem dX9_person_21 : decode cX9_person 21 = .ok (.iconst (-1), 1) := by decide +kernel
theorem dX9_person_22 : decode cX9_person 22 = .ok (.ireturn, 1) := by decide +kernel
theorem dX9_person_23 : decode cX9_person 23 = .ok (.iload_n 2, 1) := by decide +kernel
theorem dX9_person_24 : decode cX9_person 24 = .ok (.ifCond .ne 12, 3) := by decide +kernel
theorem dX9_person_27 : decode cX9_person 27 = .ok (.aload_n 0, 1) := by decide +kernel
theorem dX9_person_28 : decode cX9_person 28 = .ok (.getfield 98, 3) := by decide +kernel
theorem dX9_person_31 : decode cX9_person 31 = .ok (.iload_n 1, 1) := by decide +kernel
theorem dX9_person_32 : decode cX9_person 32 = .ok (.iaload, 1) := by decide +kernel
theorem dX9_person_33 : decode cX9_person 33 = .ok (.goto 51, 3) := by decide +kernel
theorem dX9_person_36 : decode cX9_person 36 = .ok (.iload_n 2, 1) := by decide +kernel
theorem dX9_person_37 : decode cX9_person 37 = .ok (.iconst 1, 1) := by decide +kernel
theorem dX9_person_38 : decode cX9_person 38 = .ok (.if_icmp .ne 12, 3) := by decide +kernel
theorem dX9_person_41 : decode cX9_person 41 = .ok (.aload_n 0, 1) := by decide +kernel
theorem dX9_person_42 : decode cX9_person 42 = .ok (.getfield 101, 3) := by decide +kernel
theorem dX9_person_45 : decode cX9_person 45 = .ok (.iload_n 1, 1) := by decide +kernel
theorem dX9_person_46 : decode cX9_person 46 = .ok (.iaload, 1) := by decide +kernel
theorem dX9_person_47 : decode cX9_person 47 = .ok (.goto 37, 3) := by decide +kernel
theorem dX9_person_50 : decode cX9_person 50 = .ok (.iload_n 2, 1) := by decide +kernel
theorem dX9_person_51 : decode cX9_person 51 = .ok (.iconst 2, 1) := by decide +kernel
theorem dX9_person_52 : decode cX9_person 52 = .ok (.if_icmp .ne 12, 3) := by decide +kernel
theorem dX9_person_55 : decode cX9_person 55 = .ok (.aload_n 0, 1) := by decide +kernel
theorem dX9_person_56 : decode cX9_person 56 = .ok (.getfield 104, 3) := by decide +kernel
theorem dX9_person_59 : decode cX9_person 59 = .ok (.iload_n 1, 1) := by decide +kernel
theorem dX9_person_60 : decode cX9_person 60 = .ok (.iaload, 1) := by decide +kernel
theorem dX9_person_61 : decode cX9_person 61 = .ok (.goto 23, 3) := by decide +kernel
theorem dX9_person_64 : decode cX9_person 64 = .ok (.iload_n 2, 1) := by decide +kernel
theorem dX9_person_65 : decode cX9_person 65 = .ok (.iconst 3, 1) := by decide +kernel
theorem dX9_person_66 : decode cX9_person 66 = .ok (.if_icmp .ne 12, 3) := by decide +kernel
theorem dX9_person_69 : decode cX9_person 69 = .ok (.aload_n 0, 1) := by decide +kernel
theorem dX9_person_70 : decode cX9_person 70 = .ok (.getfield 107, 3) := by decide +kernel
theorem dX9_person_73 : decode cX9_person 73 = .ok (.iload_n 1, 1) := by decide +kernel
theorem dX9_person_74 : decode cX9_person 74 = .ok (.iaload, 1) := by decide +kernel
theorem dX9_person_75 : decode cX9_person 75 = .ok (.goto 9, 3) := by decide +kernel
theorem dX9_person_78 : decode cX9_person 78 = .ok (.aload_n 0, 1) := by decide +kernel
theorem dX9_person_79 : decode cX9_person 79 = .ok (.getfield 110, 3) := by decide +kernel
theorem dX9_person_82 : decode cX9_person 82 = .ok (.iload_n 1, 1) := by decide +kernel
theorem dX9_person_83 : decode cX9_person 83 = .ok (.iaload, 1) := by decide +kernel
theorem dX9_person_84 : decode cX9_person 84 = .ok (.ireturn, 1) := by decide +kernel
theorem dX9_sign_0 : decode cX9_sign 0 = .ok (.iload_n 1, 1) := by decide +kernel
theorem dX9_sign_1 : decode cX9_sign 1 = .ok (.ifCond .lt 43, 3) := by decide +kernel
theorem dX9_sign_4 : decode cX9_sign 4 = .ok (.iload_n 1, 1) := by decide +kernel
theorem dX9_sign_5 : decode cX9_sign 5 = .ok (.aload_n 0, 1) := by decide +kernel
theorem dX9_sign_6 : decode cX9_sign 6 = .ok (.getfield 298, 3) := by decide +kernel
theorem dX9_sign_9 : decode cX9_sign 9 = .ok (.if_icmp .ge 35, 3) := by decide +kernel
theorem dX9_sign_12 : decode cX9_sign 12 = .ok (.iload_n 2, 1) := by decide +kernel
theorem dX9_sign_13 : decode cX9_sign 13 = .ok (.ifCond .lt 31, 3) := by decide +kernel
theorem dX9_sign_16 : decode cX9_sign 16 = .ok (.iload_n 2, 1) := by decide +kernel
theorem dX9_sign_17 : decode cX9_sign 17 = .ok (.aload_n 0, 1) := by decide +kernel
theorem dX9_sign_18 : decode cX9_sign 18 = .ok (.getfield 107, 3) := by decide +kernel
theorem dX9_sign_21 : decode cX9_sign 21 = .ok (.iload_n 1, 1) := by decide +kernel
theorem dX9_sign_22 : decode cX9_sign 22 = .ok (.iaload, 1) := by decide +kernel
theorem dX9_sign_23 : decode cX9_sign 23 = .ok (.if_icmp .ge 21, 3) := by decide +kernel
theorem dX9_sign_26 : decode cX9_sign 26 = .ok (.aload_n 0, 1) := by decide +kernel
theorem dX9_sign_27 : decode cX9_sign 27 = .ok (.getfield 113, 3) := by decide +kernel
theorem dX9_sign_30 : decode cX9_sign 30 = .ok (.bipush 30, 2) := by decide +kernel
theorem dX9_sign_32 : decode cX9_sign 32 = .ok (.iload_n 1, 1) := by decide +kernel
theorem dX9_sign_33 : decode cX9_sign 33 = .ok (.imul, 1) := by decide +kernel
theorem dX9_sign_34 : decode cX9_sign 34 = .ok (.iload_n 2, 1) := by decide +kernel
theorem dX9_sign_35 : decode cX9_sign 35 = .ok (.iadd, 1) := by decide +kernel
theorem dX9_sign_36 : decode cX9_sign 36 = .ok (.baload, 1) := by decide +kernel
theorem dX9_sign_37 : decode cX9_sign 37 = .ok (.sipush 255, 3) := by decide +kernel
theorem dX9_sign_40 : decode cX9_sign 40 = .ok (.iand, 1) := by decide +kernel
theorem dX9_sign_41 : decode cX9_sign 41 = .ok (.goto 4, 3) := by decide +kernel
theorem dX9_sign_44 : decode cX9_sign 44 = .ok (.iconst 0, 1) := by decide +kernel
theorem dX9_sign_45 : decode cX9_sign 45 = .ok (.ireturn, 1) := by decide +kernel
set_option maxRecDepth 20000 in
theorem ggX9_named_X9_byteOf : GoodIn wsX9_named wsX9_byteOf := goodIn_r _ [7] (by decide +kernel) (by decide +kernel)
set_option maxRecDepth 20000 in
theorem gX9_named_X9_byteOf : GoodIn wsX9_named (va_wsS RX9 316 yX9_byteOf wsX9_byteOf) := goodIn_app (goodIn_of _ (by decide +kernel)) ggX9_named_X9_byteOf
theorem dX9_named_0 : decode cX9_named 0 = .ok (.iconst 0, 1) := by decide +kernel
theorem dX9_named_1 : decode cX9_named 1 = .ok (.istore 5, 2) := by decide +kernel
theorem dX9_named_3 : decode cX9_named 3 = .ok (.iload 5, 2) := by decide +kernel
theorem dX9_named_5 : decode cX9_named 5 = .ok (.bipush 16, 2) := by decide +kernel
theorem dX9_named_7 : decode cX9_named 7 = .ok (.if_icmp .ge 22, 3) := by decide +kernel
theorem dX9_named_10 : decode cX9_named 10 = .ok (.iload_n 1, 1) := by decide +kernel
theorem dX9_named_11 : decode cX9_named 11 = .ok (.iload_n 2, 1) := by decide +kernel
theorem dX9_named_12 : decode cX9_named 12 = .ok (.iload_n 3, 1) := by decide +kernel
theorem dX9_named_13 : decode cX9_named 13 = .ok (.iload 4, 2) := by decide +kernel
theorem dX9_named_15 : decode cX9_named 15 = .ok (.iload 5, 2) := by decide +kernel
theorem dX9_named_17 : decode cX9_named 17 = .ok (.invokestatic 316, 3) := by decide +kernel
theorem dX9_named_20 : decode cX9_named 20 = .ok (.ifCond .eq 9, 3) := by decide +kernel
theorem dX9_named_23 : decode cX9_named 23 = .ok (.iinc 5 1, 3) := by decide +kernel
theorem dX9_named_26 : decode cX9_named 26 = .ok (.goto (-23), 3) := by decide +kernel
theorem dX9_named_29 : decode cX9_named 29 = .ok (.iconst 0, 1) := by decide +kernel
theorem dX9_named_30 : decode cX9_named 30 = .ok (.istore 6, 2) := by decide +kernel
theorem dX9_named_32 : decode cX9_named 32 = .ok (.iconst 0, 1) := by decide +kernel
theorem dX9_named_33 : decode cX9_named 33 = .ok (.istore 7, 2) := by decide +kernel
theorem dX9_named_35 : decode cX9_named 35 = .ok (.iload 7, 2) := by decide +kernel
theorem dX9_named_37 : decode cX9_named 37 = .ok (.aload_n 0, 1) := by decide +kernel
theorem dX9_named_38 : decode cX9_named 38 = .ok (.getfield 298, 3) := by decide +kernel
theorem dX9_named_41 : decode cX9_named 41 = .ok (.if_icmp .ge 106, 3) := by decide +kernel
theorem dX9_named_44 : decode cX9_named 44 = .ok (.iload 5, 2) := by decide +kernel
theorem dX9_named_46 : decode cX9_named 46 = .ok (.ifCond .le 101, 3) := by decide +kernel
theorem dX9_named_49 : decode cX9_named 49 = .ok (.aload_n 0, 1) := by decide +kernel
theorem dX9_named_50 : decode cX9_named 50 = .ok (.getfield 107, 3) := by decide +kernel
theorem dX9_named_53 : decode cX9_named 53 = .ok (.iload 7, 2) := by decide +kernel
theorem dX9_named_55 : decode cX9_named 55 = .ok (.iaload, 1) := by decide +kernel
theorem dX9_named_56 : decode cX9_named 56 = .ok (.iload 5, 2) := by decide +kernel
theorem dX9_named_58 : decode cX9_named 58 = .ok (.if_icmp .ne 7, 3) := by decide +kernel
theorem dX9_named_61 : decode cX9_named 61 = .ok (.iconst 1, 1) := by decide +kernel
theorem dX9_named_62 : decode cX9_named 62 = .ok (.goto 4, 3) := by decide +kernel
theorem dX9_named_65 : decode cX9_named 65 = .ok (.iconst 0, 1) := by decide +kernel
theorem dX9_named_66 : decode cX9_named 66 = .ok (.istore 8, 2) := by decide +kernel
theorem dX9_named_68 : decode cX9_named 68 = .ok (.iconst 0, 1) := by decide +kernel
theorem dX9_named_69 : decode cX9_named 69 = .ok (.istore 9, 2) := by decide +kernel
theorem dX9_named_71 : decode cX9_named 71 = .ok (.iload 9, 2) := by decide +kernel
theorem dX9_named_73 : decode cX9_named 73 = .ok (.iload 5, 2) := by decide +kernel
theorem dX9_named_75 : decode cX9_named 75 = .ok (.if_icmp .ge 51, 3) := by decide +kernel
theorem dX9_named_78 : decode cX9_named 78 = .ok (.iload 8, 2) := by decide +kernel
theorem dX9_named_80 : decode cX9_named 80 = .ok (.ifCond .eq 46, 3) := by decide +kernel
theorem dX9_named_83 : decode cX9_named 83 = .ok (.aload_n 0, 1) := by decide +kernel
theorem dX9_named_84 : decode cX9_named 84 = .ok (.getfield 113, 3) := by decide +kernel
theorem dX9_named_87 : decode cX9_named 87 = .ok (.bipush 30, 2) := by decide +kernel
theorem dX9_named_89 : decode cX9_named 89 = .ok (.iload 7, 2) := by decide +kernel
theorem dX9_named_91 : decode cX9_named 91 = .ok (.imul, 1) := by decide +kernel
theorem dX9_named_92 : decode cX9_named 92 = .ok (.iload 9, 2) := by decide +kernel
theorem dX9_named_94 : decode cX9_named 94 = .ok (.iadd, 1) := by decide +kernel
theorem dX9_named_95 : decode cX9_named 95 = .ok (.baload, 1) := by decide +kernel
theorem dX9_named_96 : decode cX9_named 96 = .ok (.sipush 255, 3) := by decide +kernel
theorem dX9_named_99 : decode cX9_named 99 = .ok (.iand, 1) := by decide +kernel
theorem dX9_named_100 : decode cX9_named 100 = .ok (.iload_n 1, 1) := by decide +kernel
theorem dX9_named_101 : decode cX9_named 101 = .ok (.iload_n 2, 1) := by decide +kernel
theorem dX9_named_102 : decode cX9_named 102 = .ok (.iload_n 3, 1) := by decide +kernel
theorem dX9_named_103 : decode cX9_named 103 = .ok (.iload 4, 2) := by decide +kernel
theorem dX9_named_105 : decode cX9_named 105 = .ok (.iload 9, 2) := by decide +kernel
theorem dX9_named_107 : decode cX9_named 107 = .ok (.invokestatic 316, 3) := by decide +kernel
theorem dX9_named_110 : decode cX9_named 110 = .ok (.if_icmp .ne 7, 3) := by decide +kernel
theorem dX9_named_113 : decode cX9_named 113 = .ok (.iconst 1, 1) := by decide +kernel
theorem dX9_named_114 : decode cX9_named 114 = .ok (.goto 4, 3) := by decide +kernel
theorem dX9_named_117 : decode cX9_named 117 = .ok (.iconst 0, 1) := by decide +kernel
theorem dX9_named_118 : decode cX9_named 118 = .ok (.istore 8, 2) := by decide +kernel
theorem dX9_named_120 : decode cX9_named 120 = .ok (.iinc 9 1, 3) := by decide +kernel
theorem dX9_named_123 : decode cX9_named 123 = .ok (.goto (-52), 3) := by decide +kernel
theorem dX9_named_126 : decode cX9_named 126 = .ok (.iload 6, 2) := by decide +kernel
theorem dX9_named_128 : decode cX9_named 128 = .ok (.iload 8, 2) := by decide +kernel
theorem dX9_named_130 : decode cX9_named 130 = .ok (.ifCond .eq 7, 3) := by decide +kernel
theorem dX9_named_133 : decode cX9_named 133 = .ok (.iconst 1, 1) := by decide +kernel
theorem dX9_named_134 : decode cX9_named 134 = .ok (.goto 4, 3) := by decide +kernel
theorem dX9_named_137 : decode cX9_named 137 = .ok (.iconst 0, 1) := by decide +kernel
theorem dX9_named_138 : decode cX9_named 138 = .ok (.iadd, 1) := by decide +kernel
theorem dX9_named_139 : decode cX9_named 139 = .ok (.istore 6, 2) := by decide +kernel
theorem dX9_named_141 : decode cX9_named 141 = .ok (.iinc 7 1, 3) := by decide +kernel
theorem dX9_named_144 : decode cX9_named 144 = .ok (.goto (-109), 3) := by decide +kernel
theorem dX9_named_147 : decode cX9_named 147 = .ok (.iload 6, 2) := by decide +kernel
theorem dX9_named_149 : decode cX9_named 149 = .ok (.ireturn, 1) := by decide +kernel
theorem dX9_byteOf_0 : decode cX9_byteOf 0 = .ok (.iload 4, 2) := by decide +kernel
theorem dX9_byteOf_2 : decode cX9_byteOf 2 = .ok (.iconst 4, 1) := by decide +kernel
theorem dX9_byteOf_3 : decode cX9_byteOf 3 = .ok (.if_icmp .ge 7, 3) := by decide +kernel
theorem dX9_byteOf_6 : decode cX9_byteOf 6 = .ok (.iload_n 0, 1) := by decide +kernel
theorem dX9_byteOf_7 : decode cX9_byteOf 7 = .ok (.goto 26, 3) := by decide +kernel
theorem dX9_byteOf_10 : decode cX9_byteOf 10 = .ok (.iload 4, 2) := by decide +kernel
theorem dX9_byteOf_12 : decode cX9_byteOf 12 = .ok (.bipush 8, 2) := by decide +kernel
theorem dX9_byteOf_14 : decode cX9_byteOf 14 = .ok (.if_icmp .ge 7, 3) := by decide +kernel
theorem dX9_byteOf_17 : decode cX9_byteOf 17 = .ok (.iload_n 1, 1) := by decide +kernel
theorem dX9_byteOf_18 : decode cX9_byteOf 18 = .ok (.goto 15, 3) := by decide +kernel
theorem dX9_byteOf_21 : decode cX9_byteOf 21 = .ok (.iload 4, 2) := by decide +kernel
theorem dX9_byteOf_23 : decode cX9_byteOf 23 = .ok (.bipush 12, 2) := by decide +kernel
theorem dX9_byteOf_25 : decode cX9_byteOf 25 = .ok (.if_icmp .ge 7, 3) := by decide +kernel
theorem dX9_byteOf_28 : decode cX9_byteOf 28 = .ok (.iload_n 2, 1) := by decide +kernel
theorem dX9_byteOf_29 : decode cX9_byteOf 29 = .ok (.goto 4, 3) := by decide +kernel
theorem dX9_byteOf_32 : decode cX9_byteOf 32 = .ok (.iload_n 3, 1) := by decide +kernel
theorem dX9_byteOf_33 : decode cX9_byteOf 33 = .ok (.istore 5, 2) := by decide +kernel
theorem dX9_byteOf_35 : decode cX9_byteOf 35 = .ok (.iload 5, 2) := by decide +kernel
theorem dX9_byteOf_37 : decode cX9_byteOf 37 = .ok (.bipush 24, 2) := by decide +kernel
theorem dX9_byteOf_39 : decode cX9_byteOf 39 = .ok (.bipush 8, 2) := by decide +kernel
theorem dX9_byteOf_41 : decode cX9_byteOf 41 = .ok (.iload 4, 2) := by decide +kernel
theorem dX9_byteOf_43 : decode cX9_byteOf 43 = .ok (.iconst 4, 1) := by decide +kernel
theorem dX9_byteOf_44 : decode cX9_byteOf 44 = .ok (.irem, 1) := by decide +kernel
theorem dX9_byteOf_45 : decode cX9_byteOf 45 = .ok (.imul, 1) := by decide +kernel
theorem dX9_byteOf_46 : decode cX9_byteOf 46 = .ok (.isub, 1) := by decide +kernel
theorem dX9_byteOf_47 : decode cX9_byteOf 47 = .ok (.ishr, 1) := by decide +kernel
theorem dX9_byteOf_48 : decode cX9_byteOf 48 = .ok (.sipush 255, 3) := by decide +kernel
theorem dX9_byteOf_51 : decode cX9_byteOf 51 = .ok (.iand, 1) := by decide +kernel
theorem dX9_byteOf_52 : decode cX9_byteOf 52 = .ok (.ireturn, 1) := by decide +kernel
set_option maxRecDepth 20000 in
theorem ggX9_audit_X9_sum : GoodIn wsX9_audit wsX9_sum := goodIn_r _ [15, 1, 3, 7, 8, 9, 4, 5, 16, 17, 18, 19, 20, 21, 22, 23, 24, 25, 26, 27, 28, 29, 30, 31, 32, 33, 34, 35, 36, 37, 38, 39, 40, 41, 42, 43, 44, 45, 46, 47, 48, 49, 50, 51, 52, 53, 54, 55, 56, 57, 58, 59, 60, 61, 62, 63, 64, 65, 66, 67, 68, 69, 70, 71, 72, 73, 74, 75, 76, 77, 78, 79, 80, 81, 82, 83, 84] (by decide +kernel) (by decide +kernel)
set_option maxRecDepth 20000 in
theorem gX9_audit_X9_sum : GoodIn wsX9_audit (wsV RX9 320 RX9 yX9_sum wsX9_sum) := goodIn_app (goodIn_of _ (by decide +kernel)) ggX9_audit_X9_sum
theorem dX9_audit_0 : decode cX9_audit 0 = .ok (.iconst 0, 1) := by decide +kernel
theorem dX9_audit_1 : decode cX9_audit 1 = .ok (.istore_n 1, 1) := by decide +kernel
theorem dX9_audit_2 : decode cX9_audit 2 = .ok (.iconst 0, 1) := by decide +kernel
theorem dX9_audit_3 : decode cX9_audit 3 = .ok (.istore_n 2, 1) := by decide +kernel
theorem dX9_audit_4 : decode cX9_audit 4 = .ok (.iload_n 2, 1) := by decide +kernel
theorem dX9_audit_5 : decode cX9_audit 5 = .ok (.aload_n 0, 1) := by decide +kernel
theorem dX9_audit_6 : decode cX9_audit 6 = .ok (.getfield 295, 3) := by decide +kernel
theorem dX9_audit_9 : decode cX9_audit 9 = .ok (.if_icmp .ge 18, 3) := by decide +kernel
theorem dX9_audit_12 : decode cX9_audit 12 = .ok (.iload_n 1, 1) := by decide +kernel
theorem dX9_audit_13 : decode cX9_audit 13 = .ok (.aload_n 0, 1) := by decide +kernel
theorem dX9_audit_14 : decode cX9_audit 14 = .ok (.getfield 89, 3) := by decide +kernel
theorem dX9_audit_17 : decode cX9_audit 17 = .ok (.iload_n 2, 1) := by decide +kernel
theorem dX9_audit_18 : decode cX9_audit 18 = .ok (.iaload, 1) := by decide +kernel
theorem dX9_audit_19 : decode cX9_audit 19 = .ok (.iadd, 1) := by decide +kernel
theorem dX9_audit_20 : decode cX9_audit 20 = .ok (.istore_n 1, 1) := by decide +kernel
theorem dX9_audit_21 : decode cX9_audit 21 = .ok (.iinc 2 1, 3) := by decide +kernel
theorem dX9_audit_24 : decode cX9_audit 24 = .ok (.goto (-20), 3) := by decide +kernel
theorem dX9_audit_27 : decode cX9_audit 27 = .ok (.iconst 0, 1) := by decide +kernel
theorem dX9_audit_28 : decode cX9_audit 28 = .ok (.istore_n 2, 1) := by decide +kernel
theorem dX9_audit_29 : decode cX9_audit 29 = .ok (.iconst 0, 1) := by decide +kernel
theorem dX9_audit_30 : decode cX9_audit 30 = .ok (.istore_n 3, 1) := by decide +kernel
theorem dX9_audit_31 : decode cX9_audit 31 = .ok (.iconst 0, 1) := by decide +kernel
theorem dX9_audit_32 : decode cX9_audit 32 = .ok (.istore 4, 2) := by decide +kernel
theorem dX9_audit_34 : decode cX9_audit 34 = .ok (.iload 4, 2) := by decide +kernel
theorem dX9_audit_36 : decode cX9_audit 36 = .ok (.aload_n 0, 1) := by decide +kernel
theorem dX9_audit_37 : decode cX9_audit 37 = .ok (.getfield 298, 3) := by decide +kernel
theorem dX9_audit_40 : decode cX9_audit 40 = .ok (.if_icmp .ge 51, 3) := by decide +kernel
theorem dX9_audit_43 : decode cX9_audit 43 = .ok (.iload_n 2, 1) := by decide +kernel
theorem dX9_audit_44 : decode cX9_audit 44 = .ok (.aload_n 0, 1) := by decide +kernel
theorem dX9_audit_45 : decode cX9_audit 45 = .ok (.getfield 98, 3) := by decide +kernel
theorem dX9_audit_48 : decode cX9_audit 48 = .ok (.iload 4, 2) := by decide +kernel
theorem dX9_audit_50 : decode cX9_audit 50 = .ok (.iaload, 1) := by decide +kernel
theorem dX9_audit_51 : decode cX9_audit 51 = .ok (.ifCond .ge 7, 3) := by decide +kernel
theorem dX9_audit_54 : decode cX9_audit 54 = .ok (.iconst 1, 1) := by decide +kernel
theorem dX9_audit_55 : decode cX9_audit 55 = .ok (.goto 4, 3) := by decide +kernel
theorem dX9_audit_58 : decode cX9_audit 58 = .ok (.iconst 0, 1) := by decide +kernel
theorem dX9_audit_59 : decode cX9_audit 59 = .ok (.iadd, 1) := by decide +kernel
theorem dX9_audit_60 : decode cX9_audit 60 = .ok (.istore_n 2, 1) := by decide +kernel
theorem dX9_audit_61 : decode cX9_audit 61 = .ok (.iload_n 3, 1) := by decide +kernel
theorem dX9_audit_62 : decode cX9_audit 62 = .ok (.aload_n 0, 1) := by decide +kernel
theorem dX9_audit_63 : decode cX9_audit 63 = .ok (.getfield 101, 3) := by decide +kernel
theorem dX9_audit_66 : decode cX9_audit 66 = .ok (.iload 4, 2) := by decide +kernel
theorem dX9_audit_68 : decode cX9_audit 68 = .ok (.iaload, 1) := by decide +kernel
theorem dX9_audit_69 : decode cX9_audit 69 = .ok (.ifCond .lt 13, 3) := by decide +kernel
theorem dX9_audit_72 : decode cX9_audit 72 = .ok (.aload_n 0, 1) := by decide +kernel
theorem dX9_audit_73 : decode cX9_audit 73 = .ok (.getfield 101, 3) := by decide +kernel
theorem dX9_audit_76 : decode cX9_audit 76 = .ok (.iload 4, 2) := by decide +kernel
theorem dX9_audit_78 : decode cX9_audit 78 = .ok (.iaload, 1) := by decide +kernel
theorem dX9_audit_79 : decode cX9_audit 79 = .ok (.goto 4, 3) := by decide +kernel
theorem dX9_audit_82 : decode cX9_audit 82 = .ok (.iconst 0, 1) := by decide +kernel
theorem dX9_audit_83 : decode cX9_audit 83 = .ok (.iadd, 1) := by decide +kernel
theorem dX9_audit_84 : decode cX9_audit 84 = .ok (.istore_n 3, 1) := by decide +kernel
theorem dX9_audit_85 : decode cX9_audit 85 = .ok (.iinc 4 1, 3) := by decide +kernel
theorem dX9_audit_88 : decode cX9_audit 88 = .ok (.goto (-54), 3) := by decide +kernel
theorem dX9_audit_91 : decode cX9_audit 91 = .ok (.iload_n 1, 1) := by decide +kernel
theorem dX9_audit_92 : decode cX9_audit 92 = .ok (.aload_n 0, 1) := by decide +kernel
theorem dX9_audit_93 : decode cX9_audit 93 = .ok (.getfield 298, 3) := by decide +kernel
theorem dX9_audit_96 : decode cX9_audit 96 = .ok (.if_icmp .ne 7, 3) := by decide +kernel
theorem dX9_audit_99 : decode cX9_audit 99 = .ok (.iconst 0, 1) := by decide +kernel
theorem dX9_audit_100 : decode cX9_audit 100 = .ok (.goto 4, 3) := by decide +kernel
theorem dX9_audit_103 : decode cX9_audit 103 = .ok (.iconst 1, 1) := by decide +kernel
theorem dX9_audit_104 : decode cX9_audit 104 = .ok (.istore 4, 2) := by decide +kernel
theorem dX9_audit_106 : decode cX9_audit 106 = .ok (.iload 4, 2) := by decide +kernel
theorem dX9_audit_108 : decode cX9_audit 108 = .ok (.aload_n 0, 1) := by decide +kernel
theorem dX9_audit_109 : decode cX9_audit 109 = .ok (.iconst 2, 1) := by decide +kernel
theorem dX9_audit_110 : decode cX9_audit 110 = .ok (.invokevirtual 320, 3) := by decide +kernel
theorem dX9_audit_113 : decode cX9_audit 113 = .ok (.aload_n 0, 1) := by decide +kernel
theorem dX9_audit_114 : decode cX9_audit 114 = .ok (.iconst 3, 1) := by decide +kernel
theorem dX9_audit_115 : decode cX9_audit 115 = .ok (.invokevirtual 320, 3) := by decide +kernel
theorem dX9_audit_118 : decode cX9_audit 118 = .ok (.iadd, 1) := by decide +kernel
theorem dX9_audit_119 : decode cX9_audit 119 = .ok (.iload_n 2, 1) := by decide +kernel
theorem dX9_audit_120 : decode cX9_audit 120 = .ok (.iadd, 1) := by decide +kernel
theorem dX9_audit_121 : decode cX9_audit 121 = .ok (.aload_n 0, 1) := by decide +kernel
theorem dX9_audit_122 : decode cX9_audit 122 = .ok (.getfield 298, 3) := by decide +kernel
theorem dX9_audit_125 : decode cX9_audit 125 = .ok (.if_icmp .ne 7, 3) := by decide +kernel
theorem dX9_audit_128 : decode cX9_audit 128 = .ok (.iconst 0, 1) := by decide +kernel
theorem dX9_audit_129 : decode cX9_audit 129 = .ok (.goto 4, 3) := by decide +kernel
theorem dX9_audit_132 : decode cX9_audit 132 = .ok (.iconst 1, 1) := by decide +kernel
theorem dX9_audit_133 : decode cX9_audit 133 = .ok (.iadd, 1) := by decide +kernel
theorem dX9_audit_134 : decode cX9_audit 134 = .ok (.istore 4, 2) := by decide +kernel
theorem dX9_audit_136 : decode cX9_audit 136 = .ok (.iload 4, 2) := by decide +kernel
theorem dX9_audit_138 : decode cX9_audit 138 = .ok (.iload_n 3, 1) := by decide +kernel
theorem dX9_audit_139 : decode cX9_audit 139 = .ok (.aload_n 0, 1) := by decide +kernel
theorem dX9_audit_140 : decode cX9_audit 140 = .ok (.iconst 4, 1) := by decide +kernel
theorem dX9_audit_141 : decode cX9_audit 141 = .ok (.invokevirtual 320, 3) := by decide +kernel
theorem dX9_audit_144 : decode cX9_audit 144 = .ok (.if_icmp .ne 7, 3) := by decide +kernel
theorem dX9_audit_147 : decode cX9_audit 147 = .ok (.iconst 0, 1) := by decide +kernel
theorem dX9_audit_148 : decode cX9_audit 148 = .ok (.goto 4, 3) := by decide +kernel
theorem dX9_audit_151 : decode cX9_audit 151 = .ok (.iconst 1, 1) := by decide +kernel
theorem dX9_audit_152 : decode cX9_audit 152 = .ok (.iadd, 1) := by decide +kernel
theorem dX9_audit_153 : decode cX9_audit 153 = .ok (.istore 4, 2) := by decide +kernel
theorem dX9_audit_155 : decode cX9_audit 155 = .ok (.iload 4, 2) := by decide +kernel
theorem dX9_audit_157 : decode cX9_audit 157 = .ok (.aload_n 0, 1) := by decide +kernel
theorem dX9_audit_158 : decode cX9_audit 158 = .ok (.getfield 307, 3) := by decide +kernel
theorem dX9_audit_161 : decode cX9_audit 161 = .ok (.aload_n 0, 1) := by decide +kernel
theorem dX9_audit_162 : decode cX9_audit 162 = .ok (.getfield 310, 3) := by decide +kernel
theorem dX9_audit_165 : decode cX9_audit 165 = .ok (.aload_n 0, 1) := by decide +kernel
theorem dX9_audit_166 : decode cX9_audit 166 = .ok (.getfield 292, 3) := by decide +kernel
theorem dX9_audit_169 : decode cX9_audit 169 = .ok (.iadd, 1) := by decide +kernel
theorem dX9_audit_170 : decode cX9_audit 170 = .ok (.aload_n 0, 1) := by decide +kernel
theorem dX9_audit_171 : decode cX9_audit 171 = .ok (.getfield 304, 3) := by decide +kernel
theorem dX9_audit_174 : decode cX9_audit 174 = .ok (.iadd, 1) := by decide +kernel
theorem dX9_audit_175 : decode cX9_audit 175 = .ok (.aload_n 0, 1) := by decide +kernel
theorem dX9_audit_176 : decode cX9_audit 176 = .ok (.getfield 120, 3) := by decide +kernel
theorem dX9_audit_179 : decode cX9_audit 179 = .ok (.ifCond .eq 7, 3) := by decide +kernel
theorem dX9_audit_182 : decode cX9_audit 182 = .ok (.iconst 1, 1) := by decide +kernel
theorem dX9_audit_183 : decode cX9_audit 183 = .ok (.goto 4, 3) := by decide +kernel
theorem dX9_audit_186 : decode cX9_audit 186 = .ok (.iconst 0, 1) := by decide +kernel
theorem dX9_audit_187 : decode cX9_audit 187 = .ok (.iadd, 1) := by decide +kernel
theorem dX9_audit_188 : decode cX9_audit 188 = .ok (.if_icmp .ne 7, 3) := by decide +kernel
theorem dX9_audit_191 : decode cX9_audit 191 = .ok (.iconst 0, 1) := by decide +kernel
theorem dX9_audit_192 : decode cX9_audit 192 = .ok (.goto 4, 3) := by decide +kernel
theorem dX9_audit_195 : decode cX9_audit 195 = .ok (.iconst 1, 1) := by decide +kernel
theorem dX9_audit_196 : decode cX9_audit 196 = .ok (.iadd, 1) := by decide +kernel
theorem dX9_audit_197 : decode cX9_audit 197 = .ok (.istore 4, 2) := by decide +kernel
theorem dX9_audit_199 : decode cX9_audit 199 = .ok (.iload 4, 2) := by decide +kernel
theorem dX9_audit_201 : decode cX9_audit 201 = .ok (.ireturn, 1) := by decide +kernel
theorem dJ7_fill_53178_0 : decode cJ7_fill_53178 0 = .ok (.iconst 0, 1) := by decide +kernel
theorem dJ7_fill_53178_1 : decode cJ7_fill_53178 1 = .ok (.istore_n 2, 1) := by decide +kernel
theorem dJ7_fill_53178_2 : decode cJ7_fill_53178 2 = .ok (.aload_n 0, 1) := by decide +kernel
theorem dJ7_fill_53178_3 : decode cJ7_fill_53178 3 = .ok (.arraylength, 1) := by decide +kernel
theorem dJ7_fill_53178_4 : decode cJ7_fill_53178 4 = .ok (.istore_n 3, 1) := by decide +kernel
theorem dJ7_fill_53178_5 : decode cJ7_fill_53178 5 = .ok (.iload_n 2, 1) := by decide +kernel
theorem dJ7_fill_53178_6 : decode cJ7_fill_53178 6 = .ok (.iload_n 3, 1) := by decide +kernel
theorem dJ7_fill_53178_7 : decode cJ7_fill_53178 7 = .ok (.if_icmp .ge 13, 3) := by decide +kernel
theorem dJ7_fill_53178_10 : decode cJ7_fill_53178 10 = .ok (.aload_n 0, 1) := by decide +kernel
theorem dJ7_fill_53178_11 : decode cJ7_fill_53178 11 = .ok (.iload_n 2, 1) := by decide +kernel
theorem dJ7_fill_53178_12 : decode cJ7_fill_53178 12 = .ok (.iload_n 1, 1) := by decide +kernel
theorem dJ7_fill_53178_13 : decode cJ7_fill_53178 13 = .ok (.iastore, 1) := by decide +kernel
theorem dJ7_fill_53178_14 : decode cJ7_fill_53178 14 = .ok (.iinc 2 1, 3) := by decide +kernel
theorem dJ7_fill_53178_17 : decode cJ7_fill_53178 17 = .ok (.goto (-12), 3) := by decide +kernel
theorem dJ7_fill_53178_20 : decode cJ7_fill_53178 20 = .ok (.return_, 1) := by decide +kernel
set_option maxRecDepth 20000 in
theorem ggL_law_X8_init : GoodIn wsL_law wsX8_init := goodIn_r _ [8, 9, 10, 11, 12, 13, 14, 15, 16, 17, 18, 19, 20, 21, 22, 23, 24, 25, 26, 27, 28, 29, 30, 31, 32, 33, 34, 35, 36, 37, 38, 39, 40, 41, 42, 43, 44, 45, 46, 47, 48, 49, 50, 51, 52, 53, 54, 55, 56, 57, 58, 59, 60, 61, 62, 63, 64, 65, 66, 67, 68, 69, 70, 71, 72, 73, 74, 75, 76, 77, 78, 79, 80, 81, 82, 83, 84, 85, 86, 87, 88, 89, 90, 91, 92, 93, 94, 95, 96, 97, 98, 99, 100, 101, 102, 103, 869, 870, 790, 791, 792, 793, 794, 795, 796, 797, 798, 799, 871, 872, 873, 874, 875, 876, 877, 878, 879, 880, 881, 882, 883, 884, 885, 886, 887, 888, 889, 890, 891, 892, 893, 894, 895, 896, 897, 898, 899, 900, 901, 902, 903, 904, 905, 906, 907, 908, 909, 910, 911, 912, 913, 914, 915, 916, 917, 918, 919, 920, 921, 922, 923, 924, 925, 926, 927, 928, 929] (by decide +kernel) (by decide +kernel)
set_option maxRecDepth 20000 in
theorem gL_law_X8_init : GoodIn wsL_law (wsX8_init) := ggL_law_X8_init
set_option maxRecDepth 20000 in
theorem ggL_law_X9_init : GoodIn wsL_law wsX9_init := goodIn_r _ [106, 107, 10, 11, 35, 108, 41, 109, 110, 111, 112, 113, 114, 115, 116, 117, 118, 119, 120, 121, 122, 123, 124, 125, 126, 127, 128, 129, 130, 131, 132, 133, 134, 135, 136, 137, 138, 139, 140, 141, 142, 800, 801, 802, 803, 804, 805, 806, 807, 808, 809, 810, 811, 812, 813, 814, 815, 816, 817, 818, 819, 820, 821, 822, 823, 824, 825, 826, 827, 828, 829, 830, 831, 832, 833, 834, 835, 836, 837, 838, 839, 840, 841, 842, 843, 844, 845, 846, 847, 848, 849, 850, 851, 852, 853, 854, 855, 856, 857, 858, 859, 860, 861, 862, 863, 864, 865, 866, 867, 868] (by decide +kernel) (by decide +kernel)
set_option maxRecDepth 20000 in
theorem gL_law_X9_init : GoodIn wsL_law (wsX9_init) := ggL_law_X9_init
set_option maxRecDepth 20000 in
theorem ggL_law_X8_feed : GoodIn wsL_law wsX8_feed := goodIn_r _ [146, 15, 147, 148, 149, 150, 14, 151, 152, 153, 154, 155, 156, 36, 790, 791, 792, 793, 794, 795, 796, 797, 798, 799, 869, 870] (by decide +kernel) (by decide +kernel)
set_option maxRecDepth 20000 in
theorem gL_law_X8_feed : GoodIn wsL_law (wsV RL 13 RX8 yX8_feed wsX8_feed) := goodIn_app (goodIn_of _ (by decide +kernel)) ggL_law_X8_feed
set_option maxRecDepth 20000 in
theorem ggL_law_X9_feed : GoodIn wsL_law wsX9_feed := goodIn_r _ [160, 161, 162, 108, 800, 801, 802, 803, 804, 805, 806, 807, 808, 809, 810, 811, 812, 813, 814, 815, 816, 817, 818, 819, 820, 821, 822, 823, 824, 825, 826, 827, 828, 829, 830, 831, 832, 833, 834, 835, 836, 837, 838, 839, 840, 841, 842, 843, 844, 845, 846, 847, 848, 849, 850, 851, 852, 853, 854, 855, 856, 857, 858, 859, 860, 861, 862, 863, 864, 865, 866, 867, 868] (by decide +kernel) (by decide +kernel)
set_option maxRecDepth 20000 in
theorem gL_law_X9_feed : GoodIn wsL_law (wsV RL 17 RX9 yX9_feed wsX9_feed) := goodIn_app (goodIn_of _ (by decide +kernel)) ggL_law_X9_feed
set_option maxRecDepth 20000 in
theorem ggL_law_X8_end : GoodIn wsL_law wsX8_end := goodIn_r _ [166, 15, 147, 167, 168, 169, 14, 170, 152, 790, 791, 792, 793, 794, 795, 796, 797, 798, 799, 869, 870] (by decide +kernel) (by decide +kernel)
set_option maxRecDepth 20000 in
theorem gL_law_X8_end : GoodIn wsL_law (wsV RL 18 RX8 yX8_end wsX8_end) := goodIn_app (goodIn_of _ (by decide +kernel)) ggL_law_X8_end
set_option maxRecDepth 20000 in
theorem ggL_law_X9_end : GoodIn wsL_law wsX9_end := goodIn_r _ [174, 161, 162, 800, 801, 802, 803, 804, 805, 806, 807, 808, 809, 810, 811, 812, 813, 814, 815, 816, 817, 818, 819, 820, 821, 822, 823, 824, 825, 826, 827, 828, 829, 830, 831, 832, 833, 834, 835, 836, 837, 838, 839, 840, 841, 842, 843, 844, 845, 846, 847, 848, 849, 850, 851, 852, 853, 854, 855, 856, 857, 858, 859, 860, 861, 862, 863, 864, 865, 866, 867, 868] (by decide +kernel) (by decide +kernel)
set_option maxRecDepth 20000 in
theorem gL_law_X9_end : GoodIn wsL_law (wsV RL 22 RX9 yX9_end wsX9_end) := goodIn_app (goodIn_of _ (by decide +kernel)) ggL_law_X9_end
set_option maxRecDepth 20000 in
theorem ggL_law_X8_rule : GoodIn wsL_law wsX8_rule := goodIn_r _ [178, 179, 147, 19, 180, 181, 182, 18, 183, 42, 43, 790, 791, 792, 793, 794, 795, 796, 797, 798, 799, 871, 872] (by decide +kernel) (by decide +kernel)
set_option maxRecDepth 20000 in
theorem gL_law_X8_rule : GoodIn wsL_law (wsV RL 23 RX8 yX8_rule wsX8_rule) := goodIn_app (goodIn_of _ (by decide +kernel)) ggL_law_X8_rule
set_option maxRecDepth 20000 in
theorem ggL_law_X9_rule : GoodIn wsL_law wsX9_rule := goodIn_r _ [187, 188, 162, 109, 110, 800, 801, 802, 803, 804, 805, 806, 807, 808, 809, 810, 811, 812, 813, 814, 815, 816, 817, 818, 819, 820, 821, 822, 823, 824, 825, 826, 827, 828, 829, 830, 831, 832, 833, 834, 835, 836, 837, 838, 839, 840, 841, 842, 843, 844, 845, 846, 847, 848, 849, 850, 851, 852, 853, 854, 855, 856, 857, 858, 859, 860, 861, 862, 863, 864, 865, 866, 867, 868] (by decide +kernel) (by decide +kernel)
set_option maxRecDepth 20000 in
theorem gL_law_X9_rule : GoodIn wsL_law (wsV RL 27 RX9 yX9_rule wsX9_rule) := goodIn_app (goodIn_of _ (by decide +kernel)) ggL_law_X9_rule
set_option maxRecDepth 20000 in
theorem ggL_law_X8_receive : GoodIn wsL_law wsX8_receive := goodIn_r _ [192, 147, 193, 23, 31, 194, 195, 196, 22, 197, 198, 53, 55, 199, 45, 46, 47, 200, 201, 202, 203, 54, 204, 205, 206, 30, 207, 208, 209, 210, 211, 212, 213, 214, 215, 216, 79, 217, 218, 219, 220, 81, 221, 222, 223, 14, 224, 152, 225, 226, 227, 228, 36, 229, 230, 231, 232, 233, 234, 235, 236, 237, 238, 239, 240, 241, 242, 243, 244, 245, 82, 246, 247, 83, 248, 249, 250, 18, 251, 42, 252, 253, 254, 255, 256, 257, 258, 259, 260, 43, 261, 262, 263, 264, 265, 52, 266, 267, 268, 269, 270, 271, 272, 273, 274, 275, 276, 277, 84, 278, 279, 280, 26, 281, 282, 283, 60, 284, 285, 286, 287, 61, 62, 288, 289, 290, 78, 291, 102, 101, 103, 292, 293, 294, 295, 71, 296, 297, 298, 70, 299, 300, 301, 302, 303, 304, 88, 89, 305, 306, 307, 308, 309, 310, 311, 312, 313, 314, 315, 316, 317, 318, 319, 320, 321, 322, 323, 324, 325, 326, 327, 328, 329, 330, 331, 332, 333, 80, 334, 335, 336, 337, 338, 339, 340, 341, 342, 343, 344, 345, 346, 347, 348, 349, 350, 75, 351, 352, 353, 74, 354, 355, 356, 357, 358, 359, 360, 361, 362, 363, 364, 365, 366, 367, 368, 369, 370, 371, 372, 373, 374, 93, 94, 375, 376, 377, 378, 379, 380, 381, 382, 383, 384, 385, 386, 387, 388, 389, 390, 391, 392, 393, 394, 395, 396, 397, 398, 399, 400, 401, 402, 403, 404, 405, 406, 407, 408, 409, 410, 411, 412, 413, 414, 415, 416, 417, 418, 419, 420, 421, 422, 423, 424, 425, 426, 427, 428, 429, 430, 431, 432, 433, 434, 435, 436, 437, 438, 439, 440, 441, 442, 443, 444, 445, 446, 447, 98, 99, 100, 448, 449, 450, 451, 452, 453, 454, 455, 456, 457, 458, 459, 460, 461, 462, 463, 2, 464, 465, 27, 466, 467, 468, 469, 470, 471, 472, 473, 474, 475, 476, 477, 478, 479, 790, 791, 792, 793, 794, 795, 796, 797, 798, 799, 873, 874, 875, 876, 877, 888, 889, 890, 891, 892, 893, 894, 895, 896, 897, 898, 899, 900, 901, 902, 903, 904, 905, 906, 917, 918, 919, 920, 921, 922, 923, 924, 925, 926, 927, 928, 929, 869, 870, 871, 872, 878, 879, 880, 881, 882, 883, 884, 885, 886, 887, 907, 908, 909, 910, 911, 912, 913, 914, 915, 916] (by decide +kernel) (by decide +kernel)
set_option maxRecDepth 20000 in
theorem gL_law_X8_receive : GoodIn wsL_law (wsV RL 28 RX8 yX8_receive wsX8_receive) := goodIn_app (goodIn_of _ (by decide +kernel)) ggL_law_X8_receive
set_option maxRecDepth 20000 in
theorem ggL_law_X9_receive : GoodIn wsL_law wsX9_receive := goodIn_r _ [483, 162, 484, 485, 486, 487, 488, 489, 490, 491, 492, 493, 494, 495, 126, 128, 496, 497, 498, 5, 499, 161, 500, 501, 502, 503, 504, 505, 506, 108, 507, 508, 509, 510, 511, 512, 513, 514, 118, 111, 112, 113, 114, 515, 516, 517, 518, 519, 520, 521, 522, 523, 524, 109, 110, 127, 121, 122, 123, 124, 125, 525, 526, 527, 528, 529, 530, 531, 532, 533, 534, 535, 536, 537, 538, 539, 540, 541, 542, 543, 544, 545, 546, 547, 548, 549, 132, 133, 134, 135, 136, 137, 115, 138, 116, 139, 117, 140, 119, 141, 142, 120, 550, 551, 552, 553, 554, 555, 556, 557, 558, 559, 560, 561, 562, 563, 564, 565, 566, 567, 568, 569, 570, 571, 572, 573, 574, 575, 576, 577, 578, 579, 580, 581, 582, 583, 584, 585, 586, 587, 129, 588, 589, 590, 591, 592, 130, 593, 594, 595, 596, 597, 598, 599, 600, 601, 602, 603, 604, 605, 606, 607, 131, 608, 609, 610, 611, 612, 613, 614, 615, 616, 617, 618, 619, 620, 621, 622, 623, 624, 625, 626, 800, 801, 802, 803, 804, 805, 806, 807, 808, 809, 810, 811, 812, 813, 814, 815, 816, 817, 818, 819, 820, 821, 822, 823, 824, 825, 826, 827, 828, 829, 830, 831, 832, 833, 834, 835, 836, 837, 838, 839, 840, 841, 842, 843, 844, 845, 846, 847, 848, 849, 850, 851, 852, 853, 854, 855, 856, 857, 858, 859, 860, 861, 862, 863, 864, 865, 866, 867, 868] (by decide +kernel) (by decide +kernel)
set_option maxRecDepth 20000 in
theorem gL_law_X9_receive : GoodIn wsL_law (wsV RL 32 RX9 yX9_receive wsX9_receive) := goodIn_app (goodIn_of _ (by decide +kernel)) ggL_law_X9_receive
set_option maxRecDepth 20000 in
theorem ggL_law_X8_resume : GoodIn wsL_law wsX8_resume := goodIn_r _ [630, 147, 31, 217, 218, 219, 30, 220, 81, 212, 79, 214, 215, 221, 222, 223, 14, 224, 152, 225, 226, 227, 228, 36, 229, 230, 231, 232, 233, 234, 235, 236, 237, 216, 238, 239, 240, 241, 213, 242, 243, 244, 245, 82, 246, 247, 83, 248, 249, 250, 18, 251, 42, 252, 253, 254, 255, 256, 257, 258, 259, 260, 43, 261, 262, 263, 22, 264, 265, 54, 55, 198, 52, 53, 266, 267, 268, 269, 270, 271, 272, 273, 210, 274, 275, 276, 277, 84, 209, 211, 278, 279, 280, 26, 281, 282, 283, 60, 284, 285, 286, 287, 61, 62, 288, 289, 290, 78, 291, 102, 101, 103, 292, 293, 294, 295, 71, 208, 296, 297, 298, 70, 299, 300, 301, 302, 303, 304, 88, 89, 305, 306, 307, 308, 309, 310, 311, 312, 313, 314, 315, 316, 317, 318, 319, 320, 321, 322, 323, 324, 325, 201, 202, 203, 199, 45, 46, 47, 326, 327, 328, 329, 330, 331, 332, 333, 80, 334, 335, 336, 337, 338, 339, 340, 341, 342, 343, 344, 345, 346, 347, 348, 349, 350, 75, 351, 352, 353, 74, 354, 355, 356, 357, 358, 359, 360, 361, 362, 363, 364, 365, 366, 367, 368, 369, 370, 371, 372, 373, 374, 93, 94, 375, 376, 377, 378, 379, 380, 381, 382, 383, 384, 385, 386, 387, 388, 389, 390, 391, 392, 393, 394, 395, 396, 397, 398, 399, 400, 401, 402, 403, 404, 405, 406, 407, 408, 409, 410, 411, 412, 413, 414, 415, 416, 417, 418, 419, 420, 421, 422, 423, 424, 425, 426, 427, 428, 429, 430, 431, 432, 433, 434, 435, 436, 437, 438, 439, 440, 441, 442, 443, 444, 445, 446, 447, 98, 99, 100, 448, 449, 450, 451, 452, 453, 454, 455, 456, 457, 458, 459, 460, 461, 462, 463, 2, 464, 465, 27, 193, 466, 467, 468, 469, 470, 471, 472, 473, 474, 475, 476, 477, 478, 479, 790, 791, 792, 793, 794, 795, 796, 797, 798, 799, 888, 889, 890, 891, 892, 893, 894, 895, 896, 897, 898, 899, 900, 901, 902, 903, 904, 905, 906, 917, 918, 919, 920, 921, 922, 923, 924, 925, 926, 927, 928, 929, 869, 870, 871, 872, 873, 874, 875, 876, 877, 878, 879, 880, 881, 882, 883, 884, 885, 886, 887, 907, 908, 909, 910, 911, 912, 913, 914, 915, 916] (by decide +kernel) (by decide +kernel)
set_option maxRecDepth 20000 in
theorem gL_law_X8_resume : GoodIn wsL_law (wsV RL 33 RX8 yX8_resume wsX8_resume) := goodIn_app (goodIn_of _ (by decide +kernel)) ggL_law_X8_resume
set_option maxRecDepth 20000 in
theorem ggL_law_X9_resume : GoodIn wsL_law wsX9_resume := goodIn_r _ [634, 162, 496, 497, 498, 5, 499, 485, 161, 491, 500, 486, 487, 501, 502, 488, 503, 504, 505, 506, 108, 507, 508, 509, 510, 493, 511, 512, 513, 514, 490, 118, 494, 111, 492, 112, 113, 114, 515, 516, 517, 518, 519, 489, 520, 521, 522, 523, 524, 109, 110, 495, 128, 127, 121, 122, 123, 124, 125, 126, 525, 526, 527, 528, 529, 530, 531, 532, 533, 534, 535, 536, 537, 538, 539, 540, 541, 542, 543, 544, 545, 546, 547, 548, 549, 132, 133, 134, 135, 136, 484, 137, 115, 138, 116, 139, 117, 140, 119, 141, 142, 120, 550, 551, 552, 553, 554, 555, 556, 557, 558, 559, 560, 561, 562, 563, 564, 565, 566, 567, 568, 569, 570, 571, 572, 573, 574, 575, 576, 577, 578, 579, 580, 581, 582, 583, 584, 585, 586, 587, 129, 588, 589, 590, 591, 592, 130, 593, 594, 595, 596, 597, 598, 599, 600, 601, 602, 603, 604, 605, 606, 607, 131, 608, 609, 610, 611, 612, 613, 614, 615, 616, 617, 618, 619, 620, 621, 622, 623, 624, 625, 626, 800, 801, 802, 803, 804, 805, 806, 807, 808, 809, 810, 811, 812, 813, 814, 815, 816, 817, 818, 819, 820, 821, 822, 823, 824, 825, 826, 827, 828, 829, 830, 831, 832, 833, 834, 835, 836, 837, 838, 839, 840, 841, 842, 843, 844, 845, 846, 847, 848, 849, 850, 851, 852, 853, 854, 855, 856, 857, 858, 859, 860, 861, 862, 863, 864, 865, 866, 867, 868] (by decide +kernel) (by decide +kernel)
set_option maxRecDepth 20000 in
theorem gL_law_X9_resume : GoodIn wsL_law (wsV RL 36 RX9 yX9_resume wsX9_resume) := goodIn_app (goodIn_of _ (by decide +kernel)) ggL_law_X9_resume
set_option maxRecDepth 20000 in
theorem ggL_law_X8_drop : GoodIn wsL_law wsX8_drop := goodIn_r _ [638, 147, 465, 31, 790, 791, 792, 793, 794, 795, 796, 797, 798, 799, 888, 889, 890, 891, 892, 893, 894, 895, 896, 897, 898, 899, 900, 901, 902, 903, 904, 905, 906] (by decide +kernel) (by decide +kernel)
set_option maxRecDepth 20000 in
theorem gL_law_X8_drop : GoodIn wsL_law (wsV RL 37 RX8 yX8_drop wsX8_drop) := goodIn_app (goodIn_of _ (by decide +kernel)) ggL_law_X8_drop
set_option maxRecDepth 20000 in
theorem ggL_law_X9_drop : GoodIn wsL_law wsX9_drop := goodIn_r _ [642, 162, 542, 492, 800, 801, 802, 803, 804, 805, 806, 807, 808, 809, 810, 811, 812, 813, 814, 815, 816, 817, 818, 819, 820, 821, 822, 823, 824, 825, 826, 827, 828, 829, 830, 831, 832, 833, 834, 835, 836, 837, 838, 839, 840, 841, 842, 843, 844, 845, 846, 847, 848, 849, 850, 851, 852, 853, 854, 855, 856, 857, 858, 859, 860, 861, 862, 863, 864, 865, 866, 867, 868] (by decide +kernel) (by decide +kernel)
set_option maxRecDepth 20000 in
theorem gL_law_X9_drop : GoodIn wsL_law (wsV RL 40 RX9 yX9_drop wsX9_drop) := goodIn_app (goodIn_of _ (by decide +kernel)) ggL_law_X9_drop
set_option maxRecDepth 20000 in
theorem ggL_law_X8_failures : GoodIn wsL_law wsX8_failures := goodIn_r _ [646, 23, 790, 791, 792, 793, 794, 795, 796, 797, 798, 799, 873, 874, 875, 876, 877] (by decide +kernel) (by decide +kernel)
set_option maxRecDepth 20000 in
theorem gL_law_X8_failures : GoodIn wsL_law (wsV RL 41 RX8 yX8_failures wsX8_failures) := goodIn_app (goodIn_of _ (by decide +kernel)) ggL_law_X8_failures
set_option maxRecDepth 20000 in
theorem ggL_law_X9_failures : GoodIn wsL_law wsX9_failures := goodIn_r _ [650, 495, 800, 801, 802, 803, 804, 805, 806, 807, 808, 809, 810, 811, 812, 813, 814, 815, 816, 817, 818, 819, 820, 821, 822, 823, 824, 825, 826, 827, 828, 829, 830, 831, 832, 833, 834, 835, 836, 837, 838, 839, 840, 841, 842, 843, 844, 845, 846, 847, 848, 849, 850, 851, 852, 853, 854, 855, 856, 857, 858, 859, 860, 861, 862, 863, 864, 865, 866, 867, 868] (by decide +kernel) (by decide +kernel)
set_option maxRecDepth 20000 in
theorem gL_law_X9_failures : GoodIn wsL_law (wsV RL 44 RX9 yX9_failures wsX9_failures) := goodIn_app (goodIn_of _ (by decide +kernel)) ggL_law_X9_failures
set_option maxRecDepth 20000 in
theorem ggL_law_X8_failure : GoodIn wsL_law wsX8_failure := goodIn_r _ [654, 23, 655, 656, 657, 22, 658, 52, 659, 660, 661, 662, 198, 790, 791, 792, 793, 794, 795, 796, 797, 798, 799, 873, 874, 875, 876, 877] (by decide +kernel) (by decide +kernel)
set_option maxRecDepth 20000 in
theorem gL_law_X8_failure : GoodIn wsL_law (wsV RL 45 RX8 yX8_failure wsX8_failure) := goodIn_app (goodIn_of _ (by decide +kernel)) ggL_law_X8_failure
set_option maxRecDepth 20000 in
theorem ggL_law_X9_failure : GoodIn wsL_law wsX9_failure := goodIn_r _ [666, 495, 121, 122, 123, 124, 125, 800, 801, 802, 803, 804, 805, 806, 807, 808, 809, 810, 811, 812, 813, 814, 815, 816, 817, 818, 819, 820, 821, 822, 823, 824, 825, 826, 827, 828, 829, 830, 831, 832, 833, 834, 835, 836, 837, 838, 839, 840, 841, 842, 843, 844, 845, 846, 847, 848, 849, 850, 851, 852, 853, 854, 855, 856, 857, 858, 859, 860, 861, 862, 863, 864, 865, 866, 867, 868] (by decide +kernel) (by decide +kernel)
set_option maxRecDepth 20000 in
theorem gL_law_X9_failure : GoodIn wsL_law (wsV RL 49 RX9 yX9_failure wsX9_failure) := goodIn_app (goodIn_of _ (by decide +kernel)) ggL_law_X9_failure
set_option maxRecDepth 20000 in
theorem ggL_law_X8_many : GoodIn wsL_law wsX8_many := goodIn_r _ [670, 19, 23, 671, 672, 673, 18, 674, 252, 675, 676, 677, 22, 678, 53, 790, 791, 792, 793, 794, 795, 796, 797, 798, 799, 873, 874, 875, 876, 877] (by decide +kernel) (by decide +kernel)
set_option maxRecDepth 20000 in
theorem gL_law_X8_many : GoodIn wsL_law (wsV RL 50 RX8 yX8_many wsX8_many) := goodIn_app (goodIn_of _ (by decide +kernel)) ggL_law_X8_many
set_option maxRecDepth 20000 in
theorem ggL_law_X9_many : GoodIn wsL_law wsX9_many := goodIn_r _ [682, 126, 525, 526, 5, 527, 800, 801, 802, 803, 804, 805, 806, 807, 808, 809, 810, 811, 812, 813, 814, 815, 816, 817, 818, 819, 820, 821, 822, 823, 824, 825, 826, 827, 828, 829, 830, 831, 832, 833, 834, 835, 836, 837, 838, 839, 840, 841, 842, 843, 844, 845, 846, 847, 848, 849, 850, 851, 852, 853, 854, 855, 856, 857, 858, 859, 860, 861, 862, 863, 864, 865, 866, 867, 868] (by decide +kernel) (by decide +kernel)
set_option maxRecDepth 20000 in
theorem gL_law_X9_many : GoodIn wsL_law (wsV RL 53 RX9 yX9_many wsX9_many) := goodIn_app (goodIn_of _ (by decide +kernel)) ggL_law_X9_many
set_option maxRecDepth 20000 in
theorem ggL_law_X8_depth : GoodIn wsL_law wsX8_depth := goodIn_r _ [686, 23, 687, 688, 689, 22, 690, 52, 659, 660, 661, 662, 198, 790, 791, 792, 793, 794, 795, 796, 797, 798, 799, 873, 874, 875, 876, 877] (by decide +kernel) (by decide +kernel)
set_option maxRecDepth 20000 in
theorem gL_law_X8_depth : GoodIn wsL_law (wsV RL 54 RX8 yX8_depth wsX8_depth) := goodIn_app (goodIn_of _ (by decide +kernel)) ggL_law_X8_depth
set_option maxRecDepth 20000 in
theorem ggL_law_X9_depth : GoodIn wsL_law wsX9_depth := goodIn_r _ [694, 495, 123, 800, 801, 802, 803, 804, 805, 806, 807, 808, 809, 810, 811, 812, 813, 814, 815, 816, 817, 818, 819, 820, 821, 822, 823, 824, 825, 826, 827, 828, 829, 830, 831, 832, 833, 834, 835, 836, 837, 838, 839, 840, 841, 842, 843, 844, 845, 846, 847, 848, 849, 850, 851, 852, 853, 854, 855, 856, 857, 858, 859, 860, 861, 862, 863, 864, 865, 866, 867, 868] (by decide +kernel) (by decide +kernel)
set_option maxRecDepth 20000 in
theorem gL_law_X9_depth : GoodIn wsL_law (wsV RL 57 RX9 yX9_depth wsX9_depth) := goodIn_app (goodIn_of _ (by decide +kernel)) ggL_law_X9_depth
set_option maxRecDepth 20000 in
theorem ggL_law_X8_sheet : GoodIn wsL_law wsX8_sheet := goodIn_r _ [698, 31, 790, 791, 792, 793, 794, 795, 796, 797, 798, 799, 888, 889, 890, 891, 892, 893, 894, 895, 896, 897, 898, 899, 900, 901, 902, 903, 904, 905, 906] (by decide +kernel) (by decide +kernel)
set_option maxRecDepth 20000 in
theorem gL_law_X8_sheet : GoodIn wsL_law (wsV RL 58 RX8 yX8_sheet wsX8_sheet) := goodIn_app (goodIn_of _ (by decide +kernel)) ggL_law_X8_sheet
set_option maxRecDepth 20000 in
theorem ggL_law_X9_sheet : GoodIn wsL_law wsX9_sheet := goodIn_r _ [702, 488, 492, 489, 485, 551, 552, 553, 5, 554, 114, 800, 801, 802, 803, 804, 805, 806, 807, 808, 809, 810, 811, 812, 813, 814, 815, 816, 817, 818, 819, 820, 821, 822, 823, 824, 825, 826, 827, 828, 829, 830, 831, 832, 833, 834, 835, 836, 837, 838, 839, 840, 841, 842, 843, 844, 845, 846, 847, 848, 849, 850, 851, 852, 853, 854, 855, 856, 857, 858, 859, 860, 861, 862, 863, 864, 865, 866, 867, 868] (by decide +kernel) (by decide +kernel)
set_option maxRecDepth 20000 in
theorem gL_law_X9_sheet : GoodIn wsL_law (wsV RL 61 RX9 yX9_sheet wsX9_sheet) := goodIn_app (goodIn_of _ (by decide +kernel)) ggL_law_X9_sheet
set_option maxRecDepth 20000 in
theorem ggL_law_X8_sum : GoodIn wsL_law wsX8_sum := goodIn_r _ [706, 27, 467, 465, 466, 790, 791, 792, 793, 794, 795, 796, 797, 798, 799, 878, 879, 880, 881, 882, 883, 884, 885, 886, 887] (by decide +kernel) (by decide +kernel)
set_option maxRecDepth 20000 in
theorem gL_law_X8_sum : GoodIn wsL_law (wsV RL 62 RX8 yX8_sum wsX8_sum) := goodIn_app (goodIn_of _ (by decide +kernel)) ggL_law_X8_sum
set_option maxRecDepth 20000 in
theorem ggL_law_X9_sum : GoodIn wsL_law wsX9_sum := goodIn_r _ [710, 547, 548, 550, 542, 549, 137, 138, 800, 801, 802, 803, 804, 805, 806, 807, 808, 809, 810, 811, 812, 813, 814, 815, 816, 817, 818, 819, 820, 821, 822, 823, 824, 825, 826, 827, 828, 829, 830, 831, 832, 833, 834, 835, 836, 837, 838, 839, 840, 841, 842, 843, 844, 845, 846, 847, 848, 849, 850, 851, 852, 853, 854, 855, 856, 857, 858, 859, 860, 861, 862, 863, 864, 865, 866, 867, 868] (by decide +kernel) (by decide +kernel)
set_option maxRecDepth 20000 in
theorem gL_law_X9_sum : GoodIn wsL_law (wsV RL 65 RX9 yX9_sum wsX9_sum) := goodIn_app (goodIn_of _ (by decide +kernel)) ggL_law_X9_sum
set_option maxRecDepth 20000 in
theorem ggL_law_X8_house : GoodIn wsL_law wsX8_house := goodIn_r _ [714, 27, 715, 716, 717, 26, 718, 282, 60, 790, 791, 792, 793, 794, 795, 796, 797, 798, 799, 878, 879, 880, 881, 882, 883, 884, 885, 886, 887] (by decide +kernel) (by decide +kernel)
set_option maxRecDepth 20000 in
theorem gL_law_X8_house : GoodIn wsL_law (wsV RL 66 RX8 yX8_house wsX8_house) := goodIn_app (goodIn_of _ (by decide +kernel)) ggL_law_X8_house
set_option maxRecDepth 20000 in
theorem ggL_law_X9_house : GoodIn wsL_law wsX9_house := goodIn_r _ [722, 547, 132, 133, 134, 135, 136, 800, 801, 802, 803, 804, 805, 806, 807, 808, 809, 810, 811, 812, 813, 814, 815, 816, 817, 818, 819, 820, 821, 822, 823, 824, 825, 826, 827, 828, 829, 830, 831, 832, 833, 834, 835, 836, 837, 838, 839, 840, 841, 842, 843, 844, 845, 846, 847, 848, 849, 850, 851, 852, 853, 854, 855, 856, 857, 858, 859, 860, 861, 862, 863, 864, 865, 866, 867, 868] (by decide +kernel) (by decide +kernel)
set_option maxRecDepth 20000 in
theorem gL_law_X9_house : GoodIn wsL_law (wsV RL 69 RX9 yX9_house wsX9_house) := goodIn_app (goodIn_of _ (by decide +kernel)) ggL_law_X9_house
set_option maxRecDepth 20000 in
theorem ggL_law_X8_person : GoodIn wsL_law wsX8_person := goodIn_r _ [726, 27, 727, 728, 729, 26, 730, 283, 61, 790, 791, 792, 793, 794, 795, 796, 797, 798, 799, 878, 879, 880, 881, 882, 883, 884, 885, 886, 887] (by decide +kernel) (by decide +kernel)
set_option maxRecDepth 20000 in
theorem gL_law_X8_person : GoodIn wsL_law (wsV RL 70 RX8 yX8_person wsX8_person) := goodIn_app (goodIn_of _ (by decide +kernel)) ggL_law_X8_person
set_option maxRecDepth 20000 in
theorem ggL_law_X9_person : GoodIn wsL_law wsX9_person := goodIn_r _ [734, 548, 137, 138, 139, 140, 141, 800, 801, 802, 803, 804, 805, 806, 807, 808, 809, 810, 811, 812, 813, 814, 815, 816, 817, 818, 819, 820, 821, 822, 823, 824, 825, 826, 827, 828, 829, 830, 831, 832, 833, 834, 835, 836, 837, 838, 839, 840, 841, 842, 843, 844, 845, 846, 847, 848, 849, 850, 851, 852, 853, 854, 855, 856, 857, 858, 859, 860, 861, 862, 863, 864, 865, 866, 867, 868] (by decide +kernel) (by decide +kernel)
set_option maxRecDepth 20000 in
theorem gL_law_X9_person : GoodIn wsL_law (wsV RL 73 RX9 yX9_person wsX9_person) := goodIn_app (goodIn_of _ (by decide +kernel)) ggL_law_X9_person
set_option maxRecDepth 20000 in
theorem ggL_law_X8_sign : GoodIn wsL_law wsX8_sign := goodIn_r _ [738, 27, 739, 740, 741, 26, 742, 62, 743, 728, 729, 730, 283, 61, 790, 791, 792, 793, 794, 795, 796, 797, 798, 799, 878, 879, 880, 881, 882, 883, 884, 885, 886, 887] (by decide +kernel) (by decide +kernel)
set_option maxRecDepth 20000 in
theorem gL_law_X8_sign : GoodIn wsL_law (wsV RL 74 RX8 yX8_sign wsX8_sign) := goodIn_app (goodIn_of _ (by decide +kernel)) ggL_law_X8_sign
set_option maxRecDepth 20000 in
theorem ggL_law_X9_sign : GoodIn wsL_law wsX9_sign := goodIn_r _ [747, 548, 140, 142, 800, 801, 802, 803, 804, 805, 806, 807, 808, 809, 810, 811, 812, 813, 814, 815, 816, 817, 818, 819, 820, 821, 822, 823, 824, 825, 826, 827, 828, 829, 830, 831, 832, 833, 834, 835, 836, 837, 838, 839, 840, 841, 842, 843, 844, 845, 846, 847, 848, 849, 850, 851, 852, 853, 854, 855, 856, 857, 858, 859, 860, 861, 862, 863, 864, 865, 866, 867, 868] (by decide +kernel) (by decide +kernel)
set_option maxRecDepth 20000 in
theorem gL_law_X9_sign : GoodIn wsL_law (wsV RL 77 RX9 yX9_sign wsX9_sign) := goodIn_app (goodIn_of _ (by decide +kernel)) ggL_law_X9_sign
set_option maxRecDepth 20000 in
theorem ggL_law_X8_named : GoodIn wsL_law wsX8_named := goodIn_r _ [751, 27, 752, 753, 754, 26, 755, 283, 756, 757, 758, 759, 63, 760, 761, 762, 763, 743, 728, 729, 730, 61, 764, 765, 766, 767, 768, 740, 741, 742, 62, 790, 791, 792, 793, 794, 795, 796, 797, 798, 799, 878, 879, 880, 881, 882, 883, 884, 885, 886, 887] (by decide +kernel) (by decide +kernel)
set_option maxRecDepth 20000 in
theorem gL_law_X8_named : GoodIn wsL_law (wsV RL 78 RX8 yX8_named wsX8_named) := goodIn_app (goodIn_of _ (by decide +kernel)) ggL_law_X8_named
set_option maxRecDepth 20000 in
theorem ggL_law_X9_named : GoodIn wsL_law wsX9_named := goodIn_r _ [772, 548, 140, 142, 773, 774, 5, 775, 800, 801, 802, 803, 804, 805, 806, 807, 808, 809, 810, 811, 812, 813, 814, 815, 816, 817, 818, 819, 820, 821, 822, 823, 824, 825, 826, 827, 828, 829, 830, 831, 832, 833, 834, 835, 836, 837, 838, 839, 840, 841, 842, 843, 844, 845, 846, 847, 848, 849, 850, 851, 852, 853, 854, 855, 856, 857, 858, 859, 860, 861, 862, 863, 864, 865, 866, 867, 868] (by decide +kernel) (by decide +kernel)
set_option maxRecDepth 20000 in
theorem gL_law_X9_named : GoodIn wsL_law (wsV RL 82 RX9 yX9_named wsX9_named) := goodIn_app (goodIn_of _ (by decide +kernel)) ggL_law_X9_named
set_option maxRecDepth 20000 in
theorem ggL_law_X8_audit : GoodIn wsL_law wsX8_audit := goodIn_r _ [779, 27, 467, 465, 466, 147, 193, 780, 781, 782, 26, 783, 282, 283, 476, 477, 479, 784, 716, 717, 718, 60, 743, 728, 729, 730, 61, 790, 791, 792, 793, 794, 795, 796, 797, 798, 799, 878, 879, 880, 881, 882, 883, 884, 885, 886, 887] (by decide +kernel) (by decide +kernel)
set_option maxRecDepth 20000 in
theorem gL_law_X8_audit : GoodIn wsL_law (wsV RL 83 RX8 yX8_audit wsX8_audit) := goodIn_app (goodIn_of _ (by decide +kernel)) ggL_law_X8_audit
set_option maxRecDepth 20000 in
theorem ggL_law_X9_audit : GoodIn wsL_law wsX9_audit := goodIn_r _ [788, 547, 134, 548, 137, 138, 484, 550, 542, 549, 162, 789, 708, 709, 5, 710, 800, 801, 802, 803, 804, 805, 806, 807, 808, 809, 810, 811, 812, 813, 814, 815, 816, 817, 818, 819, 820, 821, 822, 823, 824, 825, 826, 827, 828, 829, 830, 831, 832, 833, 834, 835, 836, 837, 838, 839, 840, 841, 842, 843, 844, 845, 846, 847, 848, 849, 850, 851, 852, 853, 854, 855, 856, 857, 858, 859, 860, 861, 862, 863, 864, 865, 866, 867, 868] (by decide +kernel) (by decide +kernel)
set_option maxRecDepth 20000 in
theorem gL_law_X9_audit : GoodIn wsL_law (wsV RL 86 RX9 yX9_audit wsX9_audit) := goodIn_app (goodIn_of _ (by decide +kernel)) ggL_law_X9_audit
theorem dL_law_0 : decode cL_law 0 = .ok (.new 7, 3) := by decide +kernel
theorem dL_law_3 : decode cL_law 3 = .ok (.dup, 1) := by decide +kernel
theorem dL_law_4 : decode cL_law 4 = .ok (.invokespecial 9, 3) := by decide +kernel
theorem dL_law_7 : decode cL_law 7 = .ok (.astore_n 1, 1) := by decide +kernel
theorem dL_law_8 : decode cL_law 8 = .ok (.new 10, 3) := by decide +kernel
theorem dL_law_11 : decode cL_law 11 = .ok (.dup, 1) := by decide +kernel
theorem dL_law_12 : decode cL_law 12 = .ok (.invokespecial 12, 3) := by decide +kernel
theorem dL_law_15 : decode cL_law 15 = .ok (.astore_n 2, 1) := by decide +kernel
theorem dL_law_16 : decode cL_law 16 = .ok (.iconst 0, 1) := by decide +kernel
theorem dL_law_17 : decode cL_law 17 = .ok (.istore_n 3, 1) := by decide +kernel
theorem dL_law_18 : decode cL_law 18 = .ok (.iload_n 3, 1) := by decide +kernel
theorem dL_law_19 : decode cL_law 19 = .ok (.aload_n 0, 1) := by decide +kernel
theorem dL_law_20 : decode cL_law 20 = .ok (.arraylength, 1) := by decide +kernel
theorem dL_law_21 : decode cL_law 21 = .ok (.bipush 6, 2) := by decide +kernel
theorem dL_law_23 : decode cL_law 23 = .ok (.isub, 1) := by decide +kernel
theorem dL_law_24 : decode cL_law 24 = .ok (.if_icmp .gt 569, 3) := by decide +kernel
theorem dL_law_27 : decode cL_law 27 = .ok (.aload_n 0, 1) := by decide +kernel
theorem dL_law_28 : decode cL_law 28 = .ok (.iload_n 3, 1) := by decide +kernel
theorem dL_law_29 : decode cL_law 29 = .ok (.iaload, 1) := by decide +kernel
theorem dL_law_30 : decode cL_law 30 = .ok (.bipush 31, 2) := by decide +kernel
theorem dL_law_32 : decode cL_law 32 = .ok (.iand, 1) := by decide +kernel
theorem dL_law_33 : decode cL_law 33 = .ok (.tableswitch 554 0 16 #[83, 146, 169, 212, 225, 238, 251, 264, 297, 320, 343, 366, 389, 422, 455, 488, 541], 83) := by decide +kernel
theorem dL_law_116 : decode cL_law 116 = .ok (.aload_n 1, 1) := by decide +kernel
theorem dL_law_117 : decode cL_law 117 = .ok (.aload_n 0, 1) := by decide +kernel
theorem dL_law_118 : decode cL_law 118 = .ok (.iload_n 3, 1) := by decide +kernel
theorem dL_law_119 : decode cL_law 119 = .ok (.iconst 1, 1) := by decide +kernel
theorem dL_law_120 : decode cL_law 120 = .ok (.iadd, 1) := by decide +kernel
theorem dL_law_121 : decode cL_law 121 = .ok (.iaload, 1) := by decide +kernel
theorem dL_law_122 : decode cL_law 122 = .ok (.aload_n 0, 1) := by decide +kernel
theorem dL_law_123 : decode cL_law 123 = .ok (.iload_n 3, 1) := by decide +kernel
theorem dL_law_124 : decode cL_law 124 = .ok (.iconst 2, 1) := by decide +kernel
theorem dL_law_125 : decode cL_law 125 = .ok (.iadd, 1) := by decide +kernel
theorem dL_law_126 : decode cL_law 126 = .ok (.iaload, 1) := by decide +kernel
theorem dL_law_127 : decode cL_law 127 = .ok (.aload_n 0, 1) := by decide +kernel
theorem dL_law_128 : decode cL_law 128 = .ok (.iload_n 3, 1) := by decide +kernel
theorem dL_law_129 : decode cL_law 129 = .ok (.iconst 3, 1) := by decide +kernel
theorem dL_law_130 : decode cL_law 130 = .ok (.iadd, 1) := by decide +kernel
theorem dL_law_131 : decode cL_law 131 = .ok (.iaload, 1) := by decide +kernel
theorem dL_law_132 : decode cL_law 132 = .ok (.aload_n 0, 1) := by decide +kernel
theorem dL_law_133 : decode cL_law 133 = .ok (.iload_n 3, 1) := by decide +kernel
theorem dL_law_134 : decode cL_law 134 = .ok (.iconst 4, 1) := by decide +kernel
theorem dL_law_135 : decode cL_law 135 = .ok (.iadd, 1) := by decide +kernel
theorem dL_law_136 : decode cL_law 136 = .ok (.iaload, 1) := by decide +kernel
theorem dL_law_137 : decode cL_law 137 = .ok (.aload_n 0, 1) := by decide +kernel
theorem dL_law_138 : decode cL_law 138 = .ok (.iload_n 3, 1) := by decide +kernel
theorem dL_law_139 : decode cL_law 139 = .ok (.iconst 5, 1) := by decide +kernel
theorem dL_law_140 : decode cL_law 140 = .ok (.iadd, 1) := by decide +kernel
theorem dL_law_141 : decode cL_law 141 = .ok (.iaload, 1) := by decide +kernel
theorem dL_law_142 : decode cL_law 142 = .ok (.invokevirtual 13, 3) := by decide +kernel
theorem dL_law_145 : decode cL_law 145 = .ok (.aload_n 2, 1) := by decide +kernel
theorem dL_law_146 : decode cL_law 146 = .ok (.aload_n 0, 1) := by decide +kernel
theorem dL_law_147 : decode cL_law 147 = .ok (.iload_n 3, 1) := by decide +kernel
theorem dL_law_148 : decode cL_law 148 = .ok (.iconst 1, 1) := by decide +kernel
theorem dL_law_149 : decode cL_law 149 = .ok (.iadd, 1) := by decide +kernel
theorem dL_law_150 : decode cL_law 150 = .ok (.iaload, 1) := by decide +kernel
theorem dL_law_151 : decode cL_law 151 = .ok (.aload_n 0, 1) := by decide +kernel
theorem dL_law_152 : decode cL_law 152 = .ok (.iload_n 3, 1) := by decide +kernel
theorem dL_law_153 : decode cL_law 153 = .ok (.iconst 2, 1) := by decide +kernel
theorem dL_law_154 : decode cL_law 154 = .ok (.iadd, 1) := by decide +kernel
theorem dL_law_155 : decode cL_law 155 = .ok (.iaload, 1) := by decide +kernel
theorem dL_law_156 : decode cL_law 156 = .ok (.aload_n 0, 1) := by decide +kernel
theorem dL_law_157 : decode cL_law 157 = .ok (.iload_n 3, 1) := by decide +kernel
theorem dL_law_158 : decode cL_law 158 = .ok (.iconst 3, 1) := by decide +kernel
theorem dL_law_159 : decode cL_law 159 = .ok (.iadd, 1) := by decide +kernel
theorem dL_law_160 : decode cL_law 160 = .ok (.iaload, 1) := by decide +kernel
theorem dL_law_161 : decode cL_law 161 = .ok (.aload_n 0, 1) := by decide +kernel
theorem dL_law_162 : decode cL_law 162 = .ok (.iload_n 3, 1) := by decide +kernel
theorem dL_law_163 : decode cL_law 163 = .ok (.iconst 4, 1) := by decide +kernel
theorem dL_law_164 : decode cL_law 164 = .ok (.iadd, 1) := by decide +kernel
theorem dL_law_165 : decode cL_law 165 = .ok (.iaload, 1) := by decide +kernel
theorem dL_law_166 : decode cL_law 166 = .ok (.aload_n 0, 1) := by decide +kernel
theorem dL_law_167 : decode cL_law 167 = .ok (.iload_n 3, 1) := by decide +kernel
theorem dL_law_168 : decode cL_law 168 = .ok (.iconst 5, 1) := by decide +kernel
theorem dL_law_169 : decode cL_law 169 = .ok (.iadd, 1) := by decide +kernel
theorem dL_law_170 : decode cL_law 170 = .ok (.iaload, 1) := by decide +kernel
theorem dL_law_171 : decode cL_law 171 = .ok (.invokevirtual 17, 3) := by decide +kernel
theorem dL_law_174 : decode cL_law 174 = .ok (.if_icmp .eq 413, 3) := by decide +kernel
theorem dL_law_177 : decode cL_law 177 = .ok (.iconst 0, 1) := by decide +kernel
theorem dL_law_178 : decode cL_law 178 = .ok (.ireturn, 1) := by decide +kernel
theorem dL_law_179 : decode cL_law 179 = .ok (.aload_n 1, 1) := by decide +kernel
theorem dL_law_180 : decode cL_law 180 = .ok (.aload_n 0, 1) := by decide +kernel
theorem dL_law_181 : decode cL_law 181 = .ok (.iload_n 3, 1) := by decide +kernel
theorem dL_law_182 : decode cL_law 182 = .ok (.iconst 1, 1) := by decide +kernel
theorem dL_law_183 : decode cL_law 183 = .ok (.iadd, 1) := by decide +kernel
theorem dL_law_184 : decode cL_law 184 = .ok (.iaload, 1) := by decide +kernel
theorem dL_law_185 : decode cL_law 185 = .ok (.invokevirtual 18, 3) := by decide +kernel
theorem dL_law_188 : decode cL_law 188 = .ok (.aload_n 2, 1) := by decide +kernel
theorem dL_law_189 : decode cL_law 189 = .ok (.aload_n 0, 1) := by decide +kernel
theorem dL_law_190 : decode cL_law 190 = .ok (.iload_n 3, 1) := by decide +kernel
theorem dL_law_191 : decode cL_law 191 = .ok (.iconst 1, 1) := by decide +kernel
theorem dL_law_192 : decode cL_law 192 = .ok (.iadd, 1) := by decide +kernel
theorem dL_law_193 : decode cL_law 193 = .ok (.iaload, 1) := by decide +kernel
theorem dL_law_194 : decode cL_law 194 = .ok (.invokevirtual 22, 3) := by decide +kernel
theorem dL_law_197 : decode cL_law 197 = .ok (.if_icmp .eq 390, 3) := by decide +kernel
theorem dL_law_200 : decode cL_law 200 = .ok (.iconst 0, 1) := by decide +kernel
theorem dL_law_201 : decode cL_law 201 = .ok (.ireturn, 1) := by decide +kernel
theorem dL_law_202 : decode cL_law 202 = .ok (.aload_n 1, 1) := by decide +kernel
theorem dL_law_203 : decode cL_law 203 = .ok (.aload_n 0, 1) := by decide +kernel
theorem dL_law_204 : decode cL_law 204 = .ok (.iload_n 3, 1) := by decide +kernel
theorem dL_law_205 : decode cL_law 205 = .ok (.iconst 1, 1) := by decide +kernel
theorem dL_law_206 : decode cL_law 206 = .ok (.iadd, 1) := by decide +kernel
theorem dL_law_207 : decode cL_law 207 = .ok (.iaload, 1) := by decide +kernel
theorem dL_law_208 : decode cL_law 208 = .ok (.aload_n 0, 1) := by decide +kernel
theorem dL_law_209 : decode cL_law 209 = .ok (.iload_n 3, 1) := by decide +kernel
theorem dL_law_210 : decode cL_law 210 = .ok (.iconst 2, 1) := by decide +kernel
theorem dL_law_211 : decode cL_law 211 = .ok (.iadd, 1) := by decide +kernel
theorem dL_law_212 : decode cL_law 212 = .ok (.iaload, 1) := by decide +kernel
theorem dL_law_213 : decode cL_law 213 = .ok (.aload_n 0, 1) := by decide +kernel
theorem dL_law_214 : decode cL_law 214 = .ok (.iload_n 3, 1) := by decide +kernel
theorem dL_law_215 : decode cL_law 215 = .ok (.iconst 3, 1) := by decide +kernel
theorem dL_law_216 : decode cL_law 216 = .ok (.iadd, 1) := by decide +kernel
theorem dL_law_217 : decode cL_law 217 = .ok (.iaload, 1) := by decide +kernel
theorem dL_law_218 : decode cL_law 218 = .ok (.invokevirtual 23, 3) := by decide +kernel
theorem dL_law_221 : decode cL_law 221 = .ok (.aload_n 2, 1) := by decide +kernel
theorem dL_law_222 : decode cL_law 222 = .ok (.aload_n 0, 1) := by decide +kernel
theorem dL_law_223 : decode cL_law 223 = .ok (.iload_n 3, 1) := by decide +kernel
theorem dL_law_224 : decode cL_law 224 = .ok (.iconst 1, 1) := by decide +kernel
theorem dL_law_225 : decode cL_law 225 = .ok (.iadd, 1) := by decide +kernel
theorem dL_law_226 : decode cL_law 226 = .ok (.iaload, 1) := by decide +kernel
theorem dL_law_227 : decode cL_law 227 = .ok (.aload_n 0, 1) := by decide +kernel
theorem dL_law_228 : decode cL_law 228 = .ok (.iload_n 3, 1) := by decide +kernel
theorem dL_law_229 : decode cL_law 229 = .ok (.iconst 2, 1) := by decide +kernel
theorem dL_law_230 : decode cL_law 230 = .ok (.iadd, 1) := by decide +kernel
theorem dL_law_231 : decode cL_law 231 = .ok (.iaload, 1) := by decide +kernel
theorem dL_law_232 : decode cL_law 232 = .ok (.aload_n 0, 1) := by decide +kernel
theorem dL_law_233 : decode cL_law 233 = .ok (.iload_n 3, 1) := by decide +kernel
theorem dL_law_234 : decode cL_law 234 = .ok (.iconst 3, 1) := by decide +kernel
theorem dL_law_235 : decode cL_law 235 = .ok (.iadd, 1) := by decide +kernel
theorem dL_law_236 : decode cL_law 236 = .ok (.iaload, 1) := by decide +kernel
theorem dL_law_237 : decode cL_law 237 = .ok (.invokevirtual 27, 3) := by decide +kernel
theorem dL_law_240 : decode cL_law 240 = .ok (.if_icmp .eq 347, 3) := by decide +kernel
theorem dL_law_243 : decode cL_law 243 = .ok (.iconst 0, 1) := by decide +kernel
theorem dL_law_244 : decode cL_law 244 = .ok (.ireturn, 1) := by decide +kernel
theorem dL_law_245 : decode cL_law 245 = .ok (.aload_n 1, 1) := by decide +kernel
theorem dL_law_246 : decode cL_law 246 = .ok (.invokevirtual 28, 3) := by decide +kernel
theorem dL_law_249 : decode cL_law 249 = .ok (.aload_n 2, 1) := by decide +kernel
theorem dL_law_250 : decode cL_law 250 = .ok (.invokevirtual 32, 3) := by decide +kernel
theorem dL_law_253 : decode cL_law 253 = .ok (.if_icmp .eq 334, 3) := by decide +kernel
theorem dL_law_256 : decode cL_law 256 = .ok (.iconst 0, 1) := by decide +kernel
theorem dL_law_257 : decode cL_law 257 = .ok (.ireturn, 1) := by decide +kernel
theorem dL_law_258 : decode cL_law 258 = .ok (.aload_n 1, 1) := by decide +kernel
theorem dL_law_259 : decode cL_law 259 = .ok (.invokevirtual 33, 3) := by decide +kernel
theorem dL_law_262 : decode cL_law 262 = .ok (.aload_n 2, 1) := by decide +kernel
theorem dL_law_263 : decode cL_law 263 = .ok (.invokevirtual 36, 3) := by decide +kernel
theorem dL_law_266 : decode cL_law 266 = .ok (.if_icmp .eq 321, 3) := by decide +kernel
theorem dL_law_269 : decode cL_law 269 = .ok (.iconst 0, 1) := by decide +kernel
theorem dL_law_270 : decode cL_law 270 = .ok (.ireturn, 1) := by decide +kernel
theorem dL_law_271 : decode cL_law 271 = .ok (.aload_n 1, 1) := by decide +kernel
theorem dL_law_272 : decode cL_law 272 = .ok (.invokevirtual 37, 3) := by decide +kernel
theorem dL_law_275 : decode cL_law 275 = .ok (.aload_n 2, 1) := by decide +kernel
theorem dL_law_276 : decode cL_law 276 = .ok (.invokevirtual 40, 3) := by decide +kernel
theorem dL_law_279 : decode cL_law 279 = .ok (.if_icmp .eq 308, 3) := by decide +kernel
theorem dL_law_282 : decode cL_law 282 = .ok (.iconst 0, 1) := by decide +kernel
theorem dL_law_283 : decode cL_law 283 = .ok (.ireturn, 1) := by decide +kernel
theorem dL_law_284 : decode cL_law 284 = .ok (.aload_n 1, 1) := by decide +kernel
theorem dL_law_285 : decode cL_law 285 = .ok (.invokevirtual 41, 3) := by decide +kernel
theorem dL_law_288 : decode cL_law 288 = .ok (.aload_n 2, 1) := by decide +kernel
theorem dL_law_289 : decode cL_law 289 = .ok (.invokevirtual 44, 3) := by decide +kernel
theorem dL_law_292 : decode cL_law 292 = .ok (.if_icmp .eq 295, 3) := by decide +kernel
theorem dL_law_295 : decode cL_law 295 = .ok (.iconst 0, 1) := by decide +kernel
theorem dL_law_296 : decode cL_law 296 = .ok (.ireturn, 1) := by decide +kernel
theorem dL_law_297 : decode cL_law 297 = .ok (.aload_n 1, 1) := by decide +kernel
theorem dL_law_298 : decode cL_law 298 = .ok (.aload_n 0, 1) := by decide +kernel
theorem dL_law_299 : decode cL_law 299 = .ok (.iload_n 3, 1) := by decide +kernel
theorem dL_law_300 : decode cL_law 300 = .ok (.iconst 1, 1) := by decide +kernel
theorem dL_law_301 : decode cL_law 301 = .ok (.iadd, 1) := by decide +kernel
theorem dL_law_302 : decode cL_law 302 = .ok (.iaload, 1) := by decide +kernel
theorem dL_law_303 : decode cL_law 303 = .ok (.aload_n 0, 1) := by decide +kernel
theorem dL_law_304 : decode cL_law 304 = .ok (.iload_n 3, 1) := by decide +kernel
theorem dL_law_305 : decode cL_law 305 = .ok (.iconst 2, 1) := by decide +kernel
theorem dL_law_306 : decode cL_law 306 = .ok (.iadd, 1) := by decide +kernel
theorem dL_law_307 : decode cL_law 307 = .ok (.iaload, 1) := by decide +kernel
theorem dL_law_308 : decode cL_law 308 = .ok (.invokevirtual 45, 3) := by decide +kernel
theorem dL_law_311 : decode cL_law 311 = .ok (.aload_n 2, 1) := by decide +kernel
theorem dL_law_312 : decode cL_law 312 = .ok (.aload_n 0, 1) := by decide +kernel
theorem dL_law_313 : decode cL_law 313 = .ok (.iload_n 3, 1) := by decide +kernel
theorem dL_law_314 : decode cL_law 314 = .ok (.iconst 1, 1) := by decide +kernel
theorem dL_law_315 : decode cL_law 315 = .ok (.iadd, 1) := by decide +kernel
theorem dL_law_316 : decode cL_law 316 = .ok (.iaload, 1) := by decide +kernel
theorem dL_law_317 : decode cL_law 317 = .ok (.aload_n 0, 1) := by decide +kernel
theorem dL_law_318 : decode cL_law 318 = .ok (.iload_n 3, 1) := by decide +kernel
theorem dL_law_319 : decode cL_law 319 = .ok (.iconst 2, 1) := by decide +kernel
theorem dL_law_320 : decode cL_law 320 = .ok (.iadd, 1) := by decide +kernel
theorem dL_law_321 : decode cL_law 321 = .ok (.iaload, 1) := by decide +kernel
theorem dL_law_322 : decode cL_law 322 = .ok (.invokevirtual 49, 3) := by decide +kernel
theorem dL_law_325 : decode cL_law 325 = .ok (.if_icmp .eq 262, 3) := by decide +kernel
theorem dL_law_328 : decode cL_law 328 = .ok (.iconst 0, 1) := by decide +kernel
theorem dL_law_329 : decode cL_law 329 = .ok (.ireturn, 1) := by decide +kernel
theorem dL_law_330 : decode cL_law 330 = .ok (.aload_n 1, 1) := by decide +kernel
theorem dL_law_331 : decode cL_law 331 = .ok (.aload_n 0, 1) := by decide +kernel
theorem dL_law_332 : decode cL_law 332 = .ok (.iload_n 3, 1) := by decide +kernel
theorem dL_law_333 : decode cL_law 333 = .ok (.iconst 1, 1) := by decide +kernel
theorem dL_law_334 : decode cL_law 334 = .ok (.iadd, 1) := by decide +kernel
theorem dL_law_335 : decode cL_law 335 = .ok (.iaload, 1) := by decide +kernel
theorem dL_law_336 : decode cL_law 336 = .ok (.invokevirtual 50, 3) := by decide +kernel
theorem dL_law_339 : decode cL_law 339 = .ok (.aload_n 2, 1) := by decide +kernel
theorem dL_law_340 : decode cL_law 340 = .ok (.aload_n 0, 1) := by decide +kernel
theorem dL_law_341 : decode cL_law 341 = .ok (.iload_n 3, 1) := by decide +kernel
theorem dL_law_342 : decode cL_law 342 = .ok (.iconst 1, 1) := by decide +kernel
theorem dL_law_343 : decode cL_law 343 = .ok (.iadd, 1) := by decide +kernel
theorem dL_law_344 : decode cL_law 344 = .ok (.iaload, 1) := by decide +kernel
theorem dL_law_345 : decode cL_law 345 = .ok (.invokevirtual 53, 3) := by decide +kernel
theorem dL_law_348 : decode cL_law 348 = .ok (.if_icmp .eq 239, 3) := by decide +kernel
theorem dL_law_351 : decode cL_law 351 = .ok (.iconst 0, 1) := by decide +kernel
theorem dL_law_352 : decode cL_law 352 = .ok (.ireturn, 1) := by decide +kernel
theorem dL_law_353 : decode cL_law 353 = .ok (.aload_n 1, 1) := by decide +kernel
theorem dL_law_354 : decode cL_law 354 = .ok (.aload_n 0, 1) := by decide +kernel
theorem dL_law_355 : decode cL_law 355 = .ok (.iload_n 3, 1) := by decide +kernel
theorem dL_law_356 : decode cL_law 356 = .ok (.iconst 1, 1) := by decide +kernel
theorem dL_law_357 : decode cL_law 357 = .ok (.iadd, 1) := by decide +kernel
theorem dL_law_358 : decode cL_law 358 = .ok (.iaload, 1) := by decide +kernel
theorem dL_law_359 : decode cL_law 359 = .ok (.invokevirtual 54, 3) := by decide +kernel
theorem dL_law_362 : decode cL_law 362 = .ok (.aload_n 2, 1) := by decide +kernel
theorem dL_law_363 : decode cL_law 363 = .ok (.aload_n 0, 1) := by decide +kernel
theorem dL_law_364 : decode cL_law 364 = .ok (.iload_n 3, 1) := by decide +kernel
theorem dL_law_365 : decode cL_law 365 = .ok (.iconst 1, 1) := by decide +kernel
theorem dL_law_366 : decode cL_law 366 = .ok (.iadd, 1) := by decide +kernel
theorem dL_law_367 : decode cL_law 367 = .ok (.iaload, 1) := by decide +kernel
theorem dL_law_368 : decode cL_law 368 = .ok (.invokevirtual 57, 3) := by decide +kernel
theorem dL_law_371 : decode cL_law 371 = .ok (.if_icmp .eq 216, 3) := by decide +kernel
theorem dL_law_374 : decode cL_law 374 = .ok (.iconst 0, 1) := by decide +kernel
theorem dL_law_375 : decode cL_law 375 = .ok (.ireturn, 1) := by decide +kernel
theorem dL_law_376 : decode cL_law 376 = .ok (.aload_n 1, 1) := by decide +kernel
theorem dL_law_377 : decode cL_law 377 = .ok (.aload_n 0, 1) := by decide +kernel
theorem dL_law_378 : decode cL_law 378 = .ok (.iload_n 3, 1) := by decide +kernel
theorem dL_law_379 : decode cL_law 379 = .ok (.iconst 1, 1) := by decide +kernel
theorem dL_law_380 : decode cL_law 380 = .ok (.iadd, 1) := by decide +kernel
theorem dL_law_381 : decode cL_law 381 = .ok (.iaload, 1) := by decide +kernel
theorem dL_law_382 : decode cL_law 382 = .ok (.invokevirtual 58, 3) := by decide +kernel
theorem dL_law_385 : decode cL_law 385 = .ok (.aload_n 2, 1) := by decide +kernel
theorem dL_law_386 : decode cL_law 386 = .ok (.aload_n 0, 1) := by decide +kernel
theorem dL_law_387 : decode cL_law 387 = .ok (.iload_n 3, 1) := by decide +kernel
theorem dL_law_388 : decode cL_law 388 = .ok (.iconst 1, 1) := by decide +kernel
theorem dL_law_389 : decode cL_law 389 = .ok (.iadd, 1) := by decide +kernel
theorem dL_law_390 : decode cL_law 390 = .ok (.iaload, 1) := by decide +kernel
theorem dL_law_391 : decode cL_law 391 = .ok (.invokevirtual 61, 3) := by decide +kernel
theorem dL_law_394 : decode cL_law 394 = .ok (.if_icmp .eq 193, 3) := by decide +kernel
theorem dL_law_397 : decode cL_law 397 = .ok (.iconst 0, 1) := by decide +kernel
theorem dL_law_398 : decode cL_law 398 = .ok (.ireturn, 1) := by decide +kernel
theorem dL_law_399 : decode cL_law 399 = .ok (.aload_n 1, 1) := by decide +kernel
theorem dL_law_400 : decode cL_law 400 = .ok (.aload_n 0, 1) := by decide +kernel
theorem dL_law_401 : decode cL_law 401 = .ok (.iload_n 3, 1) := by decide +kernel
theorem dL_law_402 : decode cL_law 402 = .ok (.iconst 1, 1) := by decide +kernel
theorem dL_law_403 : decode cL_law 403 = .ok (.iadd, 1) := by decide +kernel
theorem dL_law_404 : decode cL_law 404 = .ok (.iaload, 1) := by decide +kernel
theorem dL_law_405 : decode cL_law 405 = .ok (.invokevirtual 62, 3) := by decide +kernel
theorem dL_law_408 : decode cL_law 408 = .ok (.aload_n 2, 1) := by decide +kernel
theorem dL_law_409 : decode cL_law 409 = .ok (.aload_n 0, 1) := by decide +kernel
theorem dL_law_410 : decode cL_law 410 = .ok (.iload_n 3, 1) := by decide +kernel
theorem dL_law_411 : decode cL_law 411 = .ok (.iconst 1, 1) := by decide +kernel
theorem dL_law_412 : decode cL_law 412 = .ok (.iadd, 1) := by decide +kernel
theorem dL_law_413 : decode cL_law 413 = .ok (.iaload, 1) := by decide +kernel
theorem dL_law_414 : decode cL_law 414 = .ok (.invokevirtual 65, 3) := by decide +kernel
theorem dL_law_417 : decode cL_law 417 = .ok (.if_icmp .eq 170, 3) := by decide +kernel
theorem dL_law_420 : decode cL_law 420 = .ok (.iconst 0, 1) := by decide +kernel
theorem dL_law_421 : decode cL_law 421 = .ok (.ireturn, 1) := by decide +kernel
theorem dL_law_422 : decode cL_law 422 = .ok (.aload_n 1, 1) := by decide +kernel
theorem dL_law_423 : decode cL_law 423 = .ok (.aload_n 0, 1) := by decide +kernel
theorem dL_law_424 : decode cL_law 424 = .ok (.iload_n 3, 1) := by decide +kernel
theorem dL_law_425 : decode cL_law 425 = .ok (.iconst 1, 1) := by decide +kernel
theorem dL_law_426 : decode cL_law 426 = .ok (.iadd, 1) := by decide +kernel
theorem dL_law_427 : decode cL_law 427 = .ok (.iaload, 1) := by decide +kernel
theorem dL_law_428 : decode cL_law 428 = .ok (.aload_n 0, 1) := by decide +kernel
theorem dL_law_429 : decode cL_law 429 = .ok (.iload_n 3, 1) := by decide +kernel
theorem dL_law_430 : decode cL_law 430 = .ok (.iconst 2, 1) := by decide +kernel
theorem dL_law_431 : decode cL_law 431 = .ok (.iadd, 1) := by decide +kernel
theorem dL_law_432 : decode cL_law 432 = .ok (.iaload, 1) := by decide +kernel
theorem dL_law_433 : decode cL_law 433 = .ok (.invokevirtual 66, 3) := by decide +kernel
theorem dL_law_436 : decode cL_law 436 = .ok (.aload_n 2, 1) := by decide +kernel
theorem dL_law_437 : decode cL_law 437 = .ok (.aload_n 0, 1) := by decide +kernel
theorem dL_law_438 : decode cL_law 438 = .ok (.iload_n 3, 1) := by decide +kernel
theorem dL_law_439 : decode cL_law 439 = .ok (.iconst 1, 1) := by decide +kernel
theorem dL_law_440 : decode cL_law 440 = .ok (.iadd, 1) := by decide +kernel
theorem dL_law_441 : decode cL_law 441 = .ok (.iaload, 1) := by decide +kernel
theorem dL_law_442 : decode cL_law 442 = .ok (.aload_n 0, 1) := by decide +kernel
theorem dL_law_443 : decode cL_law 443 = .ok (.iload_n 3, 1) := by decide +kernel
theorem dL_law_444 : decode cL_law 444 = .ok (.iconst 2, 1) := by decide +kernel
theorem dL_law_445 : decode cL_law 445 = .ok (.iadd, 1) := by decide +kernel
theorem dL_law_446 : decode cL_law 446 = .ok (.iaload, 1) := by decide +kernel
theorem dL_law_447 : decode cL_law 447 = .ok (.invokevirtual 69, 3) := by decide +kernel
theorem dL_law_450 : decode cL_law 450 = .ok (.if_icmp .eq 137, 3) := by decide +kernel
theorem dL_law_453 : decode cL_law 453 = .ok (.iconst 0, 1) := by decide +kernel
theorem dL_law_454 : decode cL_law 454 = .ok (.ireturn, 1) := by decide +kernel
theorem dL_law_455 : decode cL_law 455 = .ok (.aload_n 1, 1) := by decide +kernel
theorem dL_law_456 : decode cL_law 456 = .ok (.aload_n 0, 1) := by decide +kernel
theorem dL_law_457 : decode cL_law 457 = .ok (.iload_n 3, 1) := by decide +kernel
theorem dL_law_458 : decode cL_law 458 = .ok (.iconst 1, 1) := by decide +kernel
theorem dL_law_459 : decode cL_law 459 = .ok (.iadd, 1) := by decide +kernel
theorem dL_law_460 : decode cL_law 460 = .ok (.iaload, 1) := by decide +kernel
theorem dL_law_461 : decode cL_law 461 = .ok (.aload_n 0, 1) := by decide +kernel
theorem dL_law_462 : decode cL_law 462 = .ok (.iload_n 3, 1) := by decide +kernel
theorem dL_law_463 : decode cL_law 463 = .ok (.iconst 2, 1) := by decide +kernel
theorem dL_law_464 : decode cL_law 464 = .ok (.iadd, 1) := by decide +kernel
theorem dL_law_465 : decode cL_law 465 = .ok (.iaload, 1) := by decide +kernel
theorem dL_law_466 : decode cL_law 466 = .ok (.invokevirtual 70, 3) := by decide +kernel
theorem dL_law_469 : decode cL_law 469 = .ok (.aload_n 2, 1) := by decide +kernel
theorem dL_law_470 : decode cL_law 470 = .ok (.aload_n 0, 1) := by decide +kernel
theorem dL_law_471 : decode cL_law 471 = .ok (.iload_n 3, 1) := by decide +kernel
theorem dL_law_472 : decode cL_law 472 = .ok (.iconst 1, 1) := by decide +kernel
theorem dL_law_473 : decode cL_law 473 = .ok (.iadd, 1) := by decide +kernel
theorem dL_law_474 : decode cL_law 474 = .ok (.iaload, 1) := by decide +kernel
theorem dL_law_475 : decode cL_law 475 = .ok (.aload_n 0, 1) := by decide +kernel
theorem dL_law_476 : decode cL_law 476 = .ok (.iload_n 3, 1) := by decide +kernel
theorem dL_law_477 : decode cL_law 477 = .ok (.iconst 2, 1) := by decide +kernel
theorem dL_law_478 : decode cL_law 478 = .ok (.iadd, 1) := by decide +kernel
theorem dL_law_479 : decode cL_law 479 = .ok (.iaload, 1) := by decide +kernel
theorem dL_law_480 : decode cL_law 480 = .ok (.invokevirtual 73, 3) := by decide +kernel
theorem dL_law_483 : decode cL_law 483 = .ok (.if_icmp .eq 104, 3) := by decide +kernel
theorem dL_law_486 : decode cL_law 486 = .ok (.iconst 0, 1) := by decide +kernel
theorem dL_law_487 : decode cL_law 487 = .ok (.ireturn, 1) := by decide +kernel
theorem dL_law_488 : decode cL_law 488 = .ok (.aload_n 1, 1) := by decide +kernel
theorem dL_law_489 : decode cL_law 489 = .ok (.aload_n 0, 1) := by decide +kernel
theorem dL_law_490 : decode cL_law 490 = .ok (.iload_n 3, 1) := by decide +kernel
theorem dL_law_491 : decode cL_law 491 = .ok (.iconst 1, 1) := by decide +kernel
theorem dL_law_492 : decode cL_law 492 = .ok (.iadd, 1) := by decide +kernel
theorem dL_law_493 : decode cL_law 493 = .ok (.iaload, 1) := by decide +kernel
theorem dL_law_494 : decode cL_law 494 = .ok (.aload_n 0, 1) := by decide +kernel
theorem dL_law_495 : decode cL_law 495 = .ok (.iload_n 3, 1) := by decide +kernel
theorem dL_law_496 : decode cL_law 496 = .ok (.iconst 2, 1) := by decide +kernel
theorem dL_law_497 : decode cL_law 497 = .ok (.iadd, 1) := by decide +kernel
theorem dL_law_498 : decode cL_law 498 = .ok (.iaload, 1) := by decide +kernel
theorem dL_law_499 : decode cL_law 499 = .ok (.invokevirtual 74, 3) := by decide +kernel
theorem dL_law_502 : decode cL_law 502 = .ok (.aload_n 2, 1) := by decide +kernel
theorem dL_law_503 : decode cL_law 503 = .ok (.aload_n 0, 1) := by decide +kernel
theorem dL_law_504 : decode cL_law 504 = .ok (.iload_n 3, 1) := by decide +kernel
theorem dL_law_505 : decode cL_law 505 = .ok (.iconst 1, 1) := by decide +kernel
theorem dL_law_506 : decode cL_law 506 = .ok (.iadd, 1) := by decide +kernel
theorem dL_law_507 : decode cL_law 507 = .ok (.iaload, 1) := by decide +kernel
theorem dL_law_508 : decode cL_law 508 = .ok (.aload_n 0, 1) := by decide +kernel
theorem dL_law_509 : decode cL_law 509 = .ok (.iload_n 3, 1) := by decide +kernel
theorem dL_law_510 : decode cL_law 510 = .ok (.iconst 2, 1) := by decide +kernel
theorem dL_law_511 : decode cL_law 511 = .ok (.iadd, 1) := by decide +kernel
theorem dL_law_512 : decode cL_law 512 = .ok (.iaload, 1) := by decide +kernel
theorem dL_law_513 : decode cL_law 513 = .ok (.invokevirtual 77, 3) := by decide +kernel
theorem dL_law_516 : decode cL_law 516 = .ok (.if_icmp .eq 71, 3) := by decide +kernel
theorem dL_law_519 : decode cL_law 519 = .ok (.iconst 0, 1) := by decide +kernel
theorem dL_law_520 : decode cL_law 520 = .ok (.ireturn, 1) := by decide +kernel
theorem dL_law_521 : decode cL_law 521 = .ok (.aload_n 1, 1) := by decide +kernel
theorem dL_law_522 : decode cL_law 522 = .ok (.aload_n 0, 1) := by decide +kernel
theorem dL_law_523 : decode cL_law 523 = .ok (.iload_n 3, 1) := by decide +kernel
theorem dL_law_524 : decode cL_law 524 = .ok (.iconst 1, 1) := by decide +kernel
theorem dL_law_525 : decode cL_law 525 = .ok (.iadd, 1) := by decide +kernel
theorem dL_law_526 : decode cL_law 526 = .ok (.iaload, 1) := by decide +kernel
theorem dL_law_527 : decode cL_law 527 = .ok (.aload_n 0, 1) := by decide +kernel
theorem dL_law_528 : decode cL_law 528 = .ok (.iload_n 3, 1) := by decide +kernel
theorem dL_law_529 : decode cL_law 529 = .ok (.iconst 2, 1) := by decide +kernel
theorem dL_law_530 : decode cL_law 530 = .ok (.iadd, 1) := by decide +kernel
theorem dL_law_531 : decode cL_law 531 = .ok (.iaload, 1) := by decide +kernel
theorem dL_law_532 : decode cL_law 532 = .ok (.aload_n 0, 1) := by decide +kernel
theorem dL_law_533 : decode cL_law 533 = .ok (.iload_n 3, 1) := by decide +kernel
theorem dL_law_534 : decode cL_law 534 = .ok (.iconst 3, 1) := by decide +kernel
theorem dL_law_535 : decode cL_law 535 = .ok (.iadd, 1) := by decide +kernel
theorem dL_law_536 : decode cL_law 536 = .ok (.iaload, 1) := by decide +kernel
theorem dL_law_537 : decode cL_law 537 = .ok (.aload_n 0, 1) := by decide +kernel
theorem dL_law_538 : decode cL_law 538 = .ok (.iload_n 3, 1) := by decide +kernel
theorem dL_law_539 : decode cL_law 539 = .ok (.iconst 4, 1) := by decide +kernel
theorem dL_law_540 : decode cL_law 540 = .ok (.iadd, 1) := by decide +kernel
theorem dL_law_541 : decode cL_law 541 = .ok (.iaload, 1) := by decide +kernel
theorem dL_law_542 : decode cL_law 542 = .ok (.invokevirtual 78, 3) := by decide +kernel
theorem dL_law_545 : decode cL_law 545 = .ok (.aload_n 2, 1) := by decide +kernel
theorem dL_law_546 : decode cL_law 546 = .ok (.aload_n 0, 1) := by decide +kernel
theorem dL_law_547 : decode cL_law 547 = .ok (.iload_n 3, 1) := by decide +kernel
theorem dL_law_548 : decode cL_law 548 = .ok (.iconst 1, 1) := by decide +kernel
theorem dL_law_549 : decode cL_law 549 = .ok (.iadd, 1) := by decide +kernel
theorem dL_law_550 : decode cL_law 550 = .ok (.iaload, 1) := by decide +kernel
theorem dL_law_551 : decode cL_law 551 = .ok (.aload_n 0, 1) := by decide +kernel
theorem dL_law_552 : decode cL_law 552 = .ok (.iload_n 3, 1) := by decide +kernel
theorem dL_law_553 : decode cL_law 553 = .ok (.iconst 2, 1) := by decide +kernel
theorem dL_law_554 : decode cL_law 554 = .ok (.iadd, 1) := by decide +kernel
theorem dL_law_555 : decode cL_law 555 = .ok (.iaload, 1) := by decide +kernel
theorem dL_law_556 : decode cL_law 556 = .ok (.aload_n 0, 1) := by decide +kernel
theorem dL_law_557 : decode cL_law 557 = .ok (.iload_n 3, 1) := by decide +kernel
theorem dL_law_558 : decode cL_law 558 = .ok (.iconst 3, 1) := by decide +kernel
theorem dL_law_559 : decode cL_law 559 = .ok (.iadd, 1) := by decide +kernel
theorem dL_law_560 : decode cL_law 560 = .ok (.iaload, 1) := by decide +kernel
theorem dL_law_561 : decode cL_law 561 = .ok (.aload_n 0, 1) := by decide +kernel
theorem dL_law_562 : decode cL_law 562 = .ok (.iload_n 3, 1) := by decide +kernel
theorem dL_law_563 : decode cL_law 563 = .ok (.iconst 4, 1) := by decide +kernel
theorem dL_law_564 : decode cL_law 564 = .ok (.iadd, 1) := by decide +kernel
theorem dL_law_565 : decode cL_law 565 = .ok (.iaload, 1) := by decide +kernel
theorem dL_law_566 : decode cL_law 566 = .ok (.invokevirtual 82, 3) := by decide +kernel
theorem dL_law_569 : decode cL_law 569 = .ok (.if_icmp .eq 18, 3) := by decide +kernel
theorem dL_law_572 : decode cL_law 572 = .ok (.iconst 0, 1) := by decide +kernel
theorem dL_law_573 : decode cL_law 573 = .ok (.ireturn, 1) := by decide +kernel
theorem dL_law_574 : decode cL_law 574 = .ok (.aload_n 1, 1) := by decide +kernel
theorem dL_law_575 : decode cL_law 575 = .ok (.invokevirtual 83, 3) := by decide +kernel
theorem dL_law_578 : decode cL_law 578 = .ok (.aload_n 2, 1) := by decide +kernel
theorem dL_law_579 : decode cL_law 579 = .ok (.invokevirtual 86, 3) := by decide +kernel
theorem dL_law_582 : decode cL_law 582 = .ok (.if_icmp .eq 5, 3) := by decide +kernel
theorem dL_law_585 : decode cL_law 585 = .ok (.iconst 0, 1) := by decide +kernel
theorem dL_law_586 : decode cL_law 586 = .ok (.ireturn, 1) := by decide +kernel
theorem dL_law_587 : decode cL_law 587 = .ok (.iinc 3 6, 3) := by decide +kernel
theorem dL_law_590 : decode cL_law 590 = .ok (.goto (-572), 3) := by decide +kernel
theorem dL_law_593 : decode cL_law 593 = .ok (.iconst 1, 1) := by decide +kernel
theorem dL_law_594 : decode cL_law 594 = .ok (.ireturn, 1) := by decide +kernel
abbrev vwCl : List vw_C := [(RX0, TX0, 10), (RX1, TX1, 5), (RX2, TX2, 13), (RX3, TX3, 7), (RX4, TX4, 19), (RX5, TX5, 2), (RX6, TX6, 3), (RX7, TX7, 2), (RX8, TX8, 10), (RX9, TX9, 69)]
