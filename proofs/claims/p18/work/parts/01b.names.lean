theorem dX0_init_0 : decode cX0_init 0 = .ok (.aload_n 0, 1) := by decide +kernel
theorem dX0_init_1 : decode cX0_init 1 = .ok (.invokespecial 3, 3) := by decide +kernel
theorem dX0_init_4 : decode cX0_init 4 = .ok (.aload_n 0, 1) := by decide +kernel
theorem dX0_init_5 : decode cX0_init 5 = .ok (.iconst 5, 1) := by decide +kernel
theorem dX0_init_6 : decode cX0_init 6 = .ok (.bipush 60, 2) := by decide +kernel
theorem dX0_init_8 : decode cX0_init 8 = .ok (.multianewarray 11 2, 4) := by decide +kernel
theorem dX0_init_12 : decode cX0_init 12 = .ok (.putfield 13, 3) := by decide +kernel
theorem dX0_init_15 : decode cX0_init 15 = .ok (.aload_n 0, 1) := by decide +kernel
theorem dX0_init_16 : decode cX0_init 16 = .ok (.iconst 5, 1) := by decide +kernel
theorem dX0_init_17 : decode cX0_init 17 = .ok (.sipush 300, 3) := by decide +kernel
theorem dX0_init_20 : decode cX0_init 20 = .ok (.multianewarray 11 2, 4) := by decide +kernel
theorem dX0_init_24 : decode cX0_init 24 = .ok (.putfield 16, 3) := by decide +kernel
theorem dX0_init_27 : decode cX0_init 27 = .ok (.aload_n 0, 1) := by decide +kernel
theorem dX0_init_28 : decode cX0_init 28 = .ok (.sipush 9000, 3) := by decide +kernel
theorem dX0_init_31 : decode cX0_init 31 = .ok (.newarray .byte, 2) := by decide +kernel
theorem dX0_init_33 : decode cX0_init 33 = .ok (.putfield 21, 3) := by decide +kernel
theorem dX0_init_36 : decode cX0_init 36 = .ok (.aload_n 0, 1) := by decide +kernel
theorem dX0_init_37 : decode cX0_init 37 = .ok (.bipush 16, 2) := by decide +kernel
theorem dX0_init_39 : decode cX0_init 39 = .ok (.newarray .int, 2) := by decide +kernel
theorem dX0_init_41 : decode cX0_init 41 = .ok (.putfield 25, 3) := by decide +kernel
theorem dX0_init_44 : decode cX0_init 44 = .ok (.return_, 1) := by decide +kernel
set_option maxRecDepth 20000 in
theorem ggX0_write_X0_writePerson : GoodIn wsX0_write wsX0_writePerson := goodIn_r _ [8, 9, 10, 11, 12, 13, 14, 15, 16, 17, 18, 19, 20, 21, 22, 23, 24, 25, 26, 27, 28, 29, 30, 31, 32, 33, 34, 35, 36, 37, 38, 39, 40, 41] (by decide +kernel) (by decide +kernel)
set_option maxRecDepth 20000 in
theorem gX0_write_X0_writePerson : GoodIn wsX0_write (wsV RX0 45 RX0 yX0_writePerson wsX0_writePerson) := goodIn_app (goodIn_of _ (by decide +kernel)) ggX0_write_X0_writePerson
theorem dX0_write_0 : decode cX0_write 0 = .ok (.aload_n 0, 1) := by decide +kernel
theorem dX0_write_1 : decode cX0_write 1 = .ok (.getfield 29, 3) := by decide +kernel
theorem dX0_write_4 : decode cX0_write 4 = .ok (.iload_n 2, 1) := by decide +kernel
theorem dX0_write_5 : decode cX0_write 5 = .ok (.iadd, 1) := by decide +kernel
theorem dX0_write_6 : decode cX0_write 6 = .ok (.istore 4, 2) := by decide +kernel
theorem dX0_write_8 : decode cX0_write 8 = .ok (.aload_n 0, 1) := by decide +kernel
theorem dX0_write_9 : decode cX0_write 9 = .ok (.getfield 33, 3) := by decide +kernel
theorem dX0_write_12 : decode cX0_write 12 = .ok (.iload_n 3, 1) := by decide +kernel
theorem dX0_write_13 : decode cX0_write 13 = .ok (.iadd, 1) := by decide +kernel
theorem dX0_write_14 : decode cX0_write 14 = .ok (.istore 5, 2) := by decide +kernel
theorem dX0_write_16 : decode cX0_write 16 = .ok (.iload 4, 2) := by decide +kernel
theorem dX0_write_18 : decode cX0_write 18 = .ok (.ifCond .lt 10, 3) := by decide +kernel
theorem dX0_write_21 : decode cX0_write 21 = .ok (.iload 4, 2) := by decide +kernel
theorem dX0_write_23 : decode cX0_write 23 = .ok (.bipush 60, 2) := by decide +kernel
theorem dX0_write_25 : decode cX0_write 25 = .ok (.if_icmp .lt 4, 3) := by decide +kernel
theorem dX0_write_28 : decode cX0_write 28 = .ok (.return_, 1) := by decide +kernel
theorem dX0_write_29 : decode cX0_write 29 = .ok (.iload 5, 2) := by decide +kernel
theorem dX0_write_31 : decode cX0_write 31 = .ok (.ifCond .lt 16, 3) := by decide +kernel
theorem dX0_write_34 : decode cX0_write 34 = .ok (.iload 5, 2) := by decide +kernel
theorem dX0_write_36 : decode cX0_write 36 = .ok (.aload_n 1, 1) := by decide +kernel
theorem dX0_write_37 : decode cX0_write 37 = .ok (.getfield 36, 3) := by decide +kernel
theorem dX0_write_40 : decode cX0_write 40 = .ok (.iadd, 1) := by decide +kernel
theorem dX0_write_41 : decode cX0_write 41 = .ok (.sipush 300, 3) := by decide +kernel
theorem dX0_write_44 : decode cX0_write 44 = .ok (.if_icmp .le 4, 3) := by decide +kernel
theorem dX0_write_47 : decode cX0_write 47 = .ok (.return_, 1) := by decide +kernel
theorem dX0_write_48 : decode cX0_write 48 = .ok (.aload_n 0, 1) := by decide +kernel
theorem dX0_write_49 : decode cX0_write 49 = .ok (.getfield 13, 3) := by decide +kernel
theorem dX0_write_52 : decode cX0_write 52 = .ok (.iconst 0, 1) := by decide +kernel
theorem dX0_write_53 : decode cX0_write 53 = .ok (.aaload, 1) := by decide +kernel
theorem dX0_write_54 : decode cX0_write 54 = .ok (.iload 4, 2) := by decide +kernel
theorem dX0_write_56 : decode cX0_write 56 = .ok (.aload_n 1, 1) := by decide +kernel
theorem dX0_write_57 : decode cX0_write 57 = .ok (.getfield 39, 3) := by decide +kernel
theorem dX0_write_60 : decode cX0_write 60 = .ok (.iastore, 1) := by decide +kernel
theorem dX0_write_61 : decode cX0_write 61 = .ok (.aload_n 0, 1) := by decide +kernel
theorem dX0_write_62 : decode cX0_write 62 = .ok (.getfield 13, 3) := by decide +kernel
theorem dX0_write_65 : decode cX0_write 65 = .ok (.iconst 1, 1) := by decide +kernel
theorem dX0_write_66 : decode cX0_write 66 = .ok (.aaload, 1) := by decide +kernel
theorem dX0_write_67 : decode cX0_write 67 = .ok (.iload 4, 2) := by decide +kernel
theorem dX0_write_69 : decode cX0_write 69 = .ok (.aload_n 1, 1) := by decide +kernel
theorem dX0_write_70 : decode cX0_write 70 = .ok (.getfield 42, 3) := by decide +kernel
theorem dX0_write_73 : decode cX0_write 73 = .ok (.iastore, 1) := by decide +kernel
theorem dX0_write_74 : decode cX0_write 74 = .ok (.aload_n 0, 1) := by decide +kernel
theorem dX0_write_75 : decode cX0_write 75 = .ok (.getfield 13, 3) := by decide +kernel
theorem dX0_write_78 : decode cX0_write 78 = .ok (.iconst 2, 1) := by decide +kernel
theorem dX0_write_79 : decode cX0_write 79 = .ok (.aaload, 1) := by decide +kernel
theorem dX0_write_80 : decode cX0_write 80 = .ok (.iload 4, 2) := by decide +kernel
theorem dX0_write_82 : decode cX0_write 82 = .ok (.aload_n 1, 1) := by decide +kernel
theorem dX0_write_83 : decode cX0_write 83 = .ok (.getfield 36, 3) := by decide +kernel
theorem dX0_write_86 : decode cX0_write 86 = .ok (.iastore, 1) := by decide +kernel
theorem dX0_write_87 : decode cX0_write 87 = .ok (.aload_n 0, 1) := by decide +kernel
theorem dX0_write_88 : decode cX0_write 88 = .ok (.getfield 13, 3) := by decide +kernel
theorem dX0_write_91 : decode cX0_write 91 = .ok (.iconst 3, 1) := by decide +kernel
theorem dX0_write_92 : decode cX0_write 92 = .ok (.aaload, 1) := by decide +kernel
theorem dX0_write_93 : decode cX0_write 93 = .ok (.iload 4, 2) := by decide +kernel
theorem dX0_write_95 : decode cX0_write 95 = .ok (.iload 5, 2) := by decide +kernel
theorem dX0_write_97 : decode cX0_write 97 = .ok (.iastore, 1) := by decide +kernel
theorem dX0_write_98 : decode cX0_write 98 = .ok (.iconst 0, 1) := by decide +kernel
theorem dX0_write_99 : decode cX0_write 99 = .ok (.istore 6, 2) := by decide +kernel
theorem dX0_write_101 : decode cX0_write 101 = .ok (.iload 6, 2) := by decide +kernel
theorem dX0_write_103 : decode cX0_write 103 = .ok (.aload_n 1, 1) := by decide +kernel
theorem dX0_write_104 : decode cX0_write 104 = .ok (.getfield 36, 3) := by decide +kernel
theorem dX0_write_107 : decode cX0_write 107 = .ok (.if_icmp .ge 31, 3) := by decide +kernel
theorem dX0_write_110 : decode cX0_write 110 = .ok (.iload 6, 2) := by decide +kernel
theorem dX0_write_112 : decode cX0_write 112 = .ok (.sipush 2000, 3) := by decide +kernel
theorem dX0_write_115 : decode cX0_write 115 = .ok (.if_icmp .ge 23, 3) := by decide +kernel
theorem dX0_write_118 : decode cX0_write 118 = .ok (.aload_n 0, 1) := by decide +kernel
theorem dX0_write_119 : decode cX0_write 119 = .ok (.aload_n 1, 1) := by decide +kernel
theorem dX0_write_120 : decode cX0_write 120 = .ok (.iload 6, 2) := by decide +kernel
theorem dX0_write_122 : decode cX0_write 122 = .ok (.iload 5, 2) := by decide +kernel
theorem dX0_write_124 : decode cX0_write 124 = .ok (.iload 6, 2) := by decide +kernel
theorem dX0_write_126 : decode cX0_write 126 = .ok (.iadd, 1) := by decide +kernel
theorem dX0_write_127 : decode cX0_write 127 = .ok (.iload 4, 2) := by decide +kernel
theorem dX0_write_129 : decode cX0_write 129 = .ok (.invokevirtual 45, 3) := by decide +kernel
theorem dX0_write_132 : decode cX0_write 132 = .ok (.iinc 6 1, 3) := by decide +kernel
theorem dX0_write_135 : decode cX0_write 135 = .ok (.goto (-34), 3) := by decide +kernel
theorem dX0_write_138 : decode cX0_write 138 = .ok (.return_, 1) := by decide +kernel
set_option maxRecDepth 20000 in
theorem ggX0_writePerson_X2_signOf : GoodIn wsX0_writePerson wsX2_signOf := goodIn_r _ [7, 8, 9, 10, 21, 22, 23, 24, 25, 26, 27, 28, 29, 30, 31, 32, 33] (by decide +kernel) (by decide +kernel)
set_option maxRecDepth 20000 in
theorem gX0_writePerson_X2_signOf : GoodIn wsX0_writePerson (wsV RX0 61 RX2 yX2_signOf wsX2_signOf) := goodIn_app (goodIn_of _ (by decide +kernel)) ggX0_writePerson_X2_signOf
theorem dX0_writePerson_0 : decode cX0_writePerson 0 = .ok (.iload_n 3, 1) := by decide +kernel
theorem dX0_writePerson_1 : decode cX0_writePerson 1 = .ok (.ifCond .lt 10, 3) := by decide +kernel
theorem dX0_writePerson_4 : decode cX0_writePerson 4 = .ok (.iload_n 3, 1) := by decide +kernel
theorem dX0_writePerson_5 : decode cX0_writePerson 5 = .ok (.sipush 300, 3) := by decide +kernel
theorem dX0_writePerson_8 : decode cX0_writePerson 8 = .ok (.if_icmp .lt 4, 3) := by decide +kernel
theorem dX0_writePerson_11 : decode cX0_writePerson 11 = .ok (.return_, 1) := by decide +kernel
theorem dX0_writePerson_12 : decode cX0_writePerson 12 = .ok (.aload_n 0, 1) := by decide +kernel
theorem dX0_writePerson_13 : decode cX0_writePerson 13 = .ok (.getfield 16, 3) := by decide +kernel
theorem dX0_writePerson_16 : decode cX0_writePerson 16 = .ok (.iconst 0, 1) := by decide +kernel
theorem dX0_writePerson_17 : decode cX0_writePerson 17 = .ok (.aaload, 1) := by decide +kernel
theorem dX0_writePerson_18 : decode cX0_writePerson 18 = .ok (.iload_n 3, 1) := by decide +kernel
theorem dX0_writePerson_19 : decode cX0_writePerson 19 = .ok (.aload_n 1, 1) := by decide +kernel
theorem dX0_writePerson_20 : decode cX0_writePerson 20 = .ok (.getfield 49, 3) := by decide +kernel
theorem dX0_writePerson_23 : decode cX0_writePerson 23 = .ok (.iload_n 2, 1) := by decide +kernel
theorem dX0_writePerson_24 : decode cX0_writePerson 24 = .ok (.iaload, 1) := by decide +kernel
theorem dX0_writePerson_25 : decode cX0_writePerson 25 = .ok (.iastore, 1) := by decide +kernel
theorem dX0_writePerson_26 : decode cX0_writePerson 26 = .ok (.aload_n 0, 1) := by decide +kernel
theorem dX0_writePerson_27 : decode cX0_writePerson 27 = .ok (.getfield 16, 3) := by decide +kernel
theorem dX0_writePerson_30 : decode cX0_writePerson 30 = .ok (.iconst 1, 1) := by decide +kernel
theorem dX0_writePerson_31 : decode cX0_writePerson 31 = .ok (.aaload, 1) := by decide +kernel
theorem dX0_writePerson_32 : decode cX0_writePerson 32 = .ok (.iload_n 3, 1) := by decide +kernel
theorem dX0_writePerson_33 : decode cX0_writePerson 33 = .ok (.aload_n 1, 1) := by decide +kernel
theorem dX0_writePerson_34 : decode cX0_writePerson 34 = .ok (.getfield 52, 3) := by decide +kernel
theorem dX0_writePerson_37 : decode cX0_writePerson 37 = .ok (.iload_n 2, 1) := by decide +kernel
theorem dX0_writePerson_38 : decode cX0_writePerson 38 = .ok (.iaload, 1) := by decide +kernel
theorem dX0_writePerson_39 : decode cX0_writePerson 39 = .ok (.iastore, 1) := by decide +kernel
theorem dX0_writePerson_40 : decode cX0_writePerson 40 = .ok (.aload_n 0, 1) := by decide +kernel
theorem dX0_writePerson_41 : decode cX0_writePerson 41 = .ok (.getfield 16, 3) := by decide +kernel
theorem dX0_writePerson_44 : decode cX0_writePerson 44 = .ok (.iconst 2, 1) := by decide +kernel
theorem dX0_writePerson_45 : decode cX0_writePerson 45 = .ok (.aaload, 1) := by decide +kernel
theorem dX0_writePerson_46 : decode cX0_writePerson 46 = .ok (.iload_n 3, 1) := by decide +kernel
theorem dX0_writePerson_47 : decode cX0_writePerson 47 = .ok (.aload_n 1, 1) := by decide +kernel
theorem dX0_writePerson_48 : decode cX0_writePerson 48 = .ok (.getfield 55, 3) := by decide +kernel
theorem dX0_writePerson_51 : decode cX0_writePerson 51 = .ok (.iload_n 2, 1) := by decide +kernel
theorem dX0_writePerson_52 : decode cX0_writePerson 52 = .ok (.iaload, 1) := by decide +kernel
theorem dX0_writePerson_53 : decode cX0_writePerson 53 = .ok (.iastore, 1) := by decide +kernel
theorem dX0_writePerson_54 : decode cX0_writePerson 54 = .ok (.aload_n 0, 1) := by decide +kernel
theorem dX0_writePerson_55 : decode cX0_writePerson 55 = .ok (.getfield 16, 3) := by decide +kernel
theorem dX0_writePerson_58 : decode cX0_writePerson 58 = .ok (.iconst 3, 1) := by decide +kernel
theorem dX0_writePerson_59 : decode cX0_writePerson 59 = .ok (.aaload, 1) := by decide +kernel
theorem dX0_writePerson_60 : decode cX0_writePerson 60 = .ok (.iload_n 3, 1) := by decide +kernel
theorem dX0_writePerson_61 : decode cX0_writePerson 61 = .ok (.aload_n 1, 1) := by decide +kernel
theorem dX0_writePerson_62 : decode cX0_writePerson 62 = .ok (.getfield 58, 3) := by decide +kernel
theorem dX0_writePerson_65 : decode cX0_writePerson 65 = .ok (.iload_n 2, 1) := by decide +kernel
theorem dX0_writePerson_66 : decode cX0_writePerson 66 = .ok (.iaload, 1) := by decide +kernel
theorem dX0_writePerson_67 : decode cX0_writePerson 67 = .ok (.iastore, 1) := by decide +kernel
theorem dX0_writePerson_68 : decode cX0_writePerson 68 = .ok (.aload_n 0, 1) := by decide +kernel
theorem dX0_writePerson_69 : decode cX0_writePerson 69 = .ok (.getfield 16, 3) := by decide +kernel
theorem dX0_writePerson_72 : decode cX0_writePerson 72 = .ok (.iconst 4, 1) := by decide +kernel
theorem dX0_writePerson_73 : decode cX0_writePerson 73 = .ok (.aaload, 1) := by decide +kernel
theorem dX0_writePerson_74 : decode cX0_writePerson 74 = .ok (.iload_n 3, 1) := by decide +kernel
theorem dX0_writePerson_75 : decode cX0_writePerson 75 = .ok (.iload 4, 2) := by decide +kernel
theorem dX0_writePerson_77 : decode cX0_writePerson 77 = .ok (.iastore, 1) := by decide +kernel
theorem dX0_writePerson_78 : decode cX0_writePerson 78 = .ok (.iconst 0, 1) := by decide +kernel
theorem dX0_writePerson_79 : decode cX0_writePerson 79 = .ok (.istore 5, 2) := by decide +kernel
theorem dX0_writePerson_81 : decode cX0_writePerson 81 = .ok (.iload 5, 2) := by decide +kernel
theorem dX0_writePerson_83 : decode cX0_writePerson 83 = .ok (.aload_n 1, 1) := by decide +kernel
theorem dX0_writePerson_84 : decode cX0_writePerson 84 = .ok (.getfield 58, 3) := by decide +kernel
theorem dX0_writePerson_87 : decode cX0_writePerson 87 = .ok (.iload_n 2, 1) := by decide +kernel
theorem dX0_writePerson_88 : decode cX0_writePerson 88 = .ok (.iaload, 1) := by decide +kernel
theorem dX0_writePerson_89 : decode cX0_writePerson 89 = .ok (.if_icmp .ge 36, 3) := by decide +kernel
theorem dX0_writePerson_92 : decode cX0_writePerson 92 = .ok (.iload 5, 2) := by decide +kernel
theorem dX0_writePerson_94 : decode cX0_writePerson 94 = .ok (.bipush 30, 2) := by decide +kernel
theorem dX0_writePerson_96 : decode cX0_writePerson 96 = .ok (.if_icmp .ge 29, 3) := by decide +kernel
theorem dX0_writePerson_99 : decode cX0_writePerson 99 = .ok (.aload_n 0, 1) := by decide +kernel
theorem dX0_writePerson_100 : decode cX0_writePerson 100 = .ok (.getfield 21, 3) := by decide +kernel
theorem dX0_writePerson_103 : decode cX0_writePerson 103 = .ok (.iload_n 3, 1) := by decide +kernel
theorem dX0_writePerson_104 : decode cX0_writePerson 104 = .ok (.bipush 30, 2) := by decide +kernel
theorem dX0_writePerson_106 : decode cX0_writePerson 106 = .ok (.imul, 1) := by decide +kernel
theorem dX0_writePerson_107 : decode cX0_writePerson 107 = .ok (.iload 5, 2) := by decide +kernel
theorem dX0_writePerson_109 : decode cX0_writePerson 109 = .ok (.iadd, 1) := by decide +kernel
theorem dX0_writePerson_110 : decode cX0_writePerson 110 = .ok (.aload_n 1, 1) := by decide +kernel
theorem dX0_writePerson_111 : decode cX0_writePerson 111 = .ok (.iload_n 2, 1) := by decide +kernel
theorem dX0_writePerson_112 : decode cX0_writePerson 112 = .ok (.iload 5, 2) := by decide +kernel
theorem dX0_writePerson_114 : decode cX0_writePerson 114 = .ok (.invokevirtual 61, 3) := by decide +kernel
theorem dX0_writePerson_117 : decode cX0_writePerson 117 = .ok (.i2b, 1) := by decide +kernel
theorem dX0_writePerson_118 : decode cX0_writePerson 118 = .ok (.bastore, 1) := by decide +kernel
theorem dX0_writePerson_119 : decode cX0_writePerson 119 = .ok (.iinc 5 1, 3) := by decide +kernel
theorem dX0_writePerson_122 : decode cX0_writePerson 122 = .ok (.goto (-41), 3) := by decide +kernel
theorem dX0_writePerson_125 : decode cX0_writePerson 125 = .ok (.return_, 1) := by decide +kernel
set_option maxRecDepth 20000 in
theorem ggX0_enter_X0_countIn : GoodIn wsX0_enter wsX0_countIn := goodIn_r _ [9, 10, 11, 12, 13, 14, 15, 16, 17, 18, 19, 20, 21, 22, 23] (by decide +kernel) (by decide +kernel)
set_option maxRecDepth 20000 in
theorem gX0_enter_X0_countIn : GoodIn wsX0_enter (wsV RX0 65 RX0 yX0_countIn wsX0_countIn) := goodIn_app (goodIn_of _ (by decide +kernel)) ggX0_enter_X0_countIn
theorem dX0_enter_0 : decode cX0_enter 0 = .ok (.iload_n 1, 1) := by decide +kernel
theorem dX0_enter_1 : decode cX0_enter 1 = .ok (.bipush 60, 2) := by decide +kernel
theorem dX0_enter_3 : decode cX0_enter 3 = .ok (.aload_n 0, 1) := by decide +kernel
theorem dX0_enter_4 : decode cX0_enter 4 = .ok (.getfield 29, 3) := by decide +kernel
theorem dX0_enter_7 : decode cX0_enter 7 = .ok (.isub, 1) := by decide +kernel
theorem dX0_enter_8 : decode cX0_enter 8 = .ok (.if_icmp .le 5, 3) := by decide +kernel
theorem dX0_enter_11 : decode cX0_enter 11 = .ok (.iconst 0, 1) := by decide +kernel
theorem dX0_enter_12 : decode cX0_enter 12 = .ok (.ireturn, 1) := by decide +kernel
theorem dX0_enter_13 : decode cX0_enter 13 = .ok (.iload_n 2, 1) := by decide +kernel
theorem dX0_enter_14 : decode cX0_enter 14 = .ok (.sipush 300, 3) := by decide +kernel
theorem dX0_enter_17 : decode cX0_enter 17 = .ok (.aload_n 0, 1) := by decide +kernel
theorem dX0_enter_18 : decode cX0_enter 18 = .ok (.getfield 33, 3) := by decide +kernel
theorem dX0_enter_21 : decode cX0_enter 21 = .ok (.isub, 1) := by decide +kernel
theorem dX0_enter_22 : decode cX0_enter 22 = .ok (.if_icmp .le 5, 3) := by decide +kernel
theorem dX0_enter_25 : decode cX0_enter 25 = .ok (.iconst 0, 1) := by decide +kernel
theorem dX0_enter_26 : decode cX0_enter 26 = .ok (.ireturn, 1) := by decide +kernel
theorem dX0_enter_27 : decode cX0_enter 27 = .ok (.iconst 0, 1) := by decide +kernel
theorem dX0_enter_28 : decode cX0_enter 28 = .ok (.istore 4, 2) := by decide +kernel
theorem dX0_enter_30 : decode cX0_enter 30 = .ok (.iload 4, 2) := by decide +kernel
theorem dX0_enter_32 : decode cX0_enter 32 = .ok (.iload_n 1, 1) := by decide +kernel
theorem dX0_enter_33 : decode cX0_enter 33 = .ok (.if_icmp .ge 40, 3) := by decide +kernel
theorem dX0_enter_36 : decode cX0_enter 36 = .ok (.aload_n 0, 1) := by decide +kernel
theorem dX0_enter_37 : decode cX0_enter 37 = .ok (.getfield 29, 3) := by decide +kernel
theorem dX0_enter_40 : decode cX0_enter 40 = .ok (.bipush 60, 2) := by decide +kernel
theorem dX0_enter_42 : decode cX0_enter 42 = .ok (.if_icmp .ge 31, 3) := by decide +kernel
theorem dX0_enter_45 : decode cX0_enter 45 = .ok (.aload_n 0, 1) := by decide +kernel
theorem dX0_enter_46 : decode cX0_enter 46 = .ok (.getfield 13, 3) := by decide +kernel
theorem dX0_enter_49 : decode cX0_enter 49 = .ok (.iconst 4, 1) := by decide +kernel
theorem dX0_enter_50 : decode cX0_enter 50 = .ok (.aaload, 1) := by decide +kernel
theorem dX0_enter_51 : decode cX0_enter 51 = .ok (.aload_n 0, 1) := by decide +kernel
theorem dX0_enter_52 : decode cX0_enter 52 = .ok (.getfield 29, 3) := by decide +kernel
theorem dX0_enter_55 : decode cX0_enter 55 = .ok (.iload_n 3, 1) := by decide +kernel
theorem dX0_enter_56 : decode cX0_enter 56 = .ok (.iastore, 1) := by decide +kernel
theorem dX0_enter_57 : decode cX0_enter 57 = .ok (.aload_n 0, 1) := by decide +kernel
theorem dX0_enter_58 : decode cX0_enter 58 = .ok (.dup, 1) := by decide +kernel
theorem dX0_enter_59 : decode cX0_enter 59 = .ok (.getfield 29, 3) := by decide +kernel
theorem dX0_enter_62 : decode cX0_enter 62 = .ok (.iconst 1, 1) := by decide +kernel
theorem dX0_enter_63 : decode cX0_enter 63 = .ok (.iadd, 1) := by decide +kernel
theorem dX0_enter_64 : decode cX0_enter 64 = .ok (.putfield 29, 3) := by decide +kernel
theorem dX0_enter_67 : decode cX0_enter 67 = .ok (.iinc 4 1, 3) := by decide +kernel
theorem dX0_enter_70 : decode cX0_enter 70 = .ok (.goto (-40), 3) := by decide +kernel
theorem dX0_enter_73 : decode cX0_enter 73 = .ok (.iconst 0, 1) := by decide +kernel
theorem dX0_enter_74 : decode cX0_enter 74 = .ok (.istore 4, 2) := by decide +kernel
theorem dX0_enter_76 : decode cX0_enter 76 = .ok (.iload 4, 2) := by decide +kernel
theorem dX0_enter_78 : decode cX0_enter 78 = .ok (.iload_n 2, 1) := by decide +kernel
theorem dX0_enter_79 : decode cX0_enter 79 = .ok (.if_icmp .ge 55, 3) := by decide +kernel
theorem dX0_enter_82 : decode cX0_enter 82 = .ok (.aload_n 0, 1) := by decide +kernel
theorem dX0_enter_83 : decode cX0_enter 83 = .ok (.getfield 33, 3) := by decide +kernel
theorem dX0_enter_86 : decode cX0_enter 86 = .ok (.sipush 300, 3) := by decide +kernel
theorem dX0_enter_89 : decode cX0_enter 89 = .ok (.if_icmp .ge 45, 3) := by decide +kernel
theorem dX0_enter_92 : decode cX0_enter 92 = .ok (.aload_n 0, 1) := by decide +kernel
theorem dX0_enter_93 : decode cX0_enter 93 = .ok (.aload_n 0, 1) := by decide +kernel
theorem dX0_enter_94 : decode cX0_enter 94 = .ok (.getfield 16, 3) := by decide +kernel
theorem dX0_enter_97 : decode cX0_enter 97 = .ok (.iconst 0, 1) := by decide +kernel
theorem dX0_enter_98 : decode cX0_enter 98 = .ok (.aaload, 1) := by decide +kernel
theorem dX0_enter_99 : decode cX0_enter 99 = .ok (.aload_n 0, 1) := by decide +kernel
theorem dX0_enter_100 : decode cX0_enter 100 = .ok (.getfield 33, 3) := by decide +kernel
theorem dX0_enter_103 : decode cX0_enter 103 = .ok (.iaload, 1) := by decide +kernel
theorem dX0_enter_104 : decode cX0_enter 104 = .ok (.aload_n 0, 1) := by decide +kernel
theorem dX0_enter_105 : decode cX0_enter 105 = .ok (.getfield 16, 3) := by decide +kernel
theorem dX0_enter_108 : decode cX0_enter 108 = .ok (.iconst 1, 1) := by decide +kernel
theorem dX0_enter_109 : decode cX0_enter 109 = .ok (.aaload, 1) := by decide +kernel
theorem dX0_enter_110 : decode cX0_enter 110 = .ok (.aload_n 0, 1) := by decide +kernel
theorem dX0_enter_111 : decode cX0_enter 111 = .ok (.getfield 33, 3) := by decide +kernel
theorem dX0_enter_114 : decode cX0_enter 114 = .ok (.iaload, 1) := by decide +kernel
theorem dX0_enter_115 : decode cX0_enter 115 = .ok (.invokevirtual 65, 3) := by decide +kernel
theorem dX0_enter_118 : decode cX0_enter 118 = .ok (.aload_n 0, 1) := by decide +kernel
theorem dX0_enter_119 : decode cX0_enter 119 = .ok (.dup, 1) := by decide +kernel
theorem dX0_enter_120 : decode cX0_enter 120 = .ok (.getfield 33, 3) := by decide +kernel
theorem dX0_enter_123 : decode cX0_enter 123 = .ok (.iconst 1, 1) := by decide +kernel
theorem dX0_enter_124 : decode cX0_enter 124 = .ok (.iadd, 1) := by decide +kernel
theorem dX0_enter_125 : decode cX0_enter 125 = .ok (.putfield 33, 3) := by decide +kernel
theorem dX0_enter_128 : decode cX0_enter 128 = .ok (.iinc 4 1, 3) := by decide +kernel
theorem dX0_enter_131 : decode cX0_enter 131 = .ok (.goto (-55), 3) := by decide +kernel
theorem dX0_enter_134 : decode cX0_enter 134 = .ok (.iconst 1, 1) := by decide +kernel
theorem dX0_enter_135 : decode cX0_enter 135 = .ok (.ireturn, 1) := by decide +kernel
theorem dX0_countIn_0 : decode cX0_countIn 0 = .ok (.iload_n 1, 1) := by decide +kernel
theorem dX0_countIn_1 : decode cX0_countIn 1 = .ok (.ifCond .ne 13, 3) := by decide +kernel
theorem dX0_countIn_4 : decode cX0_countIn 4 = .ok (.aload_n 0, 1) := by decide +kernel
theorem dX0_countIn_5 : decode cX0_countIn 5 = .ok (.dup, 1) := by decide +kernel
theorem dX0_countIn_6 : decode cX0_countIn 6 = .ok (.getfield 69, 3) := by decide +kernel
theorem dX0_countIn_9 : decode cX0_countIn 9 = .ok (.iconst 1, 1) := by decide +kernel
theorem dX0_countIn_10 : decode cX0_countIn 10 = .ok (.iadd, 1) := by decide +kernel
theorem dX0_countIn_11 : decode cX0_countIn 11 = .ok (.putfield 69, 3) := by decide +kernel
theorem dX0_countIn_14 : decode cX0_countIn 14 = .ok (.iload_n 1, 1) := by decide +kernel
theorem dX0_countIn_15 : decode cX0_countIn 15 = .ok (.iconst 1, 1) := by decide +kernel
theorem dX0_countIn_16 : decode cX0_countIn 16 = .ok (.if_icmp .ne 13, 3) := by decide +kernel
theorem dX0_countIn_19 : decode cX0_countIn 19 = .ok (.aload_n 0, 1) := by decide +kernel
theorem dX0_countIn_20 : decode cX0_countIn 20 = .ok (.dup, 1) := by decide +kernel
theorem dX0_countIn_21 : decode cX0_countIn 21 = .ok (.getfield 72, 3) := by decide +kernel
theorem dX0_countIn_24 : decode cX0_countIn 24 = .ok (.iconst 1, 1) := by decide +kernel
theorem dX0_countIn_25 : decode cX0_countIn 25 = .ok (.iadd, 1) := by decide +kernel
theorem dX0_countIn_26 : decode cX0_countIn 26 = .ok (.putfield 72, 3) := by decide +kernel
theorem dX0_countIn_29 : decode cX0_countIn 29 = .ok (.iload_n 2, 1) := by decide +kernel
theorem dX0_countIn_30 : decode cX0_countIn 30 = .ok (.iconst (-1), 1) := by decide +kernel
theorem dX0_countIn_31 : decode cX0_countIn 31 = .ok (.if_icmp .ne 16, 3) := by decide +kernel
theorem dX0_countIn_34 : decode cX0_countIn 34 = .ok (.aload_n 0, 1) := by decide +kernel
theorem dX0_countIn_35 : decode cX0_countIn 35 = .ok (.dup, 1) := by decide +kernel
theorem dX0_countIn_36 : decode cX0_countIn 36 = .ok (.getfield 75, 3) := by decide +kernel
theorem dX0_countIn_39 : decode cX0_countIn 39 = .ok (.iconst 1, 1) := by decide +kernel
theorem dX0_countIn_40 : decode cX0_countIn 40 = .ok (.iadd, 1) := by decide +kernel
theorem dX0_countIn_41 : decode cX0_countIn 41 = .ok (.putfield 75, 3) := by decide +kernel
theorem dX0_countIn_44 : decode cX0_countIn 44 = .ok (.goto 13, 3) := by decide +kernel
theorem dX0_countIn_47 : decode cX0_countIn 47 = .ok (.aload_n 0, 1) := by decide +kernel
theorem dX0_countIn_48 : decode cX0_countIn 48 = .ok (.dup, 1) := by decide +kernel
theorem dX0_countIn_49 : decode cX0_countIn 49 = .ok (.getfield 78, 3) := by decide +kernel
theorem dX0_countIn_52 : decode cX0_countIn 52 = .ok (.iload_n 2, 1) := by decide +kernel
theorem dX0_countIn_53 : decode cX0_countIn 53 = .ok (.iadd, 1) := by decide +kernel
theorem dX0_countIn_54 : decode cX0_countIn 54 = .ok (.putfield 78, 3) := by decide +kernel
theorem dX0_countIn_57 : decode cX0_countIn 57 = .ok (.return_, 1) := by decide +kernel
theorem dX0_tellHousehold_0 : decode cX0_tellHousehold 0 = .ok (.iload_n 1, 1) := by decide +kernel
theorem dX0_tellHousehold_1 : decode cX0_tellHousehold 1 = .ok (.ifCond .lt 17, 3) := by decide +kernel
theorem dX0_tellHousehold_4 : decode cX0_tellHousehold 4 = .ok (.iload_n 1, 1) := by decide +kernel
theorem dX0_tellHousehold_5 : decode cX0_tellHousehold 5 = .ok (.aload_n 0, 1) := by decide +kernel
theorem dX0_tellHousehold_6 : decode cX0_tellHousehold 6 = .ok (.getfield 29, 3) := by decide +kernel
theorem dX0_tellHousehold_9 : decode cX0_tellHousehold 9 = .ok (.if_icmp .ge 9, 3) := by decide +kernel
theorem dX0_tellHousehold_12 : decode cX0_tellHousehold 12 = .ok (.iload_n 1, 1) := by decide +kernel
theorem dX0_tellHousehold_13 : decode cX0_tellHousehold 13 = .ok (.bipush 60, 2) := by decide +kernel
theorem dX0_tellHousehold_15 : decode cX0_tellHousehold 15 = .ok (.if_icmp .lt 5, 3) := by decide +kernel
theorem dX0_tellHousehold_18 : decode cX0_tellHousehold 18 = .ok (.iconst (-1), 1) := by decide +kernel
theorem dX0_tellHousehold_19 : decode cX0_tellHousehold 19 = .ok (.ireturn, 1) := by decide +kernel
theorem dX0_tellHousehold_20 : decode cX0_tellHousehold 20 = .ok (.iload_n 2, 1) := by decide +kernel
theorem dX0_tellHousehold_21 : decode cX0_tellHousehold 21 = .ok (.ifCond .lt 19, 3) := by decide +kernel
theorem dX0_tellHousehold_24 : decode cX0_tellHousehold 24 = .ok (.iload_n 2, 1) := by decide +kernel
theorem dX0_tellHousehold_25 : decode cX0_tellHousehold 25 = .ok (.iconst 5, 1) := by decide +kernel
theorem dX0_tellHousehold_26 : decode cX0_tellHousehold 26 = .ok (.if_icmp .ge 14, 3) := by decide +kernel
theorem dX0_tellHousehold_29 : decode cX0_tellHousehold 29 = .ok (.aload_n 0, 1) := by decide +kernel
theorem dX0_tellHousehold_30 : decode cX0_tellHousehold 30 = .ok (.getfield 13, 3) := by decide +kernel
theorem dX0_tellHousehold_33 : decode cX0_tellHousehold 33 = .ok (.iload_n 2, 1) := by decide +kernel
theorem dX0_tellHousehold_34 : decode cX0_tellHousehold 34 = .ok (.aaload, 1) := by decide +kernel
theorem dX0_tellHousehold_35 : decode cX0_tellHousehold 35 = .ok (.iload_n 1, 1) := by decide +kernel
theorem dX0_tellHousehold_36 : decode cX0_tellHousehold 36 = .ok (.iaload, 1) := by decide +kernel
theorem dX0_tellHousehold_37 : decode cX0_tellHousehold 37 = .ok (.goto 4, 3) := by decide +kernel
theorem dX0_tellHousehold_40 : decode cX0_tellHousehold 40 = .ok (.iconst (-1), 1) := by decide +kernel
theorem dX0_tellHousehold_41 : decode cX0_tellHousehold 41 = .ok (.ireturn, 1) := by decide +kernel
theorem dX0_tellPerson_0 : decode cX0_tellPerson 0 = .ok (.iload_n 1, 1) := by decide +kernel
theorem dX0_tellPerson_1 : decode cX0_tellPerson 1 = .ok (.ifCond .lt 18, 3) := by decide +kernel
theorem dX0_tellPerson_4 : decode cX0_tellPerson 4 = .ok (.iload_n 1, 1) := by decide +kernel
theorem dX0_tellPerson_5 : decode cX0_tellPerson 5 = .ok (.aload_n 0, 1) := by decide +kernel
theorem dX0_tellPerson_6 : decode cX0_tellPerson 6 = .ok (.getfield 33, 3) := by decide +kernel
theorem dX0_tellPerson_9 : decode cX0_tellPerson 9 = .ok (.if_icmp .ge 10, 3) := by decide +kernel
theorem dX0_tellPerson_12 : decode cX0_tellPerson 12 = .ok (.iload_n 1, 1) := by decide +kernel
theorem dX0_tellPerson_13 : decode cX0_tellPerson 13 = .ok (.sipush 300, 3) := by decide +kernel
theorem dX0_tellPerson_16 : decode cX0_tellPerson 16 = .ok (.if_icmp .lt 5, 3) := by decide +kernel
theorem dX0_tellPerson_19 : decode cX0_tellPerson 19 = .ok (.iconst (-1), 1) := by decide +kernel
theorem dX0_tellPerson_20 : decode cX0_tellPerson 20 = .ok (.ireturn, 1) := by decide +kernel
theorem dX0_tellPerson_21 : decode cX0_tellPerson 21 = .ok (.iload_n 2, 1) := by decide +kernel
theorem dX0_tellPerson_22 : decode cX0_tellPerson 22 = .ok (.ifCond .lt 19, 3) := by decide +kernel
theorem dX0_tellPerson_25 : decode cX0_tellPerson 25 = .ok (.iload_n 2, 1) := by decide +kernel
theorem dX0_tellPerson_26 : decode cX0_tellPerson 26 = .ok (.iconst 5, 1) := by decide +kernel
theorem dX0_tellPerson_27 : decode cX0_tellPerson 27 = .ok (.if_icmp .ge 14, 3) := by decide +kernel
theorem dX0_tellPerson_30 : decode cX0_tellPerson 30 = .ok (.aload_n 0, 1) := by decide +kernel
theorem dX0_tellPerson_31 : decode cX0_tellPerson 31 = .ok (.getfield 16, 3) := by decide +kernel
theorem dX0_tellPerson_34 : decode cX0_tellPerson 34 = .ok (.iload_n 2, 1) := by decide +kernel
theorem dX0_tellPerson_35 : decode cX0_tellPerson 35 = .ok (.aaload, 1) := by decide +kernel
theorem dX0_tellPerson_36 : decode cX0_tellPerson 36 = .ok (.iload_n 1, 1) := by decide +kernel
theorem dX0_tellPerson_37 : decode cX0_tellPerson 37 = .ok (.iaload, 1) := by decide +kernel
theorem dX0_tellPerson_38 : decode cX0_tellPerson 38 = .ok (.goto 4, 3) := by decide +kernel
theorem dX0_tellPerson_41 : decode cX0_tellPerson 41 = .ok (.iconst (-1), 1) := by decide +kernel
theorem dX0_tellPerson_42 : decode cX0_tellPerson 42 = .ok (.ireturn, 1) := by decide +kernel
set_option maxRecDepth 20000 in
theorem ggX0_signOf_X0_tellPerson : GoodIn wsX0_signOf wsX0_tellPerson := goodIn_r _ [6, 7, 8, 9, 10, 11, 12, 13, 14, 15, 16, 17, 18] (by decide +kernel) (by decide +kernel)
set_option maxRecDepth 20000 in
theorem gX0_signOf_X0_tellPerson : GoodIn wsX0_signOf (wsV RX0 81 RX0 yX0_tellPerson wsX0_tellPerson) := goodIn_app (goodIn_of _ (by decide +kernel)) ggX0_signOf_X0_tellPerson
theorem dX0_signOf_0 : decode cX0_signOf 0 = .ok (.iload_n 2, 1) := by decide +kernel
theorem dX0_signOf_1 : decode cX0_signOf 1 = .ok (.ifCond .lt 19, 3) := by decide +kernel
theorem dX0_signOf_4 : decode cX0_signOf 4 = .ok (.iload_n 2, 1) := by decide +kernel
theorem dX0_signOf_5 : decode cX0_signOf 5 = .ok (.bipush 30, 2) := by decide +kernel
theorem dX0_signOf_7 : decode cX0_signOf 7 = .ok (.if_icmp .ge 13, 3) := by decide +kernel
theorem dX0_signOf_10 : decode cX0_signOf 10 = .ok (.iload_n 2, 1) := by decide +kernel
theorem dX0_signOf_11 : decode cX0_signOf 11 = .ok (.aload_n 0, 1) := by decide +kernel
theorem dX0_signOf_12 : decode cX0_signOf 12 = .ok (.iload_n 1, 1) := by decide +kernel
theorem dX0_signOf_13 : decode cX0_signOf 13 = .ok (.iconst 3, 1) := by decide +kernel
theorem dX0_signOf_14 : decode cX0_signOf 14 = .ok (.invokevirtual 81, 3) := by decide +kernel
theorem dX0_signOf_17 : decode cX0_signOf 17 = .ok (.if_icmp .lt 5, 3) := by decide +kernel
theorem dX0_signOf_20 : decode cX0_signOf 20 = .ok (.iconst 0, 1) := by decide +kernel
theorem dX0_signOf_21 : decode cX0_signOf 21 = .ok (.ireturn, 1) := by decide +kernel
theorem dX0_signOf_22 : decode cX0_signOf 22 = .ok (.aload_n 0, 1) := by decide +kernel
theorem dX0_signOf_23 : decode cX0_signOf 23 = .ok (.getfield 21, 3) := by decide +kernel
theorem dX0_signOf_26 : decode cX0_signOf 26 = .ok (.iload_n 1, 1) := by decide +kernel
theorem dX0_signOf_27 : decode cX0_signOf 27 = .ok (.bipush 30, 2) := by decide +kernel
theorem dX0_signOf_29 : decode cX0_signOf 29 = .ok (.imul, 1) := by decide +kernel
theorem dX0_signOf_30 : decode cX0_signOf 30 = .ok (.iload_n 2, 1) := by decide +kernel
theorem dX0_signOf_31 : decode cX0_signOf 31 = .ok (.iadd, 1) := by decide +kernel
theorem dX0_signOf_32 : decode cX0_signOf 32 = .ok (.baload, 1) := by decide +kernel
theorem dX0_signOf_33 : decode cX0_signOf 33 = .ok (.sipush 255, 3) := by decide +kernel
theorem dX0_signOf_36 : decode cX0_signOf 36 = .ok (.iand, 1) := by decide +kernel
theorem dX0_signOf_37 : decode cX0_signOf 37 = .ok (.ireturn, 1) := by decide +kernel
set_option maxRecDepth 20000 in
theorem ggX0_countNamed_X0_seek : GoodIn wsX0_countNamed wsX0_seek := goodIn_r _ [6, 7, 26, 27, 28, 29, 30, 31, 32, 33, 34, 35] (by decide +kernel) (by decide +kernel)
set_option maxRecDepth 20000 in
theorem gX0_countNamed_X0_seek : GoodIn wsX0_countNamed (wsV RX0 84 RX0 yX0_seek wsX0_seek) := goodIn_app (goodIn_of _ (by decide +kernel)) ggX0_countNamed_X0_seek
set_option maxRecDepth 20000 in
theorem ggX0_countNamed_X0_soughtLength : GoodIn wsX0_countNamed wsX0_soughtLength := goodIn_r _ [11, 7, 26, 27, 28, 29, 30, 31, 32, 33, 34, 35] (by decide +kernel) (by decide +kernel)
set_option maxRecDepth 20000 in
theorem gX0_countNamed_X0_soughtLength : GoodIn wsX0_countNamed (wsV RX0 87 RX0 yX0_soughtLength wsX0_soughtLength) := goodIn_app (goodIn_of _ (by decide +kernel)) ggX0_countNamed_X0_soughtLength
set_option maxRecDepth 20000 in
theorem ggX0_countNamed_X0_tellPerson : GoodIn wsX0_countNamed wsX0_tellPerson := goodIn_r _ [15, 1, 16, 26, 27, 28, 29, 30, 31, 32, 33, 34, 35] (by decide +kernel) (by decide +kernel)
set_option maxRecDepth 20000 in
theorem gX0_countNamed_X0_tellPerson : GoodIn wsX0_countNamed (wsV RX0 81 RX0 yX0_tellPerson wsX0_tellPerson) := goodIn_app (goodIn_of _ (by decide +kernel)) ggX0_countNamed_X0_tellPerson
set_option maxRecDepth 20000 in
theorem ggX0_countNamed_X0_beginsAsSought : GoodIn wsX0_countNamed wsX0_beginsAsSought := goodIn_r _ [20, 7, 21, 22, 23, 5, 24, 25, 12, 13, 14, 15, 1, 16, 26, 27, 28, 29, 30, 31, 32, 33, 34, 35] (by decide +kernel) (by decide +kernel)
set_option maxRecDepth 20000 in
theorem gX0_countNamed_X0_beginsAsSought : GoodIn wsX0_countNamed (wsV RX0 91 RX0 yX0_beginsAsSought wsX0_beginsAsSought) := goodIn_app (goodIn_of _ (by decide +kernel)) ggX0_countNamed_X0_beginsAsSought
theorem dX0_countNamed_0 : decode cX0_countNamed 0 = .ok (.aload_n 0, 1) := by decide +kernel
theorem dX0_countNamed_1 : decode cX0_countNamed 1 = .ok (.iconst 0, 1) := by decide +kernel
theorem dX0_countNamed_2 : decode cX0_countNamed 2 = .ok (.iload_n 1, 1) := by decide +kernel
theorem dX0_countNamed_3 : decode cX0_countNamed 3 = .ok (.invokevirtual 84, 3) := by decide +kernel
theorem dX0_countNamed_6 : decode cX0_countNamed 6 = .ok (.aload_n 0, 1) := by decide +kernel
theorem dX0_countNamed_7 : decode cX0_countNamed 7 = .ok (.iconst 4, 1) := by decide +kernel
theorem dX0_countNamed_8 : decode cX0_countNamed 8 = .ok (.iload_n 2, 1) := by decide +kernel
theorem dX0_countNamed_9 : decode cX0_countNamed 9 = .ok (.invokevirtual 84, 3) := by decide +kernel
theorem dX0_countNamed_12 : decode cX0_countNamed 12 = .ok (.aload_n 0, 1) := by decide +kernel
theorem dX0_countNamed_13 : decode cX0_countNamed 13 = .ok (.bipush 8, 2) := by decide +kernel
theorem dX0_countNamed_15 : decode cX0_countNamed 15 = .ok (.iload_n 3, 1) := by decide +kernel
theorem dX0_countNamed_16 : decode cX0_countNamed 16 = .ok (.invokevirtual 84, 3) := by decide +kernel
theorem dX0_countNamed_19 : decode cX0_countNamed 19 = .ok (.aload_n 0, 1) := by decide +kernel
theorem dX0_countNamed_20 : decode cX0_countNamed 20 = .ok (.bipush 12, 2) := by decide +kernel
theorem dX0_countNamed_22 : decode cX0_countNamed 22 = .ok (.iload 4, 2) := by decide +kernel
theorem dX0_countNamed_24 : decode cX0_countNamed 24 = .ok (.invokevirtual 84, 3) := by decide +kernel
theorem dX0_countNamed_27 : decode cX0_countNamed 27 = .ok (.aload_n 0, 1) := by decide +kernel
theorem dX0_countNamed_28 : decode cX0_countNamed 28 = .ok (.invokevirtual 87, 3) := by decide +kernel
theorem dX0_countNamed_31 : decode cX0_countNamed 31 = .ok (.istore 5, 2) := by decide +kernel
theorem dX0_countNamed_33 : decode cX0_countNamed 33 = .ok (.iload 5, 2) := by decide +kernel
theorem dX0_countNamed_35 : decode cX0_countNamed 35 = .ok (.ifCond .ne 5, 3) := by decide +kernel
theorem dX0_countNamed_38 : decode cX0_countNamed 38 = .ok (.iconst 0, 1) := by decide +kernel
theorem dX0_countNamed_39 : decode cX0_countNamed 39 = .ok (.ireturn, 1) := by decide +kernel
theorem dX0_countNamed_40 : decode cX0_countNamed 40 = .ok (.iconst 0, 1) := by decide +kernel
theorem dX0_countNamed_41 : decode cX0_countNamed 41 = .ok (.istore 6, 2) := by decide +kernel
theorem dX0_countNamed_43 : decode cX0_countNamed 43 = .ok (.iconst 0, 1) := by decide +kernel
theorem dX0_countNamed_44 : decode cX0_countNamed 44 = .ok (.istore 7, 2) := by decide +kernel
theorem dX0_countNamed_46 : decode cX0_countNamed 46 = .ok (.iload 7, 2) := by decide +kernel
theorem dX0_countNamed_48 : decode cX0_countNamed 48 = .ok (.aload_n 0, 1) := by decide +kernel
theorem dX0_countNamed_49 : decode cX0_countNamed 49 = .ok (.getfield 33, 3) := by decide +kernel
theorem dX0_countNamed_52 : decode cX0_countNamed 52 = .ok (.if_icmp .ge 35, 3) := by decide +kernel
theorem dX0_countNamed_55 : decode cX0_countNamed 55 = .ok (.aload_n 0, 1) := by decide +kernel
theorem dX0_countNamed_56 : decode cX0_countNamed 56 = .ok (.iload 7, 2) := by decide +kernel
theorem dX0_countNamed_58 : decode cX0_countNamed 58 = .ok (.iconst 3, 1) := by decide +kernel
theorem dX0_countNamed_59 : decode cX0_countNamed 59 = .ok (.invokevirtual 81, 3) := by decide +kernel
theorem dX0_countNamed_62 : decode cX0_countNamed 62 = .ok (.iload 5, 2) := by decide +kernel
theorem dX0_countNamed_64 : decode cX0_countNamed 64 = .ok (.if_icmp .ne 17, 3) := by decide +kernel
theorem dX0_countNamed_67 : decode cX0_countNamed 67 = .ok (.aload_n 0, 1) := by decide +kernel
theorem dX0_countNamed_68 : decode cX0_countNamed 68 = .ok (.iload 7, 2) := by decide +kernel
theorem dX0_countNamed_70 : decode cX0_countNamed 70 = .ok (.iload 5, 2) := by decide +kernel
theorem dX0_countNamed_72 : decode cX0_countNamed 72 = .ok (.invokevirtual 91, 3) := by decide +kernel
theorem dX0_countNamed_75 : decode cX0_countNamed 75 = .ok (.ifCond .eq 6, 3) := by decide +kernel
theorem dX0_countNamed_78 : decode cX0_countNamed 78 = .ok (.iinc 6 1, 3) := by decide +kernel
theorem dX0_countNamed_81 : decode cX0_countNamed 81 = .ok (.iinc 7 1, 3) := by decide +kernel
theorem dX0_countNamed_84 : decode cX0_countNamed 84 = .ok (.goto (-38), 3) := by decide +kernel
theorem dX0_countNamed_87 : decode cX0_countNamed 87 = .ok (.iload 6, 2) := by decide +kernel
theorem dX0_countNamed_89 : decode cX0_countNamed 89 = .ok (.ireturn, 1) := by decide +kernel
theorem dX0_seek_0 : decode cX0_seek 0 = .ok (.iconst 0, 1) := by decide +kernel
theorem dX0_seek_1 : decode cX0_seek 1 = .ok (.istore_n 3, 1) := by decide +kernel
theorem dX0_seek_2 : decode cX0_seek 2 = .ok (.iload_n 3, 1) := by decide +kernel
theorem dX0_seek_3 : decode cX0_seek 3 = .ok (.iconst 4, 1) := by decide +kernel
theorem dX0_seek_4 : decode cX0_seek 4 = .ok (.if_icmp .ge 46, 3) := by decide +kernel
theorem dX0_seek_7 : decode cX0_seek 7 = .ok (.iload_n 1, 1) := by decide +kernel
theorem dX0_seek_8 : decode cX0_seek 8 = .ok (.iload_n 3, 1) := by decide +kernel
theorem dX0_seek_9 : decode cX0_seek 9 = .ok (.iadd, 1) := by decide +kernel
theorem dX0_seek_10 : decode cX0_seek 10 = .ok (.istore 4, 2) := by decide +kernel
theorem dX0_seek_12 : decode cX0_seek 12 = .ok (.iload 4, 2) := by decide +kernel
theorem dX0_seek_14 : decode cX0_seek 14 = .ok (.ifCond .lt 30, 3) := by decide +kernel
theorem dX0_seek_17 : decode cX0_seek 17 = .ok (.iload 4, 2) := by decide +kernel
theorem dX0_seek_19 : decode cX0_seek 19 = .ok (.bipush 16, 2) := by decide +kernel
theorem dX0_seek_21 : decode cX0_seek 21 = .ok (.if_icmp .ge 23, 3) := by decide +kernel
theorem dX0_seek_24 : decode cX0_seek 24 = .ok (.aload_n 0, 1) := by decide +kernel
theorem dX0_seek_25 : decode cX0_seek 25 = .ok (.getfield 25, 3) := by decide +kernel
theorem dX0_seek_28 : decode cX0_seek 28 = .ok (.iload 4, 2) := by decide +kernel
theorem dX0_seek_30 : decode cX0_seek 30 = .ok (.iload_n 2, 1) := by decide +kernel
theorem dX0_seek_31 : decode cX0_seek 31 = .ok (.bipush 24, 2) := by decide +kernel
theorem dX0_seek_33 : decode cX0_seek 33 = .ok (.bipush 8, 2) := by decide +kernel
theorem dX0_seek_35 : decode cX0_seek 35 = .ok (.iload_n 3, 1) := by decide +kernel
theorem dX0_seek_36 : decode cX0_seek 36 = .ok (.imul, 1) := by decide +kernel
theorem dX0_seek_37 : decode cX0_seek 37 = .ok (.isub, 1) := by decide +kernel
theorem dX0_seek_38 : decode cX0_seek 38 = .ok (.iushr, 1) := by decide +kernel
theorem dX0_seek_39 : decode cX0_seek 39 = .ok (.sipush 255, 3) := by decide +kernel
theorem dX0_seek_42 : decode cX0_seek 42 = .ok (.iand, 1) := by decide +kernel
theorem dX0_seek_43 : decode cX0_seek 43 = .ok (.iastore, 1) := by decide +kernel
theorem dX0_seek_44 : decode cX0_seek 44 = .ok (.iinc 3 1, 3) := by decide +kernel
theorem dX0_seek_47 : decode cX0_seek 47 = .ok (.goto (-45), 3) := by decide +kernel
theorem dX0_seek_50 : decode cX0_seek 50 = .ok (.return_, 1) := by decide +kernel
theorem dX0_soughtLength_0 : decode cX0_soughtLength 0 = .ok (.iconst 0, 1) := by decide +kernel
theorem dX0_soughtLength_1 : decode cX0_soughtLength 1 = .ok (.istore_n 1, 1) := by decide +kernel
theorem dX0_soughtLength_2 : decode cX0_soughtLength 2 = .ok (.iload_n 1, 1) := by decide +kernel
theorem dX0_soughtLength_3 : decode cX0_soughtLength 3 = .ok (.bipush 16, 2) := by decide +kernel
theorem dX0_soughtLength_5 : decode cX0_soughtLength 5 = .ok (.if_icmp .ge 20, 3) := by decide +kernel
theorem dX0_soughtLength_8 : decode cX0_soughtLength 8 = .ok (.aload_n 0, 1) := by decide +kernel
theorem dX0_soughtLength_9 : decode cX0_soughtLength 9 = .ok (.getfield 25, 3) := by decide +kernel
theorem dX0_soughtLength_12 : decode cX0_soughtLength 12 = .ok (.iload_n 1, 1) := by decide +kernel
theorem dX0_soughtLength_13 : decode cX0_soughtLength 13 = .ok (.iaload, 1) := by decide +kernel
theorem dX0_soughtLength_14 : decode cX0_soughtLength 14 = .ok (.ifCond .ne 5, 3) := by decide +kernel
theorem dX0_soughtLength_17 : decode cX0_soughtLength 17 = .ok (.iload_n 1, 1) := by decide +kernel
theorem dX0_soughtLength_18 : decode cX0_soughtLength 18 = .ok (.ireturn, 1) := by decide +kernel
theorem dX0_soughtLength_19 : decode cX0_soughtLength 19 = .ok (.iinc 1 1, 3) := by decide +kernel
theorem dX0_soughtLength_22 : decode cX0_soughtLength 22 = .ok (.goto (-20), 3) := by decide +kernel
theorem dX0_soughtLength_25 : decode cX0_soughtLength 25 = .ok (.bipush 16, 2) := by decide +kernel
theorem dX0_soughtLength_27 : decode cX0_soughtLength 27 = .ok (.ireturn, 1) := by decide +kernel
set_option maxRecDepth 20000 in
theorem ggX0_beginsAsSought_X0_signOf : GoodIn wsX0_beginsAsSought wsX0_signOf := goodIn_r _ [6, 7, 8, 9, 10, 5, 11, 12, 13, 14, 15, 16, 17, 18, 19, 20, 21, 22, 23] (by decide +kernel) (by decide +kernel)
set_option maxRecDepth 20000 in
theorem gX0_beginsAsSought_X0_signOf : GoodIn wsX0_beginsAsSought (wsV RX0 95 RX0 yX0_signOf wsX0_signOf) := goodIn_app (goodIn_of _ (by decide +kernel)) ggX0_beginsAsSought_X0_signOf
theorem dX0_beginsAsSought_0 : decode cX0_beginsAsSought 0 = .ok (.iconst 0, 1) := by decide +kernel
theorem dX0_beginsAsSought_1 : decode cX0_beginsAsSought 1 = .ok (.istore_n 3, 1) := by decide +kernel
theorem dX0_beginsAsSought_2 : decode cX0_beginsAsSought 2 = .ok (.iload_n 3, 1) := by decide +kernel
theorem dX0_beginsAsSought_3 : decode cX0_beginsAsSought 3 = .ok (.iload_n 2, 1) := by decide +kernel
theorem dX0_beginsAsSought_4 : decode cX0_beginsAsSought 4 = .ok (.if_icmp .ge 32, 3) := by decide +kernel
theorem dX0_beginsAsSought_7 : decode cX0_beginsAsSought 7 = .ok (.iload_n 3, 1) := by decide +kernel
theorem dX0_beginsAsSought_8 : decode cX0_beginsAsSought 8 = .ok (.bipush 16, 2) := by decide +kernel
theorem dX0_beginsAsSought_10 : decode cX0_beginsAsSought 10 = .ok (.if_icmp .ge 26, 3) := by decide +kernel
theorem dX0_beginsAsSought_13 : decode cX0_beginsAsSought 13 = .ok (.aload_n 0, 1) := by decide +kernel
theorem dX0_beginsAsSought_14 : decode cX0_beginsAsSought 14 = .ok (.iload_n 1, 1) := by decide +kernel
theorem dX0_beginsAsSought_15 : decode cX0_beginsAsSought 15 = .ok (.iload_n 3, 1) := by decide +kernel
theorem dX0_beginsAsSought_16 : decode cX0_beginsAsSought 16 = .ok (.invokevirtual 95, 3) := by decide +kernel
theorem dX0_beginsAsSought_19 : decode cX0_beginsAsSought 19 = .ok (.aload_n 0, 1) := by decide +kernel
theorem dX0_beginsAsSought_20 : decode cX0_beginsAsSought 20 = .ok (.getfield 25, 3) := by decide +kernel
theorem dX0_beginsAsSought_23 : decode cX0_beginsAsSought 23 = .ok (.iload_n 3, 1) := by decide +kernel
theorem dX0_beginsAsSought_24 : decode cX0_beginsAsSought 24 = .ok (.iaload, 1) := by decide +kernel
theorem dX0_beginsAsSought_25 : decode cX0_beginsAsSought 25 = .ok (.if_icmp .eq 5, 3) := by decide +kernel
theorem dX0_beginsAsSought_28 : decode cX0_beginsAsSought 28 = .ok (.iconst 0, 1) := by decide +kernel
theorem dX0_beginsAsSought_29 : decode cX0_beginsAsSought 29 = .ok (.ireturn, 1) := by decide +kernel
theorem dX0_beginsAsSought_30 : decode cX0_beginsAsSought 30 = .ok (.iinc 3 1, 3) := by decide +kernel
theorem dX0_beginsAsSought_33 : decode cX0_beginsAsSought 33 = .ok (.goto (-31), 3) := by decide +kernel
theorem dX0_beginsAsSought_36 : decode cX0_beginsAsSought 36 = .ok (.iconst 1, 1) := by decide +kernel
theorem dX0_beginsAsSought_37 : decode cX0_beginsAsSought 37 = .ok (.ireturn, 1) := by decide +kernel
set_option maxRecDepth 20000 in
theorem ggX0_disagreements_X0_tellHousehold : GoodIn wsX0_disagreements wsX0_tellHousehold := goodIn_r _ [10, 1, 11, 17, 18, 19, 20, 21, 22, 23, 24, 25, 26] (by decide +kernel) (by decide +kernel)
set_option maxRecDepth 20000 in
theorem gX0_disagreements_X0_tellHousehold : GoodIn wsX0_disagreements (wsV RX0 96 RX0 yX0_tellHousehold wsX0_tellHousehold) := goodIn_app (goodIn_of _ (by decide +kernel)) ggX0_disagreements_X0_tellHousehold
set_option maxRecDepth 20000 in
theorem ggX0_disagreements_X0_tellPerson : GoodIn wsX0_disagreements wsX0_tellPerson := goodIn_r _ [15, 2, 16, 17, 18, 19, 20, 21, 22, 23, 24, 25, 26] (by decide +kernel) (by decide +kernel)
set_option maxRecDepth 20000 in
theorem gX0_disagreements_X0_tellPerson : GoodIn wsX0_disagreements (wsV RX0 81 RX0 yX0_tellPerson wsX0_tellPerson) := goodIn_app (goodIn_of _ (by decide +kernel)) ggX0_disagreements_X0_tellPerson
theorem dX0_disagreements_0 : decode cX0_disagreements 0 = .ok (.iconst 0, 1) := by decide +kernel
theorem dX0_disagreements_1 : decode cX0_disagreements 1 = .ok (.istore_n 1, 1) := by decide +kernel
theorem dX0_disagreements_2 : decode cX0_disagreements 2 = .ok (.iconst 0, 1) := by decide +kernel
theorem dX0_disagreements_3 : decode cX0_disagreements 3 = .ok (.istore_n 2, 1) := by decide +kernel
theorem dX0_disagreements_4 : decode cX0_disagreements 4 = .ok (.iload_n 2, 1) := by decide +kernel
theorem dX0_disagreements_5 : decode cX0_disagreements 5 = .ok (.aload_n 0, 1) := by decide +kernel
theorem dX0_disagreements_6 : decode cX0_disagreements 6 = .ok (.getfield 29, 3) := by decide +kernel
theorem dX0_disagreements_9 : decode cX0_disagreements 9 = .ok (.if_icmp .ge 18, 3) := by decide +kernel
theorem dX0_disagreements_12 : decode cX0_disagreements 12 = .ok (.iload_n 1, 1) := by decide +kernel
theorem dX0_disagreements_13 : decode cX0_disagreements 13 = .ok (.aload_n 0, 1) := by decide +kernel
theorem dX0_disagreements_14 : decode cX0_disagreements 14 = .ok (.iload_n 2, 1) := by decide +kernel
theorem dX0_disagreements_15 : decode cX0_disagreements 15 = .ok (.iconst 2, 1) := by decide +kernel
theorem dX0_disagreements_16 : decode cX0_disagreements 16 = .ok (.invokevirtual 96, 3) := by decide +kernel
theorem dX0_disagreements_19 : decode cX0_disagreements 19 = .ok (.iadd, 1) := by decide +kernel
theorem dX0_disagreements_20 : decode cX0_disagreements 20 = .ok (.istore_n 1, 1) := by decide +kernel
theorem dX0_disagreements_21 : decode cX0_disagreements 21 = .ok (.iinc 2 1, 3) := by decide +kernel
theorem dX0_disagreements_24 : decode cX0_disagreements 24 = .ok (.goto (-20), 3) := by decide +kernel
theorem dX0_disagreements_27 : decode cX0_disagreements 27 = .ok (.iconst 0, 1) := by decide +kernel
theorem dX0_disagreements_28 : decode cX0_disagreements 28 = .ok (.istore_n 2, 1) := by decide +kernel
theorem dX0_disagreements_29 : decode cX0_disagreements 29 = .ok (.iconst 0, 1) := by decide +kernel
theorem dX0_disagreements_30 : decode cX0_disagreements 30 = .ok (.istore_n 3, 1) := by decide +kernel
theorem dX0_disagreements_31 : decode cX0_disagreements 31 = .ok (.iconst 0, 1) := by decide +kernel
theorem dX0_disagreements_32 : decode cX0_disagreements 32 = .ok (.istore 4, 2) := by decide +kernel
theorem dX0_disagreements_34 : decode cX0_disagreements 34 = .ok (.iload 4, 2) := by decide +kernel
theorem dX0_disagreements_36 : decode cX0_disagreements 36 = .ok (.aload_n 0, 1) := by decide +kernel
theorem dX0_disagreements_37 : decode cX0_disagreements 37 = .ok (.getfield 33, 3) := by decide +kernel
theorem dX0_disagreements_40 : decode cX0_disagreements 40 = .ok (.if_icmp .ge 44, 3) := by decide +kernel
theorem dX0_disagreements_43 : decode cX0_disagreements 43 = .ok (.aload_n 0, 1) := by decide +kernel
theorem dX0_disagreements_44 : decode cX0_disagreements 44 = .ok (.iload 4, 2) := by decide +kernel
theorem dX0_disagreements_46 : decode cX0_disagreements 46 = .ok (.iconst 0, 1) := by decide +kernel
theorem dX0_disagreements_47 : decode cX0_disagreements 47 = .ok (.invokevirtual 81, 3) := by decide +kernel
theorem dX0_disagreements_50 : decode cX0_disagreements 50 = .ok (.iconst (-1), 1) := by decide +kernel
theorem dX0_disagreements_51 : decode cX0_disagreements 51 = .ok (.if_icmp .ne 6, 3) := by decide +kernel
theorem dX0_disagreements_54 : decode cX0_disagreements 54 = .ok (.iinc 2 1, 3) := by decide +kernel
theorem dX0_disagreements_57 : decode cX0_disagreements 57 = .ok (.aload_n 0, 1) := by decide +kernel
theorem dX0_disagreements_58 : decode cX0_disagreements 58 = .ok (.iload 4, 2) := by decide +kernel
theorem dX0_disagreements_60 : decode cX0_disagreements 60 = .ok (.iconst 1, 1) := by decide +kernel
theorem dX0_disagreements_61 : decode cX0_disagreements 61 = .ok (.invokevirtual 81, 3) := by decide +kernel
theorem dX0_disagreements_64 : decode cX0_disagreements 64 = .ok (.iconst (-1), 1) := by decide +kernel
theorem dX0_disagreements_65 : decode cX0_disagreements 65 = .ok (.if_icmp .eq 13, 3) := by decide +kernel
theorem dX0_disagreements_68 : decode cX0_disagreements 68 = .ok (.iload_n 3, 1) := by decide +kernel
theorem dX0_disagreements_69 : decode cX0_disagreements 69 = .ok (.aload_n 0, 1) := by decide +kernel
theorem dX0_disagreements_70 : decode cX0_disagreements 70 = .ok (.iload 4, 2) := by decide +kernel
theorem dX0_disagreements_72 : decode cX0_disagreements 72 = .ok (.iconst 1, 1) := by decide +kernel
theorem dX0_disagreements_73 : decode cX0_disagreements 73 = .ok (.invokevirtual 81, 3) := by decide +kernel
theorem dX0_disagreements_76 : decode cX0_disagreements 76 = .ok (.iadd, 1) := by decide +kernel
theorem dX0_disagreements_77 : decode cX0_disagreements 77 = .ok (.istore_n 3, 1) := by decide +kernel
theorem dX0_disagreements_78 : decode cX0_disagreements 78 = .ok (.iinc 4 1, 3) := by decide +kernel
theorem dX0_disagreements_81 : decode cX0_disagreements 81 = .ok (.goto (-47), 3) := by decide +kernel
theorem dX0_disagreements_84 : decode cX0_disagreements 84 = .ok (.iconst 0, 1) := by decide +kernel
theorem dX0_disagreements_85 : decode cX0_disagreements 85 = .ok (.istore 4, 2) := by decide +kernel
theorem dX0_disagreements_87 : decode cX0_disagreements 87 = .ok (.iload_n 1, 1) := by decide +kernel
theorem dX0_disagreements_88 : decode cX0_disagreements 88 = .ok (.aload_n 0, 1) := by decide +kernel
theorem dX0_disagreements_89 : decode cX0_disagreements 89 = .ok (.getfield 33, 3) := by decide +kernel
theorem dX0_disagreements_92 : decode cX0_disagreements 92 = .ok (.if_icmp .eq 6, 3) := by decide +kernel
theorem dX0_disagreements_95 : decode cX0_disagreements 95 = .ok (.iinc 4 1, 3) := by decide +kernel
theorem dX0_disagreements_98 : decode cX0_disagreements 98 = .ok (.aload_n 0, 1) := by decide +kernel
theorem dX0_disagreements_99 : decode cX0_disagreements 99 = .ok (.getfield 69, 3) := by decide +kernel
theorem dX0_disagreements_102 : decode cX0_disagreements 102 = .ok (.aload_n 0, 1) := by decide +kernel
theorem dX0_disagreements_103 : decode cX0_disagreements 103 = .ok (.getfield 72, 3) := by decide +kernel
theorem dX0_disagreements_106 : decode cX0_disagreements 106 = .ok (.iadd, 1) := by decide +kernel
theorem dX0_disagreements_107 : decode cX0_disagreements 107 = .ok (.iload_n 2, 1) := by decide +kernel
theorem dX0_disagreements_108 : decode cX0_disagreements 108 = .ok (.iadd, 1) := by decide +kernel
theorem dX0_disagreements_109 : decode cX0_disagreements 109 = .ok (.aload_n 0, 1) := by decide +kernel
theorem dX0_disagreements_110 : decode cX0_disagreements 110 = .ok (.getfield 33, 3) := by decide +kernel
theorem dX0_disagreements_113 : decode cX0_disagreements 113 = .ok (.if_icmp .eq 6, 3) := by decide +kernel
theorem dX0_disagreements_116 : decode cX0_disagreements 116 = .ok (.iinc 4 1, 3) := by decide +kernel
theorem dX0_disagreements_119 : decode cX0_disagreements 119 = .ok (.iload_n 3, 1) := by decide +kernel
theorem dX0_disagreements_120 : decode cX0_disagreements 120 = .ok (.aload_n 0, 1) := by decide +kernel
theorem dX0_disagreements_121 : decode cX0_disagreements 121 = .ok (.getfield 78, 3) := by decide +kernel
theorem dX0_disagreements_124 : decode cX0_disagreements 124 = .ok (.if_icmp .eq 6, 3) := by decide +kernel
theorem dX0_disagreements_127 : decode cX0_disagreements 127 = .ok (.iinc 4 1, 3) := by decide +kernel
theorem dX0_disagreements_130 : decode cX0_disagreements 130 = .ok (.iload 4, 2) := by decide +kernel
theorem dX0_disagreements_132 : decode cX0_disagreements 132 = .ok (.ireturn, 1) := by decide +kernel
theorem dX1_init_0 : decode cX1_init 0 = .ok (.aload_n 0, 1) := by decide +kernel
theorem dX1_init_1 : decode cX1_init 1 = .ok (.invokespecial 3, 3) := by decide +kernel
theorem dX1_init_4 : decode cX1_init 4 = .ok (.aload_n 0, 1) := by decide +kernel
theorem dX1_init_5 : decode cX1_init 5 = .ok (.iconst 5, 1) := by decide +kernel
theorem dX1_init_6 : decode cX1_init 6 = .ok (.sipush 300, 3) := by decide +kernel
theorem dX1_init_9 : decode cX1_init 9 = .ok (.multianewarray 11 2, 4) := by decide +kernel
theorem dX1_init_13 : decode cX1_init 13 = .ok (.putfield 13, 3) := by decide +kernel
theorem dX1_init_16 : decode cX1_init 16 = .ok (.aload_n 0, 1) := by decide +kernel
theorem dX1_init_17 : decode cX1_init 17 = .ok (.bipush 22, 2) := by decide +kernel
theorem dX1_init_19 : decode cX1_init 19 = .ok (.newarray .int, 2) := by decide +kernel
theorem dX1_init_21 : decode cX1_init 21 = .ok (.putfield 16, 3) := by decide +kernel
theorem dX1_init_24 : decode cX1_init 24 = .ok (.aload_n 0, 1) := by decide +kernel
theorem dX1_init_25 : decode cX1_init 25 = .ok (.iconst 5, 1) := by decide +kernel
theorem dX1_init_26 : decode cX1_init 26 = .ok (.newarray .int, 2) := by decide +kernel
theorem dX1_init_28 : decode cX1_init 28 = .ok (.putfield 20, 3) := by decide +kernel
theorem dX1_init_31 : decode cX1_init 31 = .ok (.aload_n 0, 1) := by decide +kernel
theorem dX1_init_32 : decode cX1_init 32 = .ok (.iconst 5, 1) := by decide +kernel
theorem dX1_init_33 : decode cX1_init 33 = .ok (.newarray .int, 2) := by decide +kernel
theorem dX1_init_35 : decode cX1_init 35 = .ok (.putfield 23, 3) := by decide +kernel
theorem dX1_init_38 : decode cX1_init 38 = .ok (.return_, 1) := by decide +kernel
set_option maxRecDepth 20000 in
theorem ggX1_forget_J7_fill_53178 : GoodIn wsX1_forget wsJ7_fill_53178 := goodIn_r _ [7] (by decide +kernel) (by decide +kernel)
set_option maxRecDepth 20000 in
theorem gX1_forget_J7_fill_53178 : GoodIn wsX1_forget (va_wsS RX1 30 yJ7_fill_53178 wsJ7_fill_53178) := goodIn_app (goodIn_of _ (by decide +kernel)) ggX1_forget_J7_fill_53178
set_option maxRecDepth 20000 in
theorem ggX1_forget_X1_forgetHousehold : GoodIn wsX1_forget wsX1_forgetHousehold := goodIn_r _ [12, 13, 4, 5, 6, 7, 14, 15, 16, 17, 18] (by decide +kernel) (by decide +kernel)
set_option maxRecDepth 20000 in
theorem gX1_forget_X1_forgetHousehold : GoodIn wsX1_forget (wsV RX1 36 RX1 yX1_forgetHousehold wsX1_forgetHousehold) := goodIn_app (goodIn_of _ (by decide +kernel)) ggX1_forget_X1_forgetHousehold
theorem dX1_forget_0 : decode cX1_forget 0 = .ok (.aload_n 0, 1) := by decide +kernel
theorem dX1_forget_1 : decode cX1_forget 1 = .ok (.iconst 0, 1) := by decide +kernel
theorem dX1_forget_2 : decode cX1_forget 2 = .ok (.putfield 26, 3) := by decide +kernel
theorem dX1_forget_5 : decode cX1_forget 5 = .ok (.aload_n 0, 1) := by decide +kernel
theorem dX1_forget_6 : decode cX1_forget 6 = .ok (.getfield 16, 3) := by decide +kernel
theorem dX1_forget_9 : decode cX1_forget 9 = .ok (.iconst 0, 1) := by decide +kernel
theorem dX1_forget_10 : decode cX1_forget 10 = .ok (.invokestatic 30, 3) := by decide +kernel
theorem dX1_forget_13 : decode cX1_forget 13 = .ok (.aload_n 0, 1) := by decide +kernel
theorem dX1_forget_14 : decode cX1_forget 14 = .ok (.getfield 23, 3) := by decide +kernel
theorem dX1_forget_17 : decode cX1_forget 17 = .ok (.iconst (-1), 1) := by decide +kernel
theorem dX1_forget_18 : decode cX1_forget 18 = .ok (.invokestatic 30, 3) := by decide +kernel
theorem dX1_forget_21 : decode cX1_forget 21 = .ok (.aload_n 0, 1) := by decide +kernel
theorem dX1_forget_22 : decode cX1_forget 22 = .ok (.invokevirtual 36, 3) := by decide +kernel
theorem dX1_forget_25 : decode cX1_forget 25 = .ok (.return_, 1) := by decide +kernel
set_option maxRecDepth 20000 in
theorem ggX1_forgetHousehold_J7_fill_53178 : GoodIn wsX1_forgetHousehold wsJ7_fill_53178 := goodIn_r _ [5] (by decide +kernel) (by decide +kernel)
set_option maxRecDepth 20000 in
theorem gX1_forgetHousehold_J7_fill_53178 : GoodIn wsX1_forgetHousehold (va_wsS RX1 30 yJ7_fill_53178 wsJ7_fill_53178) := goodIn_app (goodIn_of _ (by decide +kernel)) ggX1_forgetHousehold_J7_fill_53178
theorem dX1_forgetHousehold_0 : decode cX1_forgetHousehold 0 = .ok (.aload_n 0, 1) := by decide +kernel
theorem dX1_forgetHousehold_1 : decode cX1_forgetHousehold 1 = .ok (.getfield 20, 3) := by decide +kernel
theorem dX1_forgetHousehold_4 : decode cX1_forgetHousehold 4 = .ok (.iconst (-1), 1) := by decide +kernel
theorem dX1_forgetHousehold_5 : decode cX1_forgetHousehold 5 = .ok (.invokestatic 30, 3) := by decide +kernel
theorem dX1_forgetHousehold_8 : decode cX1_forgetHousehold 8 = .ok (.return_, 1) := by decide +kernel
theorem dX1_add_0 : decode cX1_add 0 = .ok (.iload_n 1, 1) := by decide +kernel
theorem dX1_add_1 : decode cX1_add 1 = .ok (.iconst 1, 1) := by decide +kernel
theorem dX1_add_2 : decode cX1_add 2 = .ok (.if_icmp .lt 9, 3) := by decide +kernel
theorem dX1_add_5 : decode cX1_add 5 = .ok (.iload_n 1, 1) := by decide +kernel
theorem dX1_add_6 : decode cX1_add 6 = .ok (.bipush 21, 2) := by decide +kernel
theorem dX1_add_8 : decode cX1_add 8 = .ok (.if_icmp .le 5, 3) := by decide +kernel
theorem dX1_add_11 : decode cX1_add 11 = .ok (.iconst (-1), 1) := by decide +kernel
theorem dX1_add_12 : decode cX1_add 12 = .ok (.ireturn, 1) := by decide +kernel
theorem dX1_add_13 : decode cX1_add 13 = .ok (.getstatic 39, 3) := by decide +kernel
theorem dX1_add_16 : decode cX1_add 16 = .ok (.iload_n 1, 1) := by decide +kernel
theorem dX1_add_17 : decode cX1_add 17 = .ok (.iaload, 1) := by decide +kernel
theorem dX1_add_18 : decode cX1_add 18 = .ok (.istore 6, 2) := by decide +kernel
theorem dX1_add_20 : decode cX1_add 20 = .ok (.iload 5, 2) := by decide +kernel
theorem dX1_add_22 : decode cX1_add 22 = .ok (.ifCond .eq 16, 3) := by decide +kernel
theorem dX1_add_25 : decode cX1_add 25 = .ok (.iload 6, 2) := by decide +kernel
theorem dX1_add_27 : decode cX1_add 27 = .ok (.iconst 4, 1) := by decide +kernel
theorem dX1_add_28 : decode cX1_add 28 = .ok (.if_icmp .eq 10, 3) := by decide +kernel
theorem dX1_add_31 : decode cX1_add 31 = .ok (.aload_n 0, 1) := by decide +kernel
theorem dX1_add_32 : decode cX1_add 32 = .ok (.getfield 20, 3) := by decide +kernel
theorem dX1_add_35 : decode cX1_add 35 = .ok (.goto 7, 3) := by decide +kernel
theorem dX1_add_38 : decode cX1_add 38 = .ok (.aload_n 0, 1) := by decide +kernel
theorem dX1_add_39 : decode cX1_add 39 = .ok (.getfield 23, 3) := by decide +kernel
theorem dX1_add_42 : decode cX1_add 42 = .ok (.astore 7, 2) := by decide +kernel
theorem dX1_add_44 : decode cX1_add 44 = .ok (.aload_n 0, 1) := by decide +kernel
theorem dX1_add_45 : decode cX1_add 45 = .ok (.getfield 26, 3) := by decide +kernel
theorem dX1_add_48 : decode cX1_add 48 = .ok (.istore 8, 2) := by decide +kernel
theorem dX1_add_50 : decode cX1_add 50 = .ok (.iload 8, 2) := by decide +kernel
theorem dX1_add_52 : decode cX1_add 52 = .ok (.sipush 300, 3) := by decide +kernel
theorem dX1_add_55 : decode cX1_add 55 = .ok (.if_icmp .ge 58, 3) := by decide +kernel
theorem dX1_add_58 : decode cX1_add 58 = .ok (.aload_n 0, 1) := by decide +kernel
theorem dX1_add_59 : decode cX1_add 59 = .ok (.getfield 13, 3) := by decide +kernel
theorem dX1_add_62 : decode cX1_add 62 = .ok (.iconst 0, 1) := by decide +kernel
theorem dX1_add_63 : decode cX1_add 63 = .ok (.aaload, 1) := by decide +kernel
theorem dX1_add_64 : decode cX1_add 64 = .ok (.iload 8, 2) := by decide +kernel
theorem dX1_add_66 : decode cX1_add 66 = .ok (.iload_n 1, 1) := by decide +kernel
theorem dX1_add_67 : decode cX1_add 67 = .ok (.iastore, 1) := by decide +kernel
theorem dX1_add_68 : decode cX1_add 68 = .ok (.aload_n 0, 1) := by decide +kernel
theorem dX1_add_69 : decode cX1_add 69 = .ok (.getfield 13, 3) := by decide +kernel
theorem dX1_add_72 : decode cX1_add 72 = .ok (.iconst 1, 1) := by decide +kernel
theorem dX1_add_73 : decode cX1_add 73 = .ok (.aaload, 1) := by decide +kernel
theorem dX1_add_74 : decode cX1_add 74 = .ok (.iload 8, 2) := by decide +kernel
theorem dX1_add_76 : decode cX1_add 76 = .ok (.iload_n 2, 1) := by decide +kernel
theorem dX1_add_77 : decode cX1_add 77 = .ok (.iastore, 1) := by decide +kernel
theorem dX1_add_78 : decode cX1_add 78 = .ok (.aload_n 0, 1) := by decide +kernel
theorem dX1_add_79 : decode cX1_add 79 = .ok (.getfield 13, 3) := by decide +kernel
theorem dX1_add_82 : decode cX1_add 82 = .ok (.iconst 2, 1) := by decide +kernel
theorem dX1_add_83 : decode cX1_add 83 = .ok (.aaload, 1) := by decide +kernel
theorem dX1_add_84 : decode cX1_add 84 = .ok (.iload 8, 2) := by decide +kernel
theorem dX1_add_86 : decode cX1_add 86 = .ok (.iload_n 3, 1) := by decide +kernel
theorem dX1_add_87 : decode cX1_add 87 = .ok (.iastore, 1) := by decide +kernel
theorem dX1_add_88 : decode cX1_add 88 = .ok (.aload_n 0, 1) := by decide +kernel
theorem dX1_add_89 : decode cX1_add 89 = .ok (.getfield 13, 3) := by decide +kernel
theorem dX1_add_92 : decode cX1_add 92 = .ok (.iconst 3, 1) := by decide +kernel
theorem dX1_add_93 : decode cX1_add 93 = .ok (.aaload, 1) := by decide +kernel
theorem dX1_add_94 : decode cX1_add 94 = .ok (.iload 8, 2) := by decide +kernel
theorem dX1_add_96 : decode cX1_add 96 = .ok (.aload 7, 2) := by decide +kernel
theorem dX1_add_98 : decode cX1_add 98 = .ok (.iload 6, 2) := by decide +kernel
theorem dX1_add_100 : decode cX1_add 100 = .ok (.iaload, 1) := by decide +kernel
theorem dX1_add_101 : decode cX1_add 101 = .ok (.iastore, 1) := by decide +kernel
theorem dX1_add_102 : decode cX1_add 102 = .ok (.aload_n 0, 1) := by decide +kernel
theorem dX1_add_103 : decode cX1_add 103 = .ok (.getfield 13, 3) := by decide +kernel
theorem dX1_add_106 : decode cX1_add 106 = .ok (.iconst 4, 1) := by decide +kernel
theorem dX1_add_107 : decode cX1_add 107 = .ok (.aaload, 1) := by decide +kernel
theorem dX1_add_108 : decode cX1_add 108 = .ok (.iload 8, 2) := by decide +kernel
theorem dX1_add_110 : decode cX1_add 110 = .ok (.iload 4, 2) := by decide +kernel
theorem dX1_add_112 : decode cX1_add 112 = .ok (.iastore, 1) := by decide +kernel
theorem dX1_add_113 : decode cX1_add 113 = .ok (.aload 7, 2) := by decide +kernel
theorem dX1_add_115 : decode cX1_add 115 = .ok (.iload 6, 2) := by decide +kernel
theorem dX1_add_117 : decode cX1_add 117 = .ok (.iaload, 1) := by decide +kernel
theorem dX1_add_118 : decode cX1_add 118 = .ok (.iconst (-1), 1) := by decide +kernel
theorem dX1_add_119 : decode cX1_add 119 = .ok (.if_icmp .ne 10, 3) := by decide +kernel
theorem dX1_add_122 : decode cX1_add 122 = .ok (.aload 7, 2) := by decide +kernel
theorem dX1_add_124 : decode cX1_add 124 = .ok (.iload 6, 2) := by decide +kernel
theorem dX1_add_126 : decode cX1_add 126 = .ok (.iload 8, 2) := by decide +kernel
theorem dX1_add_128 : decode cX1_add 128 = .ok (.iastore, 1) := by decide +kernel
theorem dX1_add_129 : decode cX1_add 129 = .ok (.aload_n 0, 1) := by decide +kernel
theorem dX1_add_130 : decode cX1_add 130 = .ok (.getfield 16, 3) := by decide +kernel
theorem dX1_add_133 : decode cX1_add 133 = .ok (.iload_n 1, 1) := by decide +kernel
theorem dX1_add_134 : decode cX1_add 134 = .ok (.dup2, 1) := by decide +kernel
theorem dX1_add_135 : decode cX1_add 135 = .ok (.iaload, 1) := by decide +kernel
theorem dX1_add_136 : decode cX1_add 136 = .ok (.iconst 1, 1) := by decide +kernel
theorem dX1_add_137 : decode cX1_add 137 = .ok (.iadd, 1) := by decide +kernel
theorem dX1_add_138 : decode cX1_add 138 = .ok (.iastore, 1) := by decide +kernel
theorem dX1_add_139 : decode cX1_add 139 = .ok (.aload_n 0, 1) := by decide +kernel
theorem dX1_add_140 : decode cX1_add 140 = .ok (.dup, 1) := by decide +kernel
theorem dX1_add_141 : decode cX1_add 141 = .ok (.getfield 26, 3) := by decide +kernel
theorem dX1_add_144 : decode cX1_add 144 = .ok (.iconst 1, 1) := by decide +kernel
theorem dX1_add_145 : decode cX1_add 145 = .ok (.iadd, 1) := by decide +kernel
theorem dX1_add_146 : decode cX1_add 146 = .ok (.putfield 26, 3) := by decide +kernel
theorem dX1_add_149 : decode cX1_add 149 = .ok (.iload 8, 2) := by decide +kernel
theorem dX1_add_151 : decode cX1_add 151 = .ok (.ireturn, 1) := by decide +kernel
theorem dX1_isKept_0 : decode cX1_isKept 0 = .ok (.iload_n 1, 1) := by decide +kernel
theorem dX1_isKept_1 : decode cX1_isKept 1 = .ok (.ifCond .lt 22, 3) := by decide +kernel
theorem dX1_isKept_4 : decode cX1_isKept 4 = .ok (.iload_n 1, 1) := by decide +kernel
theorem dX1_isKept_5 : decode cX1_isKept 5 = .ok (.aload_n 0, 1) := by decide +kernel
theorem dX1_isKept_6 : decode cX1_isKept 6 = .ok (.getfield 26, 3) := by decide +kernel
theorem dX1_isKept_9 : decode cX1_isKept 9 = .ok (.if_icmp .ge 14, 3) := by decide +kernel
theorem dX1_isKept_12 : decode cX1_isKept 12 = .ok (.iload_n 1, 1) := by decide +kernel
theorem dX1_isKept_13 : decode cX1_isKept 13 = .ok (.sipush 300, 3) := by decide +kernel
theorem dX1_isKept_16 : decode cX1_isKept 16 = .ok (.if_icmp .ge 7, 3) := by decide +kernel
theorem dX1_isKept_19 : decode cX1_isKept 19 = .ok (.iconst 1, 1) := by decide +kernel
theorem dX1_isKept_20 : decode cX1_isKept 20 = .ok (.goto 4, 3) := by decide +kernel
theorem dX1_isKept_23 : decode cX1_isKept 23 = .ok (.iconst 0, 1) := by decide +kernel
theorem dX1_isKept_24 : decode cX1_isKept 24 = .ok (.ireturn, 1) := by decide +kernel
set_option maxRecDepth 20000 in
theorem ggX1_tell_X1_isKept : GoodIn wsX1_tell wsX1_isKept := goodIn_r _ [6, 7, 8, 9, 10, 11, 12] (by decide +kernel) (by decide +kernel)
set_option maxRecDepth 20000 in
theorem gX1_tell_X1_isKept : GoodIn wsX1_tell (wsV RX1 42 RX1 yX1_isKept wsX1_isKept) := goodIn_app (goodIn_of _ (by decide +kernel)) ggX1_tell_X1_isKept
theorem dX1_tell_0 : decode cX1_tell 0 = .ok (.aload_n 0, 1) := by decide +kernel
theorem dX1_tell_1 : decode cX1_tell 1 = .ok (.iload_n 1, 1) := by decide +kernel
theorem dX1_tell_2 : decode cX1_tell 2 = .ok (.invokevirtual 42, 3) := by decide +kernel
theorem dX1_tell_5 : decode cX1_tell 5 = .ok (.ifCond .eq 12, 3) := by decide +kernel
theorem dX1_tell_8 : decode cX1_tell 8 = .ok (.iload_n 2, 1) := by decide +kernel
theorem dX1_tell_9 : decode cX1_tell 9 = .ok (.ifCond .lt 8, 3) := by decide +kernel
theorem dX1_tell_12 : decode cX1_tell 12 = .ok (.iload_n 2, 1) := by decide +kernel
theorem dX1_tell_13 : decode cX1_tell 13 = .ok (.iconst 5, 1) := by decide +kernel
theorem dX1_tell_14 : decode cX1_tell 14 = .ok (.if_icmp .lt 5, 3) := by decide +kernel
theorem dX1_tell_17 : decode cX1_tell 17 = .ok (.iconst (-1), 1) := by decide +kernel
theorem dX1_tell_18 : decode cX1_tell 18 = .ok (.ireturn, 1) := by decide +kernel
theorem dX1_tell_19 : decode cX1_tell 19 = .ok (.aload_n 0, 1) := by decide +kernel
theorem dX1_tell_20 : decode cX1_tell 20 = .ok (.getfield 13, 3) := by decide +kernel
theorem dX1_tell_23 : decode cX1_tell 23 = .ok (.iload_n 2, 1) := by decide +kernel
theorem dX1_tell_24 : decode cX1_tell 24 = .ok (.aaload, 1) := by decide +kernel
theorem dX1_tell_25 : decode cX1_tell 25 = .ok (.iload_n 1, 1) := by decide +kernel
theorem dX1_tell_26 : decode cX1_tell 26 = .ok (.iaload, 1) := by decide +kernel
theorem dX1_tell_27 : decode cX1_tell 27 = .ok (.ireturn, 1) := by decide +kernel
theorem dX1_ofKind_0 : decode cX1_ofKind 0 = .ok (.iload_n 1, 1) := by decide +kernel
theorem dX1_ofKind_1 : decode cX1_ofKind 1 = .ok (.iconst 1, 1) := by decide +kernel
theorem dX1_ofKind_2 : decode cX1_ofKind 2 = .ok (.if_icmp .lt 18, 3) := by decide +kernel
theorem dX1_ofKind_5 : decode cX1_ofKind 5 = .ok (.iload_n 1, 1) := by decide +kernel
theorem dX1_ofKind_6 : decode cX1_ofKind 6 = .ok (.bipush 21, 2) := by decide +kernel
theorem dX1_ofKind_8 : decode cX1_ofKind 8 = .ok (.if_icmp .gt 12, 3) := by decide +kernel
theorem dX1_ofKind_11 : decode cX1_ofKind 11 = .ok (.aload_n 0, 1) := by decide +kernel
theorem dX1_ofKind_12 : decode cX1_ofKind 12 = .ok (.getfield 16, 3) := by decide +kernel
theorem dX1_ofKind_15 : decode cX1_ofKind 15 = .ok (.iload_n 1, 1) := by decide +kernel
theorem dX1_ofKind_16 : decode cX1_ofKind 16 = .ok (.iaload, 1) := by decide +kernel
theorem dX1_ofKind_17 : decode cX1_ofKind 17 = .ok (.goto 4, 3) := by decide +kernel
theorem dX1_ofKind_20 : decode cX1_ofKind 20 = .ok (.iconst 0, 1) := by decide +kernel
theorem dX1_ofKind_21 : decode cX1_ofKind 21 = .ok (.ireturn, 1) := by decide +kernel
set_option maxRecDepth 20000 in
theorem ggX1_causesBelow_X1_isKept : GoodIn wsX1_causesBelow wsX1_isKept := goodIn_r _ [6, 7, 8, 9, 10, 11, 12] (by decide +kernel) (by decide +kernel)
set_option maxRecDepth 20000 in
theorem gX1_causesBelow_X1_isKept : GoodIn wsX1_causesBelow (wsV RX1 42 RX1 yX1_isKept wsX1_isKept) := goodIn_app (goodIn_of _ (by decide +kernel)) ggX1_causesBelow_X1_isKept
theorem dX1_causesBelow_0 : decode cX1_causesBelow 0 = .ok (.aload_n 0, 1) := by decide +kernel
theorem dX1_causesBelow_1 : decode cX1_causesBelow 1 = .ok (.iload_n 1, 1) := by decide +kernel
theorem dX1_causesBelow_2 : decode cX1_causesBelow 2 = .ok (.invokevirtual 42, 3) := by decide +kernel
theorem dX1_causesBelow_5 : decode cX1_causesBelow 5 = .ok (.ifCond .ne 5, 3) := by decide +kernel
theorem dX1_causesBelow_8 : decode cX1_causesBelow 8 = .ok (.iconst (-1), 1) := by decide +kernel
theorem dX1_causesBelow_9 : decode cX1_causesBelow 9 = .ok (.ireturn, 1) := by decide +kernel
theorem dX1_causesBelow_10 : decode cX1_causesBelow 10 = .ok (.iload_n 1, 1) := by decide +kernel
theorem dX1_causesBelow_11 : decode cX1_causesBelow 11 = .ok (.istore_n 2, 1) := by decide +kernel
theorem dX1_causesBelow_12 : decode cX1_causesBelow 12 = .ok (.iconst 0, 1) := by decide +kernel
theorem dX1_causesBelow_13 : decode cX1_causesBelow 13 = .ok (.istore_n 3, 1) := by decide +kernel
theorem dX1_causesBelow_14 : decode cX1_causesBelow 14 = .ok (.iload_n 3, 1) := by decide +kernel
theorem dX1_causesBelow_15 : decode cX1_causesBelow 15 = .ok (.iconst 5, 1) := by decide +kernel
theorem dX1_causesBelow_16 : decode cX1_causesBelow 16 = .ok (.if_icmp .ge 40, 3) := by decide +kernel
theorem dX1_causesBelow_19 : decode cX1_causesBelow 19 = .ok (.aload_n 0, 1) := by decide +kernel
theorem dX1_causesBelow_20 : decode cX1_causesBelow 20 = .ok (.iload_n 2, 1) := by decide +kernel
theorem dX1_causesBelow_21 : decode cX1_causesBelow 21 = .ok (.invokevirtual 42, 3) := by decide +kernel
theorem dX1_causesBelow_24 : decode cX1_causesBelow 24 = .ok (.ifCond .eq 15, 3) := by decide +kernel
theorem dX1_causesBelow_27 : decode cX1_causesBelow 27 = .ok (.aload_n 0, 1) := by decide +kernel
theorem dX1_causesBelow_28 : decode cX1_causesBelow 28 = .ok (.getfield 13, 3) := by decide +kernel
theorem dX1_causesBelow_31 : decode cX1_causesBelow 31 = .ok (.iconst 2, 1) := by decide +kernel
theorem dX1_causesBelow_32 : decode cX1_causesBelow 32 = .ok (.aaload, 1) := by decide +kernel
theorem dX1_causesBelow_33 : decode cX1_causesBelow 33 = .ok (.iload_n 2, 1) := by decide +kernel
theorem dX1_causesBelow_34 : decode cX1_causesBelow 34 = .ok (.iaload, 1) := by decide +kernel
theorem dX1_causesBelow_35 : decode cX1_causesBelow 35 = .ok (.iconst (-1), 1) := by decide +kernel
theorem dX1_causesBelow_36 : decode cX1_causesBelow 36 = .ok (.if_icmp .ne 5, 3) := by decide +kernel
theorem dX1_causesBelow_39 : decode cX1_causesBelow 39 = .ok (.iload_n 3, 1) := by decide +kernel
theorem dX1_causesBelow_40 : decode cX1_causesBelow 40 = .ok (.ireturn, 1) := by decide +kernel
theorem dX1_causesBelow_41 : decode cX1_causesBelow 41 = .ok (.aload_n 0, 1) := by decide +kernel
theorem dX1_causesBelow_42 : decode cX1_causesBelow 42 = .ok (.getfield 13, 3) := by decide +kernel
theorem dX1_causesBelow_45 : decode cX1_causesBelow 45 = .ok (.iconst 2, 1) := by decide +kernel
theorem dX1_causesBelow_46 : decode cX1_causesBelow 46 = .ok (.aaload, 1) := by decide +kernel
theorem dX1_causesBelow_47 : decode cX1_causesBelow 47 = .ok (.iload_n 2, 1) := by decide +kernel
theorem dX1_causesBelow_48 : decode cX1_causesBelow 48 = .ok (.iaload, 1) := by decide +kernel
theorem dX1_causesBelow_49 : decode cX1_causesBelow 49 = .ok (.istore_n 2, 1) := by decide +kernel
theorem dX1_causesBelow_50 : decode cX1_causesBelow 50 = .ok (.iinc 3 1, 3) := by decide +kernel
theorem dX1_causesBelow_53 : decode cX1_causesBelow 53 = .ok (.goto (-39), 3) := by decide +kernel
theorem dX1_causesBelow_56 : decode cX1_causesBelow 56 = .ok (.iconst 5, 1) := by decide +kernel
theorem dX1_causesBelow_57 : decode cX1_causesBelow 57 = .ok (.ireturn, 1) := by decide +kernel
theorem dX2_init_0 : decode cX2_init 0 = .ok (.aload_n 0, 1) := by decide +kernel
theorem dX2_init_1 : decode cX2_init 1 = .ok (.invokespecial 5, 3) := by decide +kernel
theorem dX2_init_4 : decode cX2_init 4 = .ok (.aload_n 0, 1) := by decide +kernel
theorem dX2_init_5 : decode cX2_init 5 = .ok (.sipush 2000, 3) := by decide +kernel
theorem dX2_init_8 : decode cX2_init 8 = .ok (.newarray .int, 2) := by decide +kernel
theorem dX2_init_10 : decode cX2_init 10 = .ok (.putfield 13, 3) := by decide +kernel
theorem dX2_init_13 : decode cX2_init 13 = .ok (.aload_n 0, 1) := by decide +kernel
theorem dX2_init_14 : decode cX2_init 14 = .ok (.sipush 2000, 3) := by decide +kernel
theorem dX2_init_17 : decode cX2_init 17 = .ok (.newarray .int, 2) := by decide +kernel
theorem dX2_init_19 : decode cX2_init 19 = .ok (.putfield 17, 3) := by decide +kernel
theorem dX2_init_22 : decode cX2_init 22 = .ok (.aload_n 0, 1) := by decide +kernel
theorem dX2_init_23 : decode cX2_init 23 = .ok (.sipush 2000, 3) := by decide +kernel
theorem dX2_init_26 : decode cX2_init 26 = .ok (.newarray .int, 2) := by decide +kernel
theorem dX2_init_28 : decode cX2_init 28 = .ok (.putfield 20, 3) := by decide +kernel
theorem dX2_init_31 : decode cX2_init 31 = .ok (.aload_n 0, 1) := by decide +kernel
theorem dX2_init_32 : decode cX2_init 32 = .ok (.sipush 2000, 3) := by decide +kernel
theorem dX2_init_35 : decode cX2_init 35 = .ok (.newarray .int, 2) := by decide +kernel
theorem dX2_init_37 : decode cX2_init 37 = .ok (.putfield 23, 3) := by decide +kernel
theorem dX2_init_40 : decode cX2_init 40 = .ok (.aload_n 0, 1) := by decide +kernel
theorem dX2_init_41 : decode cX2_init 41 = .ok (.sipush 2000, 3) := by decide +kernel
theorem dX2_init_44 : decode cX2_init 44 = .ok (.newarray .int, 2) := by decide +kernel
theorem dX2_init_46 : decode cX2_init 46 = .ok (.putfield 26, 3) := by decide +kernel
theorem dX2_init_49 : decode cX2_init 49 = .ok (.aload_n 0, 1) := by decide +kernel
theorem dX2_init_50 : decode cX2_init 50 = .ok (.sipush 4000, 3) := by decide +kernel
theorem dX2_init_53 : decode cX2_init 53 = .ok (.newarray .byte, 2) := by decide +kernel
theorem dX2_init_55 : decode cX2_init 55 = .ok (.putfield 29, 3) := by decide +kernel
theorem dX2_init_58 : decode cX2_init 58 = .ok (.return_, 1) := by decide +kernel
theorem dX2_begin_0 : decode cX2_begin 0 = .ok (.aload_n 0, 1) := by decide +kernel
theorem dX2_begin_1 : decode cX2_begin 1 = .ok (.iconst 1, 1) := by decide +kernel
theorem dX2_begin_2 : decode cX2_begin 2 = .ok (.putfield 33, 3) := by decide +kernel
theorem dX2_begin_5 : decode cX2_begin 5 = .ok (.aload_n 0, 1) := by decide +kernel
theorem dX2_begin_6 : decode cX2_begin 6 = .ok (.iconst 0, 1) := by decide +kernel
theorem dX2_begin_7 : decode cX2_begin 7 = .ok (.putfield 37, 3) := by decide +kernel
theorem dX2_begin_10 : decode cX2_begin 10 = .ok (.aload_n 0, 1) := by decide +kernel
theorem dX2_begin_11 : decode cX2_begin 11 = .ok (.iload_n 1, 1) := by decide +kernel
theorem dX2_begin_12 : decode cX2_begin 12 = .ok (.putfield 40, 3) := by decide +kernel
theorem dX2_begin_15 : decode cX2_begin 15 = .ok (.aload_n 0, 1) := by decide +kernel
theorem dX2_begin_16 : decode cX2_begin 16 = .ok (.iconst (-1), 1) := by decide +kernel
theorem dX2_begin_17 : decode cX2_begin 17 = .ok (.putfield 44, 3) := by decide +kernel
theorem dX2_begin_20 : decode cX2_begin 20 = .ok (.aload_n 0, 1) := by decide +kernel
theorem dX2_begin_21 : decode cX2_begin 21 = .ok (.iconst (-1), 1) := by decide +kernel
theorem dX2_begin_22 : decode cX2_begin 22 = .ok (.putfield 47, 3) := by decide +kernel
theorem dX2_begin_25 : decode cX2_begin 25 = .ok (.aload_n 0, 1) := by decide +kernel
theorem dX2_begin_26 : decode cX2_begin 26 = .ok (.iconst 0, 1) := by decide +kernel
theorem dX2_begin_27 : decode cX2_begin 27 = .ok (.putfield 50, 3) := by decide +kernel
theorem dX2_begin_30 : decode cX2_begin 30 = .ok (.aload_n 0, 1) := by decide +kernel
theorem dX2_begin_31 : decode cX2_begin 31 = .ok (.iconst 0, 1) := by decide +kernel
theorem dX2_begin_32 : decode cX2_begin 32 = .ok (.putfield 53, 3) := by decide +kernel
theorem dX2_begin_35 : decode cX2_begin 35 = .ok (.return_, 1) := by decide +kernel
theorem dX2_forgetNewcomer_0 : decode cX2_forgetNewcomer 0 = .ok (.aload_n 0, 1) := by decide +kernel
theorem dX2_forgetNewcomer_1 : decode cX2_forgetNewcomer 1 = .ok (.getfield 50, 3) := by decide +kernel
theorem dX2_forgetNewcomer_4 : decode cX2_forgetNewcomer 4 = .ok (.sipush 2000, 3) := by decide +kernel
theorem dX2_forgetNewcomer_7 : decode cX2_forgetNewcomer 7 = .ok (.if_icmp .lt 4, 3) := by decide +kernel
theorem dX2_forgetNewcomer_10 : decode cX2_forgetNewcomer 10 = .ok (.return_, 1) := by decide +kernel
theorem dX2_forgetNewcomer_11 : decode cX2_forgetNewcomer 11 = .ok (.aload_n 0, 1) := by decide +kernel
theorem dX2_forgetNewcomer_12 : decode cX2_forgetNewcomer 12 = .ok (.getfield 23, 3) := by decide +kernel
theorem dX2_forgetNewcomer_15 : decode cX2_forgetNewcomer 15 = .ok (.aload_n 0, 1) := by decide +kernel
theorem dX2_forgetNewcomer_16 : decode cX2_forgetNewcomer 16 = .ok (.getfield 50, 3) := by decide +kernel
theorem dX2_forgetNewcomer_19 : decode cX2_forgetNewcomer 19 = .ok (.aload_n 0, 1) := by decide +kernel
theorem dX2_forgetNewcomer_20 : decode cX2_forgetNewcomer 20 = .ok (.getfield 53, 3) := by decide +kernel
theorem dX2_forgetNewcomer_23 : decode cX2_forgetNewcomer 23 = .ok (.iastore, 1) := by decide +kernel
theorem dX2_forgetNewcomer_24 : decode cX2_forgetNewcomer 24 = .ok (.aload_n 0, 1) := by decide +kernel
theorem dX2_forgetNewcomer_25 : decode cX2_forgetNewcomer 25 = .ok (.getfield 26, 3) := by decide +kernel
theorem dX2_forgetNewcomer_28 : decode cX2_forgetNewcomer 28 = .ok (.aload_n 0, 1) := by decide +kernel
theorem dX2_forgetNewcomer_29 : decode cX2_forgetNewcomer 29 = .ok (.getfield 50, 3) := by decide +kernel
theorem dX2_forgetNewcomer_32 : decode cX2_forgetNewcomer 32 = .ok (.iconst 0, 1) := by decide +kernel
theorem dX2_forgetNewcomer_33 : decode cX2_forgetNewcomer 33 = .ok (.iastore, 1) := by decide +kernel
theorem dX2_forgetNewcomer_34 : decode cX2_forgetNewcomer 34 = .ok (.return_, 1) := by decide +kernel
set_option maxRecDepth 20000 in
theorem ggX2_nameNewcomer_X6_at : GoodIn wsX2_nameNewcomer wsX6_at := goodIn_r _ [9, 10, 11, 25, 26, 27] (by decide +kernel) (by decide +kernel)
set_option maxRecDepth 20000 in
theorem gX2_nameNewcomer_X6_at : GoodIn wsX2_nameNewcomer (wsV RX2 61 RX6 yX6_at wsX6_at) := goodIn_app (goodIn_of _ (by decide +kernel)) ggX2_nameNewcomer_X6_at
theorem dX2_nameNewcomer_0 : decode cX2_nameNewcomer 0 = .ok (.aload_n 0, 1) := by decide +kernel
theorem dX2_nameNewcomer_1 : decode cX2_nameNewcomer 1 = .ok (.getfield 50, 3) := by decide +kernel
theorem dX2_nameNewcomer_4 : decode cX2_nameNewcomer 4 = .ok (.sipush 2000, 3) := by decide +kernel
theorem dX2_nameNewcomer_7 : decode cX2_nameNewcomer 7 = .ok (.if_icmp .lt 4, 3) := by decide +kernel
theorem dX2_nameNewcomer_10 : decode cX2_nameNewcomer 10 = .ok (.return_, 1) := by decide +kernel
theorem dX2_nameNewcomer_11 : decode cX2_nameNewcomer 11 = .ok (.iconst 0, 1) := by decide +kernel
theorem dX2_nameNewcomer_12 : decode cX2_nameNewcomer 12 = .ok (.istore_n 2, 1) := by decide +kernel
theorem dX2_nameNewcomer_13 : decode cX2_nameNewcomer 13 = .ok (.iload_n 2, 1) := by decide +kernel
theorem dX2_nameNewcomer_14 : decode cX2_nameNewcomer 14 = .ok (.aload_n 1, 1) := by decide +kernel
theorem dX2_nameNewcomer_15 : decode cX2_nameNewcomer 15 = .ok (.getfield 56, 3) := by decide +kernel
theorem dX2_nameNewcomer_18 : decode cX2_nameNewcomer 18 = .ok (.if_icmp .ge 56, 3) := by decide +kernel
theorem dX2_nameNewcomer_21 : decode cX2_nameNewcomer 21 = .ok (.iload_n 2, 1) := by decide +kernel
theorem dX2_nameNewcomer_22 : decode cX2_nameNewcomer 22 = .ok (.bipush 30, 2) := by decide +kernel
theorem dX2_nameNewcomer_24 : decode cX2_nameNewcomer 24 = .ok (.if_icmp .ge 50, 3) := by decide +kernel
theorem dX2_nameNewcomer_27 : decode cX2_nameNewcomer 27 = .ok (.aload_n 0, 1) := by decide +kernel
theorem dX2_nameNewcomer_28 : decode cX2_nameNewcomer 28 = .ok (.getfield 53, 3) := by decide +kernel
theorem dX2_nameNewcomer_31 : decode cX2_nameNewcomer 31 = .ok (.iload_n 2, 1) := by decide +kernel
theorem dX2_nameNewcomer_32 : decode cX2_nameNewcomer 32 = .ok (.iadd, 1) := by decide +kernel
theorem dX2_nameNewcomer_33 : decode cX2_nameNewcomer 33 = .ok (.sipush 4000, 3) := by decide +kernel
theorem dX2_nameNewcomer_36 : decode cX2_nameNewcomer 36 = .ok (.if_icmp .ge 38, 3) := by decide +kernel
theorem dX2_nameNewcomer_39 : decode cX2_nameNewcomer 39 = .ok (.aload_n 0, 1) := by decide +kernel
theorem dX2_nameNewcomer_40 : decode cX2_nameNewcomer 40 = .ok (.getfield 29, 3) := by decide +kernel
theorem dX2_nameNewcomer_43 : decode cX2_nameNewcomer 43 = .ok (.aload_n 0, 1) := by decide +kernel
theorem dX2_nameNewcomer_44 : decode cX2_nameNewcomer 44 = .ok (.getfield 53, 3) := by decide +kernel
theorem dX2_nameNewcomer_47 : decode cX2_nameNewcomer 47 = .ok (.iload_n 2, 1) := by decide +kernel
theorem dX2_nameNewcomer_48 : decode cX2_nameNewcomer 48 = .ok (.iadd, 1) := by decide +kernel
theorem dX2_nameNewcomer_49 : decode cX2_nameNewcomer 49 = .ok (.aload_n 1, 1) := by decide +kernel
theorem dX2_nameNewcomer_50 : decode cX2_nameNewcomer 50 = .ok (.iload_n 2, 1) := by decide +kernel
theorem dX2_nameNewcomer_51 : decode cX2_nameNewcomer 51 = .ok (.invokevirtual 61, 3) := by decide +kernel
theorem dX2_nameNewcomer_54 : decode cX2_nameNewcomer 54 = .ok (.i2b, 1) := by decide +kernel
theorem dX2_nameNewcomer_55 : decode cX2_nameNewcomer 55 = .ok (.bastore, 1) := by decide +kernel
theorem dX2_nameNewcomer_56 : decode cX2_nameNewcomer 56 = .ok (.aload_n 0, 1) := by decide +kernel
theorem dX2_nameNewcomer_57 : decode cX2_nameNewcomer 57 = .ok (.getfield 26, 3) := by decide +kernel
theorem dX2_nameNewcomer_60 : decode cX2_nameNewcomer 60 = .ok (.aload_n 0, 1) := by decide +kernel
theorem dX2_nameNewcomer_61 : decode cX2_nameNewcomer 61 = .ok (.getfield 50, 3) := by decide +kernel
theorem dX2_nameNewcomer_64 : decode cX2_nameNewcomer 64 = .ok (.iload_n 2, 1) := by decide +kernel
theorem dX2_nameNewcomer_65 : decode cX2_nameNewcomer 65 = .ok (.iconst 1, 1) := by decide +kernel
theorem dX2_nameNewcomer_66 : decode cX2_nameNewcomer 66 = .ok (.iadd, 1) := by decide +kernel
theorem dX2_nameNewcomer_67 : decode cX2_nameNewcomer 67 = .ok (.iastore, 1) := by decide +kernel
theorem dX2_nameNewcomer_68 : decode cX2_nameNewcomer 68 = .ok (.iinc 2 1, 3) := by decide +kernel
theorem dX2_nameNewcomer_71 : decode cX2_nameNewcomer 71 = .ok (.goto (-58), 3) := by decide +kernel
theorem dX2_nameNewcomer_74 : decode cX2_nameNewcomer 74 = .ok (.return_, 1) := by decide +kernel
theorem dX2_describeNewcomer_0 : decode cX2_describeNewcomer 0 = .ok (.aload_n 0, 1) := by decide +kernel
theorem dX2_describeNewcomer_1 : decode cX2_describeNewcomer 1 = .ok (.getfield 50, 3) := by decide +kernel
theorem dX2_describeNewcomer_4 : decode cX2_describeNewcomer 4 = .ok (.sipush 2000, 3) := by decide +kernel
theorem dX2_describeNewcomer_7 : decode cX2_describeNewcomer 7 = .ok (.if_icmp .lt 4, 3) := by decide +kernel
theorem dX2_describeNewcomer_10 : decode cX2_describeNewcomer 10 = .ok (.return_, 1) := by decide +kernel
theorem dX2_describeNewcomer_11 : decode cX2_describeNewcomer 11 = .ok (.aload_n 0, 1) := by decide +kernel
theorem dX2_describeNewcomer_12 : decode cX2_describeNewcomer 12 = .ok (.getfield 13, 3) := by decide +kernel
theorem dX2_describeNewcomer_15 : decode cX2_describeNewcomer 15 = .ok (.aload_n 0, 1) := by decide +kernel
theorem dX2_describeNewcomer_16 : decode cX2_describeNewcomer 16 = .ok (.getfield 50, 3) := by decide +kernel
theorem dX2_describeNewcomer_19 : decode cX2_describeNewcomer 19 = .ok (.iload_n 1, 1) := by decide +kernel
theorem dX2_describeNewcomer_20 : decode cX2_describeNewcomer 20 = .ok (.iastore, 1) := by decide +kernel
theorem dX2_describeNewcomer_21 : decode cX2_describeNewcomer 21 = .ok (.aload_n 0, 1) := by decide +kernel
theorem dX2_describeNewcomer_22 : decode cX2_describeNewcomer 22 = .ok (.getfield 17, 3) := by decide +kernel
theorem dX2_describeNewcomer_25 : decode cX2_describeNewcomer 25 = .ok (.aload_n 0, 1) := by decide +kernel
theorem dX2_describeNewcomer_26 : decode cX2_describeNewcomer 26 = .ok (.getfield 50, 3) := by decide +kernel
theorem dX2_describeNewcomer_29 : decode cX2_describeNewcomer 29 = .ok (.iload_n 2, 1) := by decide +kernel
theorem dX2_describeNewcomer_30 : decode cX2_describeNewcomer 30 = .ok (.iastore, 1) := by decide +kernel
theorem dX2_describeNewcomer_31 : decode cX2_describeNewcomer 31 = .ok (.aload_n 0, 1) := by decide +kernel
theorem dX2_describeNewcomer_32 : decode cX2_describeNewcomer 32 = .ok (.getfield 20, 3) := by decide +kernel
theorem dX2_describeNewcomer_35 : decode cX2_describeNewcomer 35 = .ok (.aload_n 0, 1) := by decide +kernel
theorem dX2_describeNewcomer_36 : decode cX2_describeNewcomer 36 = .ok (.getfield 50, 3) := by decide +kernel
theorem dX2_describeNewcomer_39 : decode cX2_describeNewcomer 39 = .ok (.iload_n 3, 1) := by decide +kernel
theorem dX2_describeNewcomer_40 : decode cX2_describeNewcomer 40 = .ok (.iastore, 1) := by decide +kernel
theorem dX2_describeNewcomer_41 : decode cX2_describeNewcomer 41 = .ok (.return_, 1) := by decide +kernel
set_option maxRecDepth 20000 in
theorem ggX2_hasLikeOfNewcomer_X2_hasNewcomersName : GoodIn wsX2_hasLikeOfNewcomer wsX2_hasNewcomersName := goodIn_r _ [8, 2, 1, 9, 10, 11, 7, 12, 13, 14, 15, 16, 17, 18, 19, 20, 21, 22, 23, 24, 25, 26, 27] (by decide +kernel) (by decide +kernel)
set_option maxRecDepth 20000 in
theorem gX2_hasLikeOfNewcomer_X2_hasNewcomersName : GoodIn wsX2_hasLikeOfNewcomer (wsV RX2 65 RX2 yX2_hasNewcomersName wsX2_hasNewcomersName) := goodIn_app (goodIn_of _ (by decide +kernel)) ggX2_hasLikeOfNewcomer_X2_hasNewcomersName
theorem dX2_hasLikeOfNewcomer_0 : decode cX2_hasLikeOfNewcomer 0 = .ok (.aload_n 0, 1) := by decide +kernel
theorem dX2_hasLikeOfNewcomer_1 : decode cX2_hasLikeOfNewcomer 1 = .ok (.getfield 50, 3) := by decide +kernel
theorem dX2_hasLikeOfNewcomer_4 : decode cX2_hasLikeOfNewcomer 4 = .ok (.sipush 2000, 3) := by decide +kernel
theorem dX2_hasLikeOfNewcomer_7 : decode cX2_hasLikeOfNewcomer 7 = .ok (.if_icmp .lt 5, 3) := by decide +kernel
theorem dX2_hasLikeOfNewcomer_10 : decode cX2_hasLikeOfNewcomer 10 = .ok (.iconst 0, 1) := by decide +kernel
theorem dX2_hasLikeOfNewcomer_11 : decode cX2_hasLikeOfNewcomer 11 = .ok (.ireturn, 1) := by decide +kernel
theorem dX2_hasLikeOfNewcomer_12 : decode cX2_hasLikeOfNewcomer 12 = .ok (.aload_n 0, 1) := by decide +kernel
theorem dX2_hasLikeOfNewcomer_13 : decode cX2_hasLikeOfNewcomer 13 = .ok (.getfield 26, 3) := by decide +kernel
theorem dX2_hasLikeOfNewcomer_16 : decode cX2_hasLikeOfNewcomer 16 = .ok (.aload_n 0, 1) := by decide +kernel
theorem dX2_hasLikeOfNewcomer_17 : decode cX2_hasLikeOfNewcomer 17 = .ok (.getfield 50, 3) := by decide +kernel
theorem dX2_hasLikeOfNewcomer_20 : decode cX2_hasLikeOfNewcomer 20 = .ok (.iaload, 1) := by decide +kernel
theorem dX2_hasLikeOfNewcomer_21 : decode cX2_hasLikeOfNewcomer 21 = .ok (.ifCond .eq 16, 3) := by decide +kernel
theorem dX2_hasLikeOfNewcomer_24 : decode cX2_hasLikeOfNewcomer 24 = .ok (.aload_n 0, 1) := by decide +kernel
theorem dX2_hasLikeOfNewcomer_25 : decode cX2_hasLikeOfNewcomer 25 = .ok (.getfield 17, 3) := by decide +kernel
theorem dX2_hasLikeOfNewcomer_28 : decode cX2_hasLikeOfNewcomer 28 = .ok (.aload_n 0, 1) := by decide +kernel
theorem dX2_hasLikeOfNewcomer_29 : decode cX2_hasLikeOfNewcomer 29 = .ok (.getfield 50, 3) := by decide +kernel
theorem dX2_hasLikeOfNewcomer_32 : decode cX2_hasLikeOfNewcomer 32 = .ok (.iaload, 1) := by decide +kernel
theorem dX2_hasLikeOfNewcomer_33 : decode cX2_hasLikeOfNewcomer 33 = .ok (.iconst (-1), 1) := by decide +kernel
theorem dX2_hasLikeOfNewcomer_34 : decode cX2_hasLikeOfNewcomer 34 = .ok (.if_icmp .ne 5, 3) := by decide +kernel
theorem dX2_hasLikeOfNewcomer_37 : decode cX2_hasLikeOfNewcomer 37 = .ok (.iconst 0, 1) := by decide +kernel
theorem dX2_hasLikeOfNewcomer_38 : decode cX2_hasLikeOfNewcomer 38 = .ok (.ireturn, 1) := by decide +kernel
theorem dX2_hasLikeOfNewcomer_39 : decode cX2_hasLikeOfNewcomer 39 = .ok (.iconst 0, 1) := by decide +kernel
theorem dX2_hasLikeOfNewcomer_40 : decode cX2_hasLikeOfNewcomer 40 = .ok (.istore_n 1, 1) := by decide +kernel
theorem dX2_hasLikeOfNewcomer_41 : decode cX2_hasLikeOfNewcomer 41 = .ok (.iload_n 1, 1) := by decide +kernel
theorem dX2_hasLikeOfNewcomer_42 : decode cX2_hasLikeOfNewcomer 42 = .ok (.aload_n 0, 1) := by decide +kernel
theorem dX2_hasLikeOfNewcomer_43 : decode cX2_hasLikeOfNewcomer 43 = .ok (.getfield 50, 3) := by decide +kernel
theorem dX2_hasLikeOfNewcomer_46 : decode cX2_hasLikeOfNewcomer 46 = .ok (.if_icmp .ge 37, 3) := by decide +kernel
theorem dX2_hasLikeOfNewcomer_49 : decode cX2_hasLikeOfNewcomer 49 = .ok (.aload_n 0, 1) := by decide +kernel
theorem dX2_hasLikeOfNewcomer_50 : decode cX2_hasLikeOfNewcomer 50 = .ok (.getfield 17, 3) := by decide +kernel
theorem dX2_hasLikeOfNewcomer_53 : decode cX2_hasLikeOfNewcomer 53 = .ok (.iload_n 1, 1) := by decide +kernel
theorem dX2_hasLikeOfNewcomer_54 : decode cX2_hasLikeOfNewcomer 54 = .ok (.iaload, 1) := by decide +kernel
theorem dX2_hasLikeOfNewcomer_55 : decode cX2_hasLikeOfNewcomer 55 = .ok (.aload_n 0, 1) := by decide +kernel
theorem dX2_hasLikeOfNewcomer_56 : decode cX2_hasLikeOfNewcomer 56 = .ok (.getfield 17, 3) := by decide +kernel
theorem dX2_hasLikeOfNewcomer_59 : decode cX2_hasLikeOfNewcomer 59 = .ok (.aload_n 0, 1) := by decide +kernel
theorem dX2_hasLikeOfNewcomer_60 : decode cX2_hasLikeOfNewcomer 60 = .ok (.getfield 50, 3) := by decide +kernel
theorem dX2_hasLikeOfNewcomer_63 : decode cX2_hasLikeOfNewcomer 63 = .ok (.iaload, 1) := by decide +kernel
theorem dX2_hasLikeOfNewcomer_64 : decode cX2_hasLikeOfNewcomer 64 = .ok (.if_icmp .ne 13, 3) := by decide +kernel
theorem dX2_hasLikeOfNewcomer_67 : decode cX2_hasLikeOfNewcomer 67 = .ok (.aload_n 0, 1) := by decide +kernel
theorem dX2_hasLikeOfNewcomer_68 : decode cX2_hasLikeOfNewcomer 68 = .ok (.iload_n 1, 1) := by decide +kernel
theorem dX2_hasLikeOfNewcomer_69 : decode cX2_hasLikeOfNewcomer 69 = .ok (.invokevirtual 65, 3) := by decide +kernel
theorem dX2_hasLikeOfNewcomer_72 : decode cX2_hasLikeOfNewcomer 72 = .ok (.ifCond .eq 5, 3) := by decide +kernel
theorem dX2_hasLikeOfNewcomer_75 : decode cX2_hasLikeOfNewcomer 75 = .ok (.iconst 1, 1) := by decide +kernel
theorem dX2_hasLikeOfNewcomer_76 : decode cX2_hasLikeOfNewcomer 76 = .ok (.ireturn, 1) := by decide +kernel
theorem dX2_hasLikeOfNewcomer_77 : decode cX2_hasLikeOfNewcomer 77 = .ok (.iinc 1 1, 3) := by decide +kernel
theorem dX2_hasLikeOfNewcomer_80 : decode cX2_hasLikeOfNewcomer 80 = .ok (.goto (-39), 3) := by decide +kernel
theorem dX2_hasLikeOfNewcomer_83 : decode cX2_hasLikeOfNewcomer 83 = .ok (.iconst 0, 1) := by decide +kernel
theorem dX2_hasLikeOfNewcomer_84 : decode cX2_hasLikeOfNewcomer 84 = .ok (.ireturn, 1) := by decide +kernel
set_option maxRecDepth 20000 in
theorem ggX2_hasNewcomersName_X2_signOf : GoodIn wsX2_hasNewcomersName wsX2_signOf := goodIn_r _ [7, 1, 8, 9, 10, 11, 12, 13, 14, 15, 16, 17, 18, 19, 20, 21, 22] (by decide +kernel) (by decide +kernel)
set_option maxRecDepth 20000 in
theorem gX2_hasNewcomersName_X2_signOf : GoodIn wsX2_hasNewcomersName (wsV RX2 69 RX2 yX2_signOf wsX2_signOf) := goodIn_app (goodIn_of _ (by decide +kernel)) ggX2_hasNewcomersName_X2_signOf
theorem dX2_hasNewcomersName_0 : decode cX2_hasNewcomersName 0 = .ok (.aload_n 0, 1) := by decide +kernel
theorem dX2_hasNewcomersName_1 : decode cX2_hasNewcomersName 1 = .ok (.getfield 26, 3) := by decide +kernel
theorem dX2_hasNewcomersName_4 : decode cX2_hasNewcomersName 4 = .ok (.iload_n 1, 1) := by decide +kernel
theorem dX2_hasNewcomersName_5 : decode cX2_hasNewcomersName 5 = .ok (.iaload, 1) := by decide +kernel
theorem dX2_hasNewcomersName_6 : decode cX2_hasNewcomersName 6 = .ok (.aload_n 0, 1) := by decide +kernel
theorem dX2_hasNewcomersName_7 : decode cX2_hasNewcomersName 7 = .ok (.getfield 26, 3) := by decide +kernel
theorem dX2_hasNewcomersName_10 : decode cX2_hasNewcomersName 10 = .ok (.aload_n 0, 1) := by decide +kernel
theorem dX2_hasNewcomersName_11 : decode cX2_hasNewcomersName 11 = .ok (.getfield 50, 3) := by decide +kernel
theorem dX2_hasNewcomersName_14 : decode cX2_hasNewcomersName 14 = .ok (.iaload, 1) := by decide +kernel
theorem dX2_hasNewcomersName_15 : decode cX2_hasNewcomersName 15 = .ok (.if_icmp .eq 5, 3) := by decide +kernel
theorem dX2_hasNewcomersName_18 : decode cX2_hasNewcomersName 18 = .ok (.iconst 0, 1) := by decide +kernel
theorem dX2_hasNewcomersName_19 : decode cX2_hasNewcomersName 19 = .ok (.ireturn, 1) := by decide +kernel
theorem dX2_hasNewcomersName_20 : decode cX2_hasNewcomersName 20 = .ok (.iconst 0, 1) := by decide +kernel
theorem dX2_hasNewcomersName_21 : decode cX2_hasNewcomersName 21 = .ok (.istore_n 2, 1) := by decide +kernel
theorem dX2_hasNewcomersName_22 : decode cX2_hasNewcomersName 22 = .ok (.iload_n 2, 1) := by decide +kernel
theorem dX2_hasNewcomersName_23 : decode cX2_hasNewcomersName 23 = .ok (.aload_n 0, 1) := by decide +kernel
theorem dX2_hasNewcomersName_24 : decode cX2_hasNewcomersName 24 = .ok (.getfield 26, 3) := by decide +kernel
theorem dX2_hasNewcomersName_27 : decode cX2_hasNewcomersName 27 = .ok (.iload_n 1, 1) := by decide +kernel
theorem dX2_hasNewcomersName_28 : decode cX2_hasNewcomersName 28 = .ok (.iaload, 1) := by decide +kernel
theorem dX2_hasNewcomersName_29 : decode cX2_hasNewcomersName 29 = .ok (.if_icmp .ge 29, 3) := by decide +kernel
theorem dX2_hasNewcomersName_32 : decode cX2_hasNewcomersName 32 = .ok (.aload_n 0, 1) := by decide +kernel
theorem dX2_hasNewcomersName_33 : decode cX2_hasNewcomersName 33 = .ok (.iload_n 1, 1) := by decide +kernel
theorem dX2_hasNewcomersName_34 : decode cX2_hasNewcomersName 34 = .ok (.iload_n 2, 1) := by decide +kernel
theorem dX2_hasNewcomersName_35 : decode cX2_hasNewcomersName 35 = .ok (.invokevirtual 69, 3) := by decide +kernel
theorem dX2_hasNewcomersName_38 : decode cX2_hasNewcomersName 38 = .ok (.aload_n 0, 1) := by decide +kernel
theorem dX2_hasNewcomersName_39 : decode cX2_hasNewcomersName 39 = .ok (.aload_n 0, 1) := by decide +kernel
theorem dX2_hasNewcomersName_40 : decode cX2_hasNewcomersName 40 = .ok (.getfield 50, 3) := by decide +kernel
theorem dX2_hasNewcomersName_43 : decode cX2_hasNewcomersName 43 = .ok (.iload_n 2, 1) := by decide +kernel
theorem dX2_hasNewcomersName_44 : decode cX2_hasNewcomersName 44 = .ok (.invokevirtual 69, 3) := by decide +kernel
theorem dX2_hasNewcomersName_47 : decode cX2_hasNewcomersName 47 = .ok (.if_icmp .eq 5, 3) := by decide +kernel
theorem dX2_hasNewcomersName_50 : decode cX2_hasNewcomersName 50 = .ok (.iconst 0, 1) := by decide +kernel
theorem dX2_hasNewcomersName_51 : decode cX2_hasNewcomersName 51 = .ok (.ireturn, 1) := by decide +kernel
theorem dX2_hasNewcomersName_52 : decode cX2_hasNewcomersName 52 = .ok (.iinc 2 1, 3) := by decide +kernel
theorem dX2_hasNewcomersName_55 : decode cX2_hasNewcomersName 55 = .ok (.goto (-33), 3) := by decide +kernel
theorem dX2_hasNewcomersName_58 : decode cX2_hasNewcomersName 58 = .ok (.iconst 1, 1) := by decide +kernel
theorem dX2_hasNewcomersName_59 : decode cX2_hasNewcomersName 59 = .ok (.ireturn, 1) := by decide +kernel
theorem dX2_takeNewcomer_0 : decode cX2_takeNewcomer 0 = .ok (.aload_n 0, 1) := by decide +kernel
theorem dX2_takeNewcomer_1 : decode cX2_takeNewcomer 1 = .ok (.getfield 50, 3) := by decide +kernel
theorem dX2_takeNewcomer_4 : decode cX2_takeNewcomer 4 = .ok (.sipush 2000, 3) := by decide +kernel
theorem dX2_takeNewcomer_7 : decode cX2_takeNewcomer 7 = .ok (.if_icmp .lt 4, 3) := by decide +kernel
theorem dX2_takeNewcomer_10 : decode cX2_takeNewcomer 10 = .ok (.return_, 1) := by decide +kernel
theorem dX2_takeNewcomer_11 : decode cX2_takeNewcomer 11 = .ok (.aload_n 0, 1) := by decide +kernel
theorem dX2_takeNewcomer_12 : decode cX2_takeNewcomer 12 = .ok (.dup, 1) := by decide +kernel
theorem dX2_takeNewcomer_13 : decode cX2_takeNewcomer 13 = .ok (.getfield 53, 3) := by decide +kernel
theorem dX2_takeNewcomer_16 : decode cX2_takeNewcomer 16 = .ok (.aload_n 0, 1) := by decide +kernel
theorem dX2_takeNewcomer_17 : decode cX2_takeNewcomer 17 = .ok (.getfield 26, 3) := by decide +kernel
theorem dX2_takeNewcomer_20 : decode cX2_takeNewcomer 20 = .ok (.aload_n 0, 1) := by decide +kernel
theorem dX2_takeNewcomer_21 : decode cX2_takeNewcomer 21 = .ok (.getfield 50, 3) := by decide +kernel
theorem dX2_takeNewcomer_24 : decode cX2_takeNewcomer 24 = .ok (.iaload, 1) := by decide +kernel
theorem dX2_takeNewcomer_25 : decode cX2_takeNewcomer 25 = .ok (.iadd, 1) := by decide +kernel
theorem dX2_takeNewcomer_26 : decode cX2_takeNewcomer 26 = .ok (.putfield 53, 3) := by decide +kernel
theorem dX2_takeNewcomer_29 : decode cX2_takeNewcomer 29 = .ok (.aload_n 0, 1) := by decide +kernel
theorem dX2_takeNewcomer_30 : decode cX2_takeNewcomer 30 = .ok (.dup, 1) := by decide +kernel
theorem dX2_takeNewcomer_31 : decode cX2_takeNewcomer 31 = .ok (.getfield 50, 3) := by decide +kernel
theorem dX2_takeNewcomer_34 : decode cX2_takeNewcomer 34 = .ok (.iconst 1, 1) := by decide +kernel
theorem dX2_takeNewcomer_35 : decode cX2_takeNewcomer 35 = .ok (.iadd, 1) := by decide +kernel
theorem dX2_takeNewcomer_36 : decode cX2_takeNewcomer 36 = .ok (.putfield 50, 3) := by decide +kernel
theorem dX2_takeNewcomer_39 : decode cX2_takeNewcomer 39 = .ok (.return_, 1) := by decide +kernel
theorem dX2_signOf_0 : decode cX2_signOf 0 = .ok (.iload_n 1, 1) := by decide +kernel
theorem dX2_signOf_1 : decode cX2_signOf 1 = .ok (.ifCond .lt 24, 3) := by decide +kernel
theorem dX2_signOf_4 : decode cX2_signOf 4 = .ok (.iload_n 1, 1) := by decide +kernel
theorem dX2_signOf_5 : decode cX2_signOf 5 = .ok (.sipush 2000, 3) := by decide +kernel
theorem dX2_signOf_8 : decode cX2_signOf 8 = .ok (.if_icmp .ge 17, 3) := by decide +kernel
theorem dX2_signOf_11 : decode cX2_signOf 11 = .ok (.iload_n 2, 1) := by decide +kernel
theorem dX2_signOf_12 : decode cX2_signOf 12 = .ok (.ifCond .lt 13, 3) := by decide +kernel
theorem dX2_signOf_15 : decode cX2_signOf 15 = .ok (.iload_n 2, 1) := by decide +kernel
theorem dX2_signOf_16 : decode cX2_signOf 16 = .ok (.aload_n 0, 1) := by decide +kernel
theorem dX2_signOf_17 : decode cX2_signOf 17 = .ok (.getfield 26, 3) := by decide +kernel
theorem dX2_signOf_20 : decode cX2_signOf 20 = .ok (.iload_n 1, 1) := by decide +kernel
theorem dX2_signOf_21 : decode cX2_signOf 21 = .ok (.iaload, 1) := by decide +kernel
theorem dX2_signOf_22 : decode cX2_signOf 22 = .ok (.if_icmp .lt 5, 3) := by decide +kernel
theorem dX2_signOf_25 : decode cX2_signOf 25 = .ok (.iconst 0, 1) := by decide +kernel
theorem dX2_signOf_26 : decode cX2_signOf 26 = .ok (.ireturn, 1) := by decide +kernel
theorem dX2_signOf_27 : decode cX2_signOf 27 = .ok (.aload_n 0, 1) := by decide +kernel
theorem dX2_signOf_28 : decode cX2_signOf 28 = .ok (.getfield 23, 3) := by decide +kernel
theorem dX2_signOf_31 : decode cX2_signOf 31 = .ok (.iload_n 1, 1) := by decide +kernel
theorem dX2_signOf_32 : decode cX2_signOf 32 = .ok (.iaload, 1) := by decide +kernel
theorem dX2_signOf_33 : decode cX2_signOf 33 = .ok (.iload_n 2, 1) := by decide +kernel
theorem dX2_signOf_34 : decode cX2_signOf 34 = .ok (.iadd, 1) := by decide +kernel
theorem dX2_signOf_35 : decode cX2_signOf 35 = .ok (.istore_n 3, 1) := by decide +kernel
theorem dX2_signOf_36 : decode cX2_signOf 36 = .ok (.iload_n 3, 1) := by decide +kernel
theorem dX2_signOf_37 : decode cX2_signOf 37 = .ok (.ifCond .lt 23, 3) := by decide +kernel
theorem dX2_signOf_40 : decode cX2_signOf 40 = .ok (.iload_n 3, 1) := by decide +kernel
theorem dX2_signOf_41 : decode cX2_signOf 41 = .ok (.sipush 4000, 3) := by decide +kernel
theorem dX2_signOf_44 : decode cX2_signOf 44 = .ok (.if_icmp .ge 16, 3) := by decide +kernel
theorem dX2_signOf_47 : decode cX2_signOf 47 = .ok (.aload_n 0, 1) := by decide +kernel
theorem dX2_signOf_48 : decode cX2_signOf 48 = .ok (.getfield 29, 3) := by decide +kernel
theorem dX2_signOf_51 : decode cX2_signOf 51 = .ok (.iload_n 3, 1) := by decide +kernel
theorem dX2_signOf_52 : decode cX2_signOf 52 = .ok (.baload, 1) := by decide +kernel
theorem dX2_signOf_53 : decode cX2_signOf 53 = .ok (.sipush 255, 3) := by decide +kernel
theorem dX2_signOf_56 : decode cX2_signOf 56 = .ok (.iand, 1) := by decide +kernel
theorem dX2_signOf_57 : decode cX2_signOf 57 = .ok (.goto 4, 3) := by decide +kernel
theorem dX2_signOf_60 : decode cX2_signOf 60 = .ok (.iconst 0, 1) := by decide +kernel
theorem dX2_signOf_61 : decode cX2_signOf 61 = .ok (.ireturn, 1) := by decide +kernel
theorem dX3_init_0 : decode cX3_init 0 = .ok (.aload_n 0, 1) := by decide +kernel
theorem dX3_init_1 : decode cX3_init 1 = .ok (.invokespecial 3, 3) := by decide +kernel
theorem dX3_init_4 : decode cX3_init 4 = .ok (.aload_n 0, 1) := by decide +kernel
theorem dX3_init_5 : decode cX3_init 5 = .ok (.iconst 5, 1) := by decide +kernel
theorem dX3_init_6 : decode cX3_init 6 = .ok (.newarray .int, 2) := by decide +kernel
theorem dX3_init_8 : decode cX3_init 8 = .ok (.putfield 11, 3) := by decide +kernel
theorem dX3_init_11 : decode cX3_init 11 = .ok (.aload_n 0, 1) := by decide +kernel
theorem dX3_init_12 : decode cX3_init 12 = .ok (.iconst 5, 1) := by decide +kernel
theorem dX3_init_13 : decode cX3_init 13 = .ok (.newarray .int, 2) := by decide +kernel
theorem dX3_init_15 : decode cX3_init 15 = .ok (.putfield 15, 3) := by decide +kernel
theorem dX3_init_18 : decode cX3_init 18 = .ok (.return_, 1) := by decide +kernel
set_option maxRecDepth 20000 in
theorem ggX3_find_X7_lineEnd : GoodIn wsX3_find wsX7_lineEnd := goodIn_r _ [12, 13, 14, 15, 16, 11, 17, 18, 32, 33] (by decide +kernel) (by decide +kernel)
set_option maxRecDepth 20000 in
theorem gX3_find_X7_lineEnd : GoodIn wsX3_find (wsV RX3 22 RX7 yX7_lineEnd wsX7_lineEnd) := goodIn_app (goodIn_of _ (by decide +kernel)) ggX3_find_X7_lineEnd
set_option maxRecDepth 20000 in
theorem ggX3_find_X7_at : GoodIn wsX3_find wsX7_at := goodIn_r _ [17, 13, 18, 32, 33] (by decide +kernel) (by decide +kernel)
set_option maxRecDepth 20000 in
theorem gX3_find_X7_at : GoodIn wsX3_find (wsV RX3 37 RX7 yX7_at wsX7_at) := goodIn_app (goodIn_of _ (by decide +kernel)) ggX3_find_X7_at
set_option maxRecDepth 20000 in
theorem ggX3_find_X3_addCell : GoodIn wsX3_find wsX3_addCell := goodIn_r _ [24, 5, 6, 7, 25, 26, 27, 28, 29, 30, 31] (by decide +kernel) (by decide +kernel)
set_option maxRecDepth 20000 in
theorem gX3_find_X3_addCell : GoodIn wsX3_find (wsV RX3 46 RX3 yX3_addCell wsX3_addCell) := goodIn_app (goodIn_of _ (by decide +kernel)) ggX3_find_X3_addCell
theorem dX3_find_0 : decode cX3_find 0 = .ok (.aload_n 0, 1) := by decide +kernel
theorem dX3_find_1 : decode cX3_find 1 = .ok (.iload_n 2, 1) := by decide +kernel
theorem dX3_find_2 : decode cX3_find 2 = .ok (.putfield 18, 3) := by decide +kernel
theorem dX3_find_5 : decode cX3_find 5 = .ok (.aload_n 0, 1) := by decide +kernel
theorem dX3_find_6 : decode cX3_find 6 = .ok (.aload_n 1, 1) := by decide +kernel
theorem dX3_find_7 : decode cX3_find 7 = .ok (.iload_n 2, 1) := by decide +kernel
theorem dX3_find_8 : decode cX3_find 8 = .ok (.invokevirtual 22, 3) := by decide +kernel
theorem dX3_find_11 : decode cX3_find 11 = .ok (.putfield 28, 3) := by decide +kernel
theorem dX3_find_14 : decode cX3_find 14 = .ok (.aload_n 0, 1) := by decide +kernel
theorem dX3_find_15 : decode cX3_find 15 = .ok (.aload_n 0, 1) := by decide +kernel
theorem dX3_find_16 : decode cX3_find 16 = .ok (.getfield 28, 3) := by decide +kernel
theorem dX3_find_19 : decode cX3_find 19 = .ok (.aload_n 1, 1) := by decide +kernel
theorem dX3_find_20 : decode cX3_find 20 = .ok (.getfield 31, 3) := by decide +kernel
theorem dX3_find_23 : decode cX3_find 23 = .ok (.if_icmp .ge 12, 3) := by decide +kernel
theorem dX3_find_26 : decode cX3_find 26 = .ok (.aload_n 0, 1) := by decide +kernel
theorem dX3_find_27 : decode cX3_find 27 = .ok (.getfield 28, 3) := by decide +kernel
theorem dX3_find_30 : decode cX3_find 30 = .ok (.iconst 1, 1) := by decide +kernel
theorem dX3_find_31 : decode cX3_find 31 = .ok (.iadd, 1) := by decide +kernel
theorem dX3_find_32 : decode cX3_find 32 = .ok (.goto 7, 3) := by decide +kernel
theorem dX3_find_35 : decode cX3_find 35 = .ok (.aload_n 0, 1) := by decide +kernel
theorem dX3_find_36 : decode cX3_find 36 = .ok (.getfield 28, 3) := by decide +kernel
theorem dX3_find_39 : decode cX3_find 39 = .ok (.putfield 34, 3) := by decide +kernel
theorem dX3_find_42 : decode cX3_find 42 = .ok (.aload_n 0, 1) := by decide +kernel
theorem dX3_find_43 : decode cX3_find 43 = .ok (.aload_n 1, 1) := by decide +kernel
theorem dX3_find_44 : decode cX3_find 44 = .ok (.aload_n 0, 1) := by decide +kernel
theorem dX3_find_45 : decode cX3_find 45 = .ok (.getfield 18, 3) := by decide +kernel
theorem dX3_find_48 : decode cX3_find 48 = .ok (.invokevirtual 37, 3) := by decide +kernel
theorem dX3_find_51 : decode cX3_find 51 = .ok (.putfield 40, 3) := by decide +kernel
theorem dX3_find_54 : decode cX3_find 54 = .ok (.aload_n 0, 1) := by decide +kernel
theorem dX3_find_55 : decode cX3_find 55 = .ok (.iconst 0, 1) := by decide +kernel
theorem dX3_find_56 : decode cX3_find 56 = .ok (.putfield 43, 3) := by decide +kernel
theorem dX3_find_59 : decode cX3_find 59 = .ok (.aload_n 0, 1) := by decide +kernel
theorem dX3_find_60 : decode cX3_find 60 = .ok (.getfield 18, 3) := by decide +kernel
theorem dX3_find_63 : decode cX3_find 63 = .ok (.istore_n 3, 1) := by decide +kernel
theorem dX3_find_64 : decode cX3_find 64 = .ok (.aload_n 0, 1) := by decide +kernel
theorem dX3_find_65 : decode cX3_find 65 = .ok (.getfield 18, 3) := by decide +kernel
theorem dX3_find_68 : decode cX3_find 68 = .ok (.istore 4, 2) := by decide +kernel
theorem dX3_find_70 : decode cX3_find 70 = .ok (.iload 4, 2) := by decide +kernel
theorem dX3_find_72 : decode cX3_find 72 = .ok (.aload_n 0, 1) := by decide +kernel
theorem dX3_find_73 : decode cX3_find 73 = .ok (.getfield 28, 3) := by decide +kernel
theorem dX3_find_76 : decode cX3_find 76 = .ok (.if_icmp .gt 41, 3) := by decide +kernel
theorem dX3_find_79 : decode cX3_find 79 = .ok (.iload 4, 2) := by decide +kernel
theorem dX3_find_81 : decode cX3_find 81 = .ok (.aload_n 0, 1) := by decide +kernel
theorem dX3_find_82 : decode cX3_find 82 = .ok (.getfield 28, 3) := by decide +kernel
theorem dX3_find_85 : decode cX3_find 85 = .ok (.if_icmp .eq 14, 3) := by decide +kernel
theorem dX3_find_88 : decode cX3_find 88 = .ok (.aload_n 1, 1) := by decide +kernel
theorem dX3_find_89 : decode cX3_find 89 = .ok (.iload 4, 2) := by decide +kernel
theorem dX3_find_91 : decode cX3_find 91 = .ok (.invokevirtual 37, 3) := by decide +kernel
theorem dX3_find_94 : decode cX3_find 94 = .ok (.bipush 124, 2) := by decide +kernel
theorem dX3_find_96 : decode cX3_find 96 = .ok (.if_icmp .ne 15, 3) := by decide +kernel
theorem dX3_find_99 : decode cX3_find 99 = .ok (.aload_n 0, 1) := by decide +kernel
theorem dX3_find_100 : decode cX3_find 100 = .ok (.iload_n 3, 1) := by decide +kernel
theorem dX3_find_101 : decode cX3_find 101 = .ok (.iload 4, 2) := by decide +kernel
theorem dX3_find_103 : decode cX3_find 103 = .ok (.invokevirtual 46, 3) := by decide +kernel
theorem dX3_find_106 : decode cX3_find 106 = .ok (.iload 4, 2) := by decide +kernel
theorem dX3_find_108 : decode cX3_find 108 = .ok (.iconst 1, 1) := by decide +kernel
theorem dX3_find_109 : decode cX3_find 109 = .ok (.iadd, 1) := by decide +kernel
theorem dX3_find_110 : decode cX3_find 110 = .ok (.istore_n 3, 1) := by decide +kernel
theorem dX3_find_111 : decode cX3_find 111 = .ok (.iinc 4 1, 3) := by decide +kernel
theorem dX3_find_114 : decode cX3_find 114 = .ok (.goto (-44), 3) := by decide +kernel
theorem dX3_find_117 : decode cX3_find 117 = .ok (.aload_n 0, 1) := by decide +kernel
theorem dX3_find_118 : decode cX3_find 118 = .ok (.getfield 43, 3) := by decide +kernel
theorem dX3_find_121 : decode cX3_find 121 = .ok (.istore 4, 2) := by decide +kernel
theorem dX3_find_123 : decode cX3_find 123 = .ok (.iload 4, 2) := by decide +kernel
theorem dX3_find_125 : decode cX3_find 125 = .ok (.iconst 5, 1) := by decide +kernel
theorem dX3_find_126 : decode cX3_find 126 = .ok (.if_icmp .ge 31, 3) := by decide +kernel
theorem dX3_find_129 : decode cX3_find 129 = .ok (.aload_n 0, 1) := by decide +kernel
theorem dX3_find_130 : decode cX3_find 130 = .ok (.getfield 11, 3) := by decide +kernel
theorem dX3_find_133 : decode cX3_find 133 = .ok (.iload 4, 2) := by decide +kernel
theorem dX3_find_135 : decode cX3_find 135 = .ok (.aload_n 0, 1) := by decide +kernel
theorem dX3_find_136 : decode cX3_find 136 = .ok (.getfield 28, 3) := by decide +kernel
theorem dX3_find_139 : decode cX3_find 139 = .ok (.iastore, 1) := by decide +kernel
theorem dX3_find_140 : decode cX3_find 140 = .ok (.aload_n 0, 1) := by decide +kernel
theorem dX3_find_141 : decode cX3_find 141 = .ok (.getfield 15, 3) := by decide +kernel
theorem dX3_find_144 : decode cX3_find 144 = .ok (.iload 4, 2) := by decide +kernel
theorem dX3_find_146 : decode cX3_find 146 = .ok (.aload_n 0, 1) := by decide +kernel
theorem dX3_find_147 : decode cX3_find 147 = .ok (.getfield 28, 3) := by decide +kernel
theorem dX3_find_150 : decode cX3_find 150 = .ok (.iastore, 1) := by decide +kernel
theorem dX3_find_151 : decode cX3_find 151 = .ok (.iinc 4 1, 3) := by decide +kernel
theorem dX3_find_154 : decode cX3_find 154 = .ok (.goto (-31), 3) := by decide +kernel
theorem dX3_find_157 : decode cX3_find 157 = .ok (.return_, 1) := by decide +kernel
theorem dX3_addCell_0 : decode cX3_addCell 0 = .ok (.aload_n 0, 1) := by decide +kernel
theorem dX3_addCell_1 : decode cX3_addCell 1 = .ok (.getfield 43, 3) := by decide +kernel
theorem dX3_addCell_4 : decode cX3_addCell 4 = .ok (.iconst 5, 1) := by decide +kernel
theorem dX3_addCell_5 : decode cX3_addCell 5 = .ok (.if_icmp .ge 23, 3) := by decide +kernel
theorem dX3_addCell_8 : decode cX3_addCell 8 = .ok (.aload_n 0, 1) := by decide +kernel
theorem dX3_addCell_9 : decode cX3_addCell 9 = .ok (.getfield 11, 3) := by decide +kernel
theorem dX3_addCell_12 : decode cX3_addCell 12 = .ok (.aload_n 0, 1) := by decide +kernel
theorem dX3_addCell_13 : decode cX3_addCell 13 = .ok (.getfield 43, 3) := by decide +kernel
theorem dX3_addCell_16 : decode cX3_addCell 16 = .ok (.iload_n 1, 1) := by decide +kernel
theorem dX3_addCell_17 : decode cX3_addCell 17 = .ok (.iastore, 1) := by decide +kernel
theorem dX3_addCell_18 : decode cX3_addCell 18 = .ok (.aload_n 0, 1) := by decide +kernel
theorem dX3_addCell_19 : decode cX3_addCell 19 = .ok (.getfield 15, 3) := by decide +kernel
theorem dX3_addCell_22 : decode cX3_addCell 22 = .ok (.aload_n 0, 1) := by decide +kernel
theorem dX3_addCell_23 : decode cX3_addCell 23 = .ok (.getfield 43, 3) := by decide +kernel
theorem dX3_addCell_26 : decode cX3_addCell 26 = .ok (.iload_n 2, 1) := by decide +kernel
theorem dX3_addCell_27 : decode cX3_addCell 27 = .ok (.iastore, 1) := by decide +kernel
theorem dX3_addCell_28 : decode cX3_addCell 28 = .ok (.aload_n 0, 1) := by decide +kernel
theorem dX3_addCell_29 : decode cX3_addCell 29 = .ok (.dup, 1) := by decide +kernel
theorem dX3_addCell_30 : decode cX3_addCell 30 = .ok (.getfield 43, 3) := by decide +kernel
theorem dX3_addCell_33 : decode cX3_addCell 33 = .ok (.iconst 1, 1) := by decide +kernel
theorem dX3_addCell_34 : decode cX3_addCell 34 = .ok (.iadd, 1) := by decide +kernel
theorem dX3_addCell_35 : decode cX3_addCell 35 = .ok (.putfield 43, 3) := by decide +kernel
theorem dX3_addCell_38 : decode cX3_addCell 38 = .ok (.return_, 1) := by decide +kernel
theorem dX3_startOf_0 : decode cX3_startOf 0 = .ok (.iload_n 1, 1) := by decide +kernel
theorem dX3_startOf_1 : decode cX3_startOf 1 = .ok (.ifCond .lt 17, 3) := by decide +kernel
theorem dX3_startOf_4 : decode cX3_startOf 4 = .ok (.iload_n 1, 1) := by decide +kernel
theorem dX3_startOf_5 : decode cX3_startOf 5 = .ok (.iconst 5, 1) := by decide +kernel
theorem dX3_startOf_6 : decode cX3_startOf 6 = .ok (.if_icmp .ge 12, 3) := by decide +kernel
theorem dX3_startOf_9 : decode cX3_startOf 9 = .ok (.aload_n 0, 1) := by decide +kernel
theorem dX3_startOf_10 : decode cX3_startOf 10 = .ok (.getfield 11, 3) := by decide +kernel
theorem dX3_startOf_13 : decode cX3_startOf 13 = .ok (.iload_n 1, 1) := by decide +kernel
theorem dX3_startOf_14 : decode cX3_startOf 14 = .ok (.iaload, 1) := by decide +kernel
theorem dX3_startOf_15 : decode cX3_startOf 15 = .ok (.goto 7, 3) := by decide +kernel
theorem dX3_startOf_18 : decode cX3_startOf 18 = .ok (.aload_n 0, 1) := by decide +kernel
theorem dX3_startOf_19 : decode cX3_startOf 19 = .ok (.getfield 28, 3) := by decide +kernel
theorem dX3_startOf_22 : decode cX3_startOf 22 = .ok (.ireturn, 1) := by decide +kernel
theorem dX3_endOf_0 : decode cX3_endOf 0 = .ok (.iload_n 1, 1) := by decide +kernel
theorem dX3_endOf_1 : decode cX3_endOf 1 = .ok (.ifCond .lt 17, 3) := by decide +kernel
theorem dX3_endOf_4 : decode cX3_endOf 4 = .ok (.iload_n 1, 1) := by decide +kernel
theorem dX3_endOf_5 : decode cX3_endOf 5 = .ok (.iconst 5, 1) := by decide +kernel
theorem dX3_endOf_6 : decode cX3_endOf 6 = .ok (.if_icmp .ge 12, 3) := by decide +kernel
theorem dX3_endOf_9 : decode cX3_endOf 9 = .ok (.aload_n 0, 1) := by decide +kernel
theorem dX3_endOf_10 : decode cX3_endOf 10 = .ok (.getfield 15, 3) := by decide +kernel
theorem dX3_endOf_13 : decode cX3_endOf 13 = .ok (.iload_n 1, 1) := by decide +kernel
theorem dX3_endOf_14 : decode cX3_endOf 14 = .ok (.iaload, 1) := by decide +kernel
theorem dX3_endOf_15 : decode cX3_endOf 15 = .ok (.goto 7, 3) := by decide +kernel
theorem dX3_endOf_18 : decode cX3_endOf 18 = .ok (.aload_n 0, 1) := by decide +kernel
theorem dX3_endOf_19 : decode cX3_endOf 19 = .ok (.getfield 28, 3) := by decide +kernel
theorem dX3_endOf_22 : decode cX3_endOf 22 = .ok (.ireturn, 1) := by decide +kernel
set_option maxRecDepth 20000 in
theorem ggX3_isOdd_X3_cellsDue : GoodIn wsX3_isOdd wsX3_cellsDue := goodIn_r _ [7, 8, 16, 17, 18, 19, 20, 21, 22] (by decide +kernel) (by decide +kernel)
set_option maxRecDepth 20000 in
theorem gX3_isOdd_X3_cellsDue : GoodIn wsX3_isOdd (wsV RX3 50 RX3 yX3_cellsDue wsX3_cellsDue) := goodIn_app (goodIn_of _ (by decide +kernel)) ggX3_isOdd_X3_cellsDue
set_option maxRecDepth 20000 in
theorem ggX3_isOdd_X7_at : GoodIn wsX3_isOdd wsX7_at := goodIn_r _ [13, 14, 15, 23, 24] (by decide +kernel) (by decide +kernel)
set_option maxRecDepth 20000 in
theorem gX3_isOdd_X7_at : GoodIn wsX3_isOdd (wsV RX3 37 RX7 yX7_at wsX7_at) := goodIn_app (goodIn_of _ (by decide +kernel)) ggX3_isOdd_X7_at
theorem dX3_isOdd_0 : decode cX3_isOdd 0 = .ok (.aload_n 0, 1) := by decide +kernel
theorem dX3_isOdd_1 : decode cX3_isOdd 1 = .ok (.invokevirtual 50, 3) := by decide +kernel
theorem dX3_isOdd_4 : decode cX3_isOdd 4 = .ok (.ifCond .ne 5, 3) := by decide +kernel
theorem dX3_isOdd_7 : decode cX3_isOdd 7 = .ok (.iconst 1, 1) := by decide +kernel
theorem dX3_isOdd_8 : decode cX3_isOdd 8 = .ok (.ireturn, 1) := by decide +kernel
theorem dX3_isOdd_9 : decode cX3_isOdd 9 = .ok (.aload_n 0, 1) := by decide +kernel
theorem dX3_isOdd_10 : decode cX3_isOdd 10 = .ok (.getfield 18, 3) := by decide +kernel
theorem dX3_isOdd_13 : decode cX3_isOdd 13 = .ok (.iconst 1, 1) := by decide +kernel
theorem dX3_isOdd_14 : decode cX3_isOdd 14 = .ok (.iadd, 1) := by decide +kernel
theorem dX3_isOdd_15 : decode cX3_isOdd 15 = .ok (.aload_n 0, 1) := by decide +kernel
theorem dX3_isOdd_16 : decode cX3_isOdd 16 = .ok (.getfield 28, 3) := by decide +kernel
theorem dX3_isOdd_19 : decode cX3_isOdd 19 = .ok (.if_icmp .ge 22, 3) := by decide +kernel
theorem dX3_isOdd_22 : decode cX3_isOdd 22 = .ok (.aload_n 1, 1) := by decide +kernel
theorem dX3_isOdd_23 : decode cX3_isOdd 23 = .ok (.aload_n 0, 1) := by decide +kernel
theorem dX3_isOdd_24 : decode cX3_isOdd 24 = .ok (.getfield 18, 3) := by decide +kernel
theorem dX3_isOdd_27 : decode cX3_isOdd 27 = .ok (.iconst 1, 1) := by decide +kernel
theorem dX3_isOdd_28 : decode cX3_isOdd 28 = .ok (.iadd, 1) := by decide +kernel
theorem dX3_isOdd_29 : decode cX3_isOdd 29 = .ok (.invokevirtual 37, 3) := by decide +kernel
theorem dX3_isOdd_32 : decode cX3_isOdd 32 = .ok (.bipush 124, 2) := by decide +kernel
theorem dX3_isOdd_34 : decode cX3_isOdd 34 = .ok (.if_icmp .eq 7, 3) := by decide +kernel
theorem dX3_isOdd_37 : decode cX3_isOdd 37 = .ok (.iconst 1, 1) := by decide +kernel
theorem dX3_isOdd_38 : decode cX3_isOdd 38 = .ok (.goto 4, 3) := by decide +kernel
theorem dX3_isOdd_41 : decode cX3_isOdd 41 = .ok (.iconst 0, 1) := by decide +kernel
theorem dX3_isOdd_42 : decode cX3_isOdd 42 = .ok (.ireturn, 1) := by decide +kernel
theorem dX3_cellsDue_0 : decode cX3_cellsDue 0 = .ok (.aload_n 0, 1) := by decide +kernel
theorem dX3_cellsDue_1 : decode cX3_cellsDue 1 = .ok (.getfield 40, 3) := by decide +kernel
theorem dX3_cellsDue_4 : decode cX3_cellsDue 4 = .ok (.lookupswitch 42 #[(72, 36), (80, 38), (83, 40)], 36) := by decide +kernel
theorem dX3_cellsDue_40 : decode cX3_cellsDue 40 = .ok (.iconst 3, 1) := by decide +kernel
theorem dX3_cellsDue_41 : decode cX3_cellsDue 41 = .ok (.ireturn, 1) := by decide +kernel
theorem dX3_cellsDue_42 : decode cX3_cellsDue 42 = .ok (.iconst 5, 1) := by decide +kernel
theorem dX3_cellsDue_43 : decode cX3_cellsDue 43 = .ok (.ireturn, 1) := by decide +kernel
theorem dX3_cellsDue_44 : decode cX3_cellsDue 44 = .ok (.iconst 2, 1) := by decide +kernel
theorem dX3_cellsDue_45 : decode cX3_cellsDue 45 = .ok (.ireturn, 1) := by decide +kernel
theorem dX3_cellsDue_46 : decode cX3_cellsDue 46 = .ok (.iconst 0, 1) := by decide +kernel
theorem dX3_cellsDue_47 : decode cX3_cellsDue 47 = .ok (.ireturn, 1) := by decide +kernel
theorem dX3_fieldIn_0 : decode cX3_fieldIn 0 = .ok (.aload_n 0, 1) := by decide +kernel
theorem dX3_fieldIn_1 : decode cX3_fieldIn 1 = .ok (.getfield 40, 3) := by decide +kernel
theorem dX3_fieldIn_4 : decode cX3_fieldIn 4 = .ok (.bipush 83, 2) := by decide +kernel
theorem dX3_fieldIn_6 : decode cX3_fieldIn 6 = .ok (.if_icmp .ne 5, 3) := by decide +kernel
theorem dX3_fieldIn_9 : decode cX3_fieldIn 9 = .ok (.iconst 5, 1) := by decide +kernel
theorem dX3_fieldIn_10 : decode cX3_fieldIn 10 = .ok (.ireturn, 1) := by decide +kernel
theorem dX3_fieldIn_11 : decode cX3_fieldIn 11 = .ok (.aload_n 0, 1) := by decide +kernel
theorem dX3_fieldIn_12 : decode cX3_fieldIn 12 = .ok (.getfield 40, 3) := by decide +kernel
theorem dX3_fieldIn_15 : decode cX3_fieldIn 15 = .ok (.bipush 72, 2) := by decide +kernel
theorem dX3_fieldIn_17 : decode cX3_fieldIn 17 = .ok (.if_icmp .ne 14, 3) := by decide +kernel
theorem dX3_fieldIn_20 : decode cX3_fieldIn 20 = .ok (.iload_n 1, 1) := by decide +kernel
theorem dX3_fieldIn_21 : decode cX3_fieldIn 21 = .ok (.iconst 1, 1) := by decide +kernel
theorem dX3_fieldIn_22 : decode cX3_fieldIn 22 = .ok (.if_icmp .ne 7, 3) := by decide +kernel
theorem dX3_fieldIn_25 : decode cX3_fieldIn 25 = .ok (.iconst 4, 1) := by decide +kernel
theorem dX3_fieldIn_26 : decode cX3_fieldIn 26 = .ok (.goto 4, 3) := by decide +kernel
theorem dX3_fieldIn_29 : decode cX3_fieldIn 29 = .ok (.iconst 5, 1) := by decide +kernel
theorem dX3_fieldIn_30 : decode cX3_fieldIn 30 = .ok (.ireturn, 1) := by decide +kernel
theorem dX3_fieldIn_31 : decode cX3_fieldIn 31 = .ok (.iload_n 1, 1) := by decide +kernel
theorem dX3_fieldIn_32 : decode cX3_fieldIn 32 = .ok (.tableswitch 35 1 3 #[28, 30, 32], 28) := by decide +kernel
theorem dX3_fieldIn_60 : decode cX3_fieldIn 60 = .ok (.iconst 1, 1) := by decide +kernel
theorem dX3_fieldIn_61 : decode cX3_fieldIn 61 = .ok (.ireturn, 1) := by decide +kernel
theorem dX3_fieldIn_62 : decode cX3_fieldIn 62 = .ok (.iconst 2, 1) := by decide +kernel
theorem dX3_fieldIn_63 : decode cX3_fieldIn 63 = .ok (.ireturn, 1) := by decide +kernel
theorem dX3_fieldIn_64 : decode cX3_fieldIn 64 = .ok (.bipush 6, 2) := by decide +kernel
theorem dX3_fieldIn_66 : decode cX3_fieldIn 66 = .ok (.ireturn, 1) := by decide +kernel
theorem dX3_fieldIn_67 : decode cX3_fieldIn 67 = .ok (.iconst 3, 1) := by decide +kernel
theorem dX3_fieldIn_68 : decode cX3_fieldIn 68 = .ok (.ireturn, 1) := by decide +kernel
set_option maxRecDepth 20000 in
theorem ggX4_init_X3_init : GoodIn wsX4_init wsX3_init := goodIn_r _ [23, 24, 2, 3, 16, 25, 26, 42, 43, 44, 45, 46, 47, 48] (by decide +kernel) (by decide +kernel)
set_option maxRecDepth 20000 in
theorem gX4_init_X3_init_n11 : GoodIn wsX4_init (wsX3_init) := ggX4_init_X3_init
set_option maxRecDepth 20000 in
theorem ggX4_init_X6_init : GoodIn wsX4_init wsX6_init := goodIn_r _ [28, 29, 2, 3, 16, 30, 31, 68, 69, 70] (by decide +kernel) (by decide +kernel)
set_option maxRecDepth 20000 in
theorem gX4_init_X6_init_n20 : GoodIn wsX4_init (wsX6_init) := ggX4_init_X6_init
set_option maxRecDepth 20000 in
theorem ggX4_init_X2_init : GoodIn wsX4_init wsX2_init := goodIn_r _ [33, 34, 2, 3, 16, 35, 36, 37, 38, 39, 40, 41, 71, 72, 73, 74, 75, 76, 77, 78, 79, 80, 81, 82, 83] (by decide +kernel) (by decide +kernel)
set_option maxRecDepth 20000 in
theorem gX4_init_X2_init_n27 : GoodIn wsX4_init (wsX2_init) := ggX4_init_X2_init
theorem dX4_init_0 : decode cX4_init 0 = .ok (.aload_n 0, 1) := by decide +kernel
theorem dX4_init_1 : decode cX4_init 1 = .ok (.invokespecial 3, 3) := by decide +kernel
theorem dX4_init_4 : decode cX4_init 4 = .ok (.aload_n 0, 1) := by decide +kernel
theorem dX4_init_5 : decode cX4_init 5 = .ok (.new 9, 3) := by decide +kernel
theorem dX4_init_8 : decode cX4_init 8 = .ok (.dup, 1) := by decide +kernel
theorem dX4_init_9 : decode cX4_init 9 = .ok (.invokespecial 11, 3) := by decide +kernel
theorem dX4_init_12 : decode cX4_init 12 = .ok (.putfield 12, 3) := by decide +kernel
theorem dX4_init_15 : decode cX4_init 15 = .ok (.aload_n 0, 1) := by decide +kernel
theorem dX4_init_16 : decode cX4_init 16 = .ok (.new 18, 3) := by decide +kernel
theorem dX4_init_19 : decode cX4_init 19 = .ok (.dup, 1) := by decide +kernel
theorem dX4_init_20 : decode cX4_init 20 = .ok (.invokespecial 20, 3) := by decide +kernel
theorem dX4_init_23 : decode cX4_init 23 = .ok (.putfield 21, 3) := by decide +kernel
theorem dX4_init_26 : decode cX4_init 26 = .ok (.aload_n 0, 1) := by decide +kernel
theorem dX4_init_27 : decode cX4_init 27 = .ok (.new 25, 3) := by decide +kernel
theorem dX4_init_30 : decode cX4_init 30 = .ok (.dup, 1) := by decide +kernel
theorem dX4_init_31 : decode cX4_init 31 = .ok (.invokespecial 27, 3) := by decide +kernel
theorem dX4_init_34 : decode cX4_init 34 = .ok (.putfield 28, 3) := by decide +kernel
theorem dX4_init_37 : decode cX4_init 37 = .ok (.aload_n 0, 1) := by decide +kernel
theorem dX4_init_38 : decode cX4_init 38 = .ok (.iconst 5, 1) := by decide +kernel
theorem dX4_init_39 : decode cX4_init 39 = .ok (.newarray .int, 2) := by decide +kernel
theorem dX4_init_41 : decode cX4_init 41 = .ok (.putfield 32, 3) := by decide +kernel
theorem dX4_init_44 : decode cX4_init 44 = .ok (.aload_n 0, 1) := by decide +kernel
theorem dX4_init_45 : decode cX4_init 45 = .ok (.aload_n 1, 1) := by decide +kernel
theorem dX4_init_46 : decode cX4_init 46 = .ok (.putfield 36, 3) := by decide +kernel
theorem dX4_init_49 : decode cX4_init 49 = .ok (.aload_n 0, 1) := by decide +kernel
theorem dX4_init_50 : decode cX4_init 50 = .ok (.aload_n 2, 1) := by decide +kernel
theorem dX4_init_51 : decode cX4_init 51 = .ok (.putfield 40, 3) := by decide +kernel
theorem dX4_init_54 : decode cX4_init 54 = .ok (.aload_n 0, 1) := by decide +kernel
theorem dX4_init_55 : decode cX4_init 55 = .ok (.aload_n 3, 1) := by decide +kernel
theorem dX4_init_56 : decode cX4_init 56 = .ok (.putfield 44, 3) := by decide +kernel
theorem dX4_init_59 : decode cX4_init 59 = .ok (.aload_n 0, 1) := by decide +kernel
theorem dX4_init_60 : decode cX4_init 60 = .ok (.aload 4, 2) := by decide +kernel
theorem dX4_init_62 : decode cX4_init 62 = .ok (.putfield 48, 3) := by decide +kernel
theorem dX4_init_65 : decode cX4_init 65 = .ok (.return_, 1) := by decide +kernel
theorem dX4_begin_0 : decode cX4_begin 0 = .ok (.aload_n 0, 1) := by decide +kernel
theorem dX4_begin_1 : decode cX4_begin 1 = .ok (.iconst 0, 1) := by decide +kernel
theorem dX4_begin_2 : decode cX4_begin 2 = .ok (.putfield 52, 3) := by decide +kernel
theorem dX4_begin_5 : decode cX4_begin 5 = .ok (.aload_n 0, 1) := by decide +kernel
theorem dX4_begin_6 : decode cX4_begin 6 = .ok (.iconst 0, 1) := by decide +kernel
theorem dX4_begin_7 : decode cX4_begin 7 = .ok (.putfield 56, 3) := by decide +kernel
theorem dX4_begin_10 : decode cX4_begin 10 = .ok (.aload_n 0, 1) := by decide +kernel
theorem dX4_begin_11 : decode cX4_begin 11 = .ok (.iconst 0, 1) := by decide +kernel
theorem dX4_begin_12 : decode cX4_begin 12 = .ok (.putfield 59, 3) := by decide +kernel
theorem dX4_begin_15 : decode cX4_begin 15 = .ok (.aload_n 0, 1) := by decide +kernel
theorem dX4_begin_16 : decode cX4_begin 16 = .ok (.iconst 0, 1) := by decide +kernel
theorem dX4_begin_17 : decode cX4_begin 17 = .ok (.putfield 62, 3) := by decide +kernel
theorem dX4_begin_20 : decode cX4_begin 20 = .ok (.aload_n 0, 1) := by decide +kernel
theorem dX4_begin_21 : decode cX4_begin 21 = .ok (.iconst 0, 1) := by decide +kernel
theorem dX4_begin_22 : decode cX4_begin 22 = .ok (.putfield 65, 3) := by decide +kernel
theorem dX4_begin_25 : decode cX4_begin 25 = .ok (.aload_n 0, 1) := by decide +kernel
theorem dX4_begin_26 : decode cX4_begin 26 = .ok (.iconst (-1), 1) := by decide +kernel
theorem dX4_begin_27 : decode cX4_begin 27 = .ok (.putfield 68, 3) := by decide +kernel
theorem dX4_begin_30 : decode cX4_begin 30 = .ok (.aload_n 0, 1) := by decide +kernel
theorem dX4_begin_31 : decode cX4_begin 31 = .ok (.iconst 0, 1) := by decide +kernel
theorem dX4_begin_32 : decode cX4_begin 32 = .ok (.putfield 71, 3) := by decide +kernel
theorem dX4_begin_35 : decode cX4_begin 35 = .ok (.aload_n 0, 1) := by decide +kernel
theorem dX4_begin_36 : decode cX4_begin 36 = .ok (.iconst 0, 1) := by decide +kernel
theorem dX4_begin_37 : decode cX4_begin 37 = .ok (.putfield 75, 3) := by decide +kernel
theorem dX4_begin_40 : decode cX4_begin 40 = .ok (.aload_n 0, 1) := by decide +kernel
theorem dX4_begin_41 : decode cX4_begin 41 = .ok (.iconst 0, 1) := by decide +kernel
theorem dX4_begin_42 : decode cX4_begin 42 = .ok (.putfield 78, 3) := by decide +kernel
theorem dX4_begin_45 : decode cX4_begin 45 = .ok (.aload_n 0, 1) := by decide +kernel
theorem dX4_begin_46 : decode cX4_begin 46 = .ok (.getfield 28, 3) := by decide +kernel
theorem dX4_begin_49 : decode cX4_begin 49 = .ok (.iconst 0, 1) := by decide +kernel
theorem dX4_begin_50 : decode cX4_begin 50 = .ok (.putfield 81, 3) := by decide +kernel
theorem dX4_begin_53 : decode cX4_begin 53 = .ok (.return_, 1) := by decide +kernel
set_option maxRecDepth 20000 in
theorem ggX4_readOn_X7_behindEmptyLines : GoodIn wsX4_readOn wsX7_behindEmptyLines := goodIn_r _ [10, 11, 12, 13, 14, 9, 15, 16, 327, 328] (by decide +kernel) (by decide +kernel)
set_option maxRecDepth 20000 in
theorem gX4_readOn_X7_behindEmptyLines : GoodIn wsX4_readOn (wsV RX4 86 RX7 yX7_behindEmptyLines wsX7_behindEmptyLines) := goodIn_app (goodIn_of _ (by decide +kernel)) ggX4_readOn_X7_behindEmptyLines
set_option maxRecDepth 20000 in
theorem ggX4_readOn_X4_isHouseholdsEnd : GoodIn wsX4_readOn wsX4_isHouseholdsEnd := goodIn_r _ [21, 1, 2, 22, 13, 14, 9, 15, 11, 16, 295, 296, 297, 298, 299, 300, 301, 302, 303, 304, 305, 306, 307, 308, 309, 310, 311, 312, 313, 327, 328] (by decide +kernel) (by decide +kernel)
set_option maxRecDepth 20000 in
theorem gX4_readOn_X4_isHouseholdsEnd : GoodIn wsX4_readOn (wsV RX4 90 RX4 yX4_isHouseholdsEnd wsX4_isHouseholdsEnd) := goodIn_app (goodIn_of _ (by decide +kernel)) ggX4_readOn_X4_isHouseholdsEnd
set_option maxRecDepth 20000 in
theorem ggX4_readOn_X4_closeHousehold : GoodIn wsX4_readOn wsX4_closeHousehold := goodIn_r _ [26, 3, 27, 5, 28, 29, 30, 20, 31, 32, 33, 34, 35, 36, 37, 38, 39, 40, 4, 41, 42, 43, 44, 45, 46, 47, 48, 49, 50, 51, 52, 53, 54, 55, 56, 57, 58, 59, 60, 61, 62, 63, 64, 65, 66, 67, 68, 69, 70, 71, 72, 73, 74, 75, 76, 77, 78, 79, 80, 81, 82, 83, 84, 85, 86, 87, 88, 89, 90, 91, 92, 93, 94, 95, 96, 97, 98, 99, 100, 101, 102, 103, 104, 105, 295, 296, 297, 298, 299, 300, 301, 302, 303, 304, 305, 306, 307, 308, 309, 310, 311, 312, 313, 314, 315, 316, 317, 318, 319, 320, 321, 322, 323, 324, 325, 326, 329, 330, 331, 332, 333, 334, 335, 336, 337, 338, 339, 340, 341, 342, 343, 344, 345] (by decide +kernel) (by decide +kernel)
set_option maxRecDepth 20000 in
theorem gX4_readOn_X4_closeHousehold : GoodIn wsX4_readOn (wsV RX4 94 RX4 yX4_closeHousehold wsX4_closeHousehold) := goodIn_app (goodIn_of _ (by decide +kernel)) ggX4_readOn_X4_closeHousehold
set_option maxRecDepth 20000 in
theorem ggX4_readOn_X4_findNextLine : GoodIn wsX4_readOn wsX4_findNextLine := goodIn_r _ [109, 110, 1, 2, 3, 40, 111, 112, 113, 114, 115, 116, 117, 118, 119, 120, 121, 122, 123, 124, 125, 126, 9, 127, 11, 12, 13, 14, 15, 16, 128, 129, 130, 131, 132, 133, 134, 135, 101, 136, 137, 138, 139, 140, 141, 142, 143, 144, 145, 146, 60, 147, 63, 148, 149, 150, 151, 152, 153, 154, 155, 104, 103, 295, 296, 297, 298, 299, 300, 301, 302, 303, 304, 305, 306, 307, 308, 309, 310, 311, 312, 313, 346, 347, 348, 349, 350, 351, 352, 314, 315, 316, 317, 318, 319, 320, 321, 322, 323, 324, 325, 326, 327, 328, 331, 332, 333, 334, 335] (by decide +kernel) (by decide +kernel)
set_option maxRecDepth 20000 in
theorem gX4_readOn_X4_findNextLine : GoodIn wsX4_readOn (wsV RX4 100 RX4 yX4_findNextLine wsX4_findNextLine) := goodIn_app (goodIn_of _ (by decide +kernel)) ggX4_readOn_X4_findNextLine
set_option maxRecDepth 20000 in
theorem ggX4_readOn_X4_readLine : GoodIn wsX4_readOn wsX4_readLine := goodIn_r _ [159, 110, 160, 161, 162, 163, 20, 164, 1, 3, 165, 166, 167, 115, 168, 117, 118, 169, 170, 171, 172, 120, 128, 13, 14, 9, 15, 11, 16, 33, 34, 35, 36, 37, 38, 39, 40, 4, 41, 42, 43, 44, 45, 46, 47, 48, 49, 50, 51, 52, 53, 54, 55, 56, 57, 58, 59, 60, 61, 62, 63, 64, 65, 66, 67, 68, 69, 70, 71, 5, 27, 173, 174, 175, 176, 177, 178, 179, 180, 181, 182, 183, 184, 185, 186, 187, 188, 122, 189, 190, 191, 192, 123, 193, 194, 195, 196, 22, 197, 198, 199, 200, 201, 202, 203, 204, 205, 206, 207, 208, 209, 210, 211, 212, 213, 214, 215, 216, 217, 218, 219, 220, 221, 222, 223, 224, 225, 226, 227, 228, 229, 230, 231, 232, 233, 234, 235, 236, 237, 238, 239, 240, 241, 242, 243, 244, 245, 246, 247, 101, 248, 142, 143, 105, 103, 249, 250, 251, 252, 253, 254, 255, 256, 257, 258, 259, 260, 261, 262, 295, 296, 297, 298, 299, 300, 301, 302, 303, 304, 305, 306, 307, 308, 309, 310, 311, 312, 313, 346, 347, 348, 349, 350, 351, 352, 314, 315, 316, 317, 318, 319, 320, 321, 322, 323, 324, 325, 326, 327, 328, 329, 330, 331, 332, 333, 334, 335, 353, 354, 355] (by decide +kernel) (by decide +kernel)
set_option maxRecDepth 20000 in
theorem gX4_readOn_X4_readLine : GoodIn wsX4_readOn (wsV RX4 103 RX4 yX4_readLine wsX4_readLine) := goodIn_app (goodIn_of _ (by decide +kernel)) ggX4_readOn_X4_readLine
set_option maxRecDepth 20000 in
theorem ggX4_readOn_X4_placeLine : GoodIn wsX4_readOn wsX4_placeLine := goodIn_r _ [266, 3, 110, 160, 267, 268, 269, 20, 270, 82, 33, 34, 35, 36, 37, 38, 39, 40, 4, 41, 42, 43, 44, 45, 46, 47, 48, 49, 50, 51, 52, 53, 54, 55, 56, 57, 58, 59, 60, 61, 62, 63, 64, 65, 66, 67, 68, 69, 70, 71, 5, 27, 72, 73, 74, 75, 76, 271, 272, 273, 274, 275, 276, 277, 101, 278, 142, 279, 280, 281, 282, 283, 284, 285, 103, 286, 287, 288, 289, 290, 99, 100, 102, 104, 105, 291, 292, 293, 294, 143, 295, 296, 297, 298, 299, 300, 301, 302, 303, 304, 305, 306, 307, 308, 309, 310, 311, 312, 313, 314, 315, 316, 317, 318, 319, 320, 321, 322, 323, 324, 325, 326, 346, 347, 348, 349, 350, 351, 352, 329, 330, 331, 332, 333, 334, 335] (by decide +kernel) (by decide +kernel)
set_option maxRecDepth 20000 in
theorem gX4_readOn_X4_placeLine : GoodIn wsX4_readOn (wsV RX4 107 RX4 yX4_placeLine wsX4_placeLine) := goodIn_app (goodIn_of _ (by decide +kernel)) ggX4_readOn_X4_placeLine
theorem dX4_readOn_0 : decode cX4_readOn 0 = .ok (.iconst 0, 1) := by decide +kernel
theorem dX4_readOn_1 : decode cX4_readOn 1 = .ok (.istore_n 1, 1) := by decide +kernel
theorem dX4_readOn_2 : decode cX4_readOn 2 = .ok (.iload_n 1, 1) := by decide +kernel
theorem dX4_readOn_3 : decode cX4_readOn 3 = .ok (.sipush 8000, 3) := by decide +kernel
theorem dX4_readOn_6 : decode cX4_readOn 6 = .ok (.if_icmp .gt 102, 3) := by decide +kernel
theorem dX4_readOn_9 : decode cX4_readOn 9 = .ok (.aload_n 0, 1) := by decide +kernel
theorem dX4_readOn_10 : decode cX4_readOn 10 = .ok (.aload_n 0, 1) := by decide +kernel
theorem dX4_readOn_11 : decode cX4_readOn 11 = .ok (.getfield 36, 3) := by decide +kernel
theorem dX4_readOn_14 : decode cX4_readOn 14 = .ok (.aload_n 0, 1) := by decide +kernel
theorem dX4_readOn_15 : decode cX4_readOn 15 = .ok (.getfield 65, 3) := by decide +kernel
theorem dX4_readOn_18 : decode cX4_readOn 18 = .ok (.invokevirtual 86, 3) := by decide +kernel
theorem dX4_readOn_21 : decode cX4_readOn 21 = .ok (.putfield 65, 3) := by decide +kernel
theorem dX4_readOn_24 : decode cX4_readOn 24 = .ok (.aload_n 0, 1) := by decide +kernel
theorem dX4_readOn_25 : decode cX4_readOn 25 = .ok (.getfield 28, 3) := by decide +kernel
theorem dX4_readOn_28 : decode cX4_readOn 28 = .ok (.getfield 81, 3) := by decide +kernel
theorem dX4_readOn_31 : decode cX4_readOn 31 = .ok (.ifCond .eq 17, 3) := by decide +kernel
theorem dX4_readOn_34 : decode cX4_readOn 34 = .ok (.aload_n 0, 1) := by decide +kernel
theorem dX4_readOn_35 : decode cX4_readOn 35 = .ok (.invokevirtual 90, 3) := by decide +kernel
theorem dX4_readOn_38 : decode cX4_readOn 38 = .ok (.ifCond .eq 10, 3) := by decide +kernel
theorem dX4_readOn_41 : decode cX4_readOn 41 = .ok (.aload_n 0, 1) := by decide +kernel
theorem dX4_readOn_42 : decode cX4_readOn 42 = .ok (.invokevirtual 94, 3) := by decide +kernel
theorem dX4_readOn_45 : decode cX4_readOn 45 = .ok (.goto 34, 3) := by decide +kernel
theorem dX4_readOn_48 : decode cX4_readOn 48 = .ok (.aload_n 0, 1) := by decide +kernel
theorem dX4_readOn_49 : decode cX4_readOn 49 = .ok (.getfield 65, 3) := by decide +kernel
theorem dX4_readOn_52 : decode cX4_readOn 52 = .ok (.aload_n 0, 1) := by decide +kernel
theorem dX4_readOn_53 : decode cX4_readOn 53 = .ok (.getfield 36, 3) := by decide +kernel
theorem dX4_readOn_56 : decode cX4_readOn 56 = .ok (.getfield 97, 3) := by decide +kernel
theorem dX4_readOn_59 : decode cX4_readOn 59 = .ok (.if_icmp .lt 5, 3) := by decide +kernel
theorem dX4_readOn_62 : decode cX4_readOn 62 = .ok (.iconst 0, 1) := by decide +kernel
theorem dX4_readOn_63 : decode cX4_readOn 63 = .ok (.ireturn, 1) := by decide +kernel
theorem dX4_readOn_64 : decode cX4_readOn 64 = .ok (.aload_n 0, 1) := by decide +kernel
theorem dX4_readOn_65 : decode cX4_readOn 65 = .ok (.invokevirtual 100, 3) := by decide +kernel
theorem dX4_readOn_68 : decode cX4_readOn 68 = .ok (.ifCond .eq 11, 3) := by decide +kernel
theorem dX4_readOn_71 : decode cX4_readOn 71 = .ok (.aload_n 0, 1) := by decide +kernel
theorem dX4_readOn_72 : decode cX4_readOn 72 = .ok (.aload_n 0, 1) := by decide +kernel
theorem dX4_readOn_73 : decode cX4_readOn 73 = .ok (.invokevirtual 103, 3) := by decide +kernel
theorem dX4_readOn_76 : decode cX4_readOn 76 = .ok (.invokevirtual 107, 3) := by decide +kernel
theorem dX4_readOn_79 : decode cX4_readOn 79 = .ok (.aload_n 0, 1) := by decide +kernel
theorem dX4_readOn_80 : decode cX4_readOn 80 = .ok (.getfield 71, 3) := by decide +kernel
theorem dX4_readOn_83 : decode cX4_readOn 83 = .ok (.ifCond .eq 5, 3) := by decide +kernel
theorem dX4_readOn_86 : decode cX4_readOn 86 = .ok (.iconst 1, 1) := by decide +kernel
theorem dX4_readOn_87 : decode cX4_readOn 87 = .ok (.ireturn, 1) := by decide +kernel
theorem dX4_readOn_88 : decode cX4_readOn 88 = .ok (.aload_n 0, 1) := by decide +kernel
theorem dX4_readOn_89 : decode cX4_readOn 89 = .ok (.getfield 75, 3) := by decide +kernel
theorem dX4_readOn_92 : decode cX4_readOn 92 = .ok (.ifCond .eq 10, 3) := by decide +kernel
theorem dX4_readOn_95 : decode cX4_readOn 95 = .ok (.aload_n 0, 1) := by decide +kernel
theorem dX4_readOn_96 : decode cX4_readOn 96 = .ok (.iconst 0, 1) := by decide +kernel
theorem dX4_readOn_97 : decode cX4_readOn 97 = .ok (.putfield 75, 3) := by decide +kernel
theorem dX4_readOn_100 : decode cX4_readOn 100 = .ok (.iconst 2, 1) := by decide +kernel
theorem dX4_readOn_101 : decode cX4_readOn 101 = .ok (.ireturn, 1) := by decide +kernel
theorem dX4_readOn_102 : decode cX4_readOn 102 = .ok (.iinc 1 1, 3) := by decide +kernel
theorem dX4_readOn_105 : decode cX4_readOn 105 = .ok (.goto (-103), 3) := by decide +kernel
theorem dX4_readOn_108 : decode cX4_readOn 108 = .ok (.iconst 0, 1) := by decide +kernel
theorem dX4_readOn_109 : decode cX4_readOn 109 = .ok (.ireturn, 1) := by decide +kernel
set_option maxRecDepth 20000 in
theorem ggX4_isHouseholdsEnd_X7_at : GoodIn wsX4_isHouseholdsEnd wsX7_at := goodIn_r _ [7, 8, 9, 29, 30] (by decide +kernel) (by decide +kernel)
set_option maxRecDepth 20000 in
theorem gX4_isHouseholdsEnd_X7_at : GoodIn wsX4_isHouseholdsEnd (wsV RX4 111 RX7 yX7_at wsX7_at) := goodIn_app (goodIn_of _ (by decide +kernel)) ggX4_isHouseholdsEnd_X7_at
theorem dX4_isHouseholdsEnd_0 : decode cX4_isHouseholdsEnd 0 = .ok (.aload_n 0, 1) := by decide +kernel
theorem dX4_isHouseholdsEnd_1 : decode cX4_isHouseholdsEnd 1 = .ok (.getfield 36, 3) := by decide +kernel
theorem dX4_isHouseholdsEnd_4 : decode cX4_isHouseholdsEnd 4 = .ok (.aload_n 0, 1) := by decide +kernel
theorem dX4_isHouseholdsEnd_5 : decode cX4_isHouseholdsEnd 5 = .ok (.getfield 65, 3) := by decide +kernel
theorem dX4_isHouseholdsEnd_8 : decode cX4_isHouseholdsEnd 8 = .ok (.invokevirtual 111, 3) := by decide +kernel
theorem dX4_isHouseholdsEnd_11 : decode cX4_isHouseholdsEnd 11 = .ok (.istore_n 1, 1) := by decide +kernel
theorem dX4_isHouseholdsEnd_12 : decode cX4_isHouseholdsEnd 12 = .ok (.iload_n 1, 1) := by decide +kernel
theorem dX4_isHouseholdsEnd_13 : decode cX4_isHouseholdsEnd 13 = .ok (.ifCond .lt 15, 3) := by decide +kernel
theorem dX4_isHouseholdsEnd_16 : decode cX4_isHouseholdsEnd 16 = .ok (.iload_n 1, 1) := by decide +kernel
theorem dX4_isHouseholdsEnd_17 : decode cX4_isHouseholdsEnd 17 = .ok (.bipush 72, 2) := by decide +kernel
theorem dX4_isHouseholdsEnd_19 : decode cX4_isHouseholdsEnd 19 = .ok (.if_icmp .eq 9, 3) := by decide +kernel
theorem dX4_isHouseholdsEnd_22 : decode cX4_isHouseholdsEnd 22 = .ok (.iload_n 1, 1) := by decide +kernel
theorem dX4_isHouseholdsEnd_23 : decode cX4_isHouseholdsEnd 23 = .ok (.bipush 83, 2) := by decide +kernel
theorem dX4_isHouseholdsEnd_25 : decode cX4_isHouseholdsEnd 25 = .ok (.if_icmp .ne 7, 3) := by decide +kernel
theorem dX4_isHouseholdsEnd_28 : decode cX4_isHouseholdsEnd 28 = .ok (.iconst 1, 1) := by decide +kernel
theorem dX4_isHouseholdsEnd_29 : decode cX4_isHouseholdsEnd 29 = .ok (.goto 4, 3) := by decide +kernel
theorem dX4_isHouseholdsEnd_32 : decode cX4_isHouseholdsEnd 32 = .ok (.iconst 0, 1) := by decide +kernel
theorem dX4_isHouseholdsEnd_33 : decode cX4_isHouseholdsEnd 33 = .ok (.ireturn, 1) := by decide +kernel
set_option maxRecDepth 20000 in
theorem ggX4_findNextLine_X3_find : GoodIn wsX4_findNextLine wsX3_find := goodIn_r _ [11, 12, 13, 14, 15, 16, 17, 18, 19, 20, 21, 22, 23, 24, 25, 26, 27, 28, 29, 30, 31, 32, 33, 10, 34, 82, 83, 84, 85, 86, 87, 88, 102, 103] (by decide +kernel) (by decide +kernel)
set_option maxRecDepth 20000 in
theorem gX4_findNextLine_X3_find : GoodIn wsX4_findNextLine (wsV RX4 114 RX3 yX3_find wsX3_find) := goodIn_app (goodIn_of _ (by decide +kernel)) ggX4_findNextLine_X3_find
set_option maxRecDepth 20000 in
theorem ggX4_findNextLine_X2_begin : GoodIn wsX4_findNextLine wsX2_begin := goodIn_r _ [39, 40, 41, 42, 43, 44, 45, 46, 89, 90, 91, 92, 93, 94, 95, 96, 97, 98, 99, 100, 101] (by decide +kernel) (by decide +kernel)
set_option maxRecDepth 20000 in
theorem gX4_findNextLine_X2_begin : GoodIn wsX4_findNextLine (wsV RX4 127 RX2 yX2_begin wsX2_begin) := goodIn_app (goodIn_of _ (by decide +kernel)) ggX4_findNextLine_X2_begin
set_option maxRecDepth 20000 in
theorem ggX4_findNextLine_X1_forgetHousehold : GoodIn wsX4_findNextLine wsX1_forgetHousehold := goodIn_r _ [51, 52, 53, 54, 55, 56, 104, 105, 106, 107, 108] (by decide +kernel) (by decide +kernel)
set_option maxRecDepth 20000 in
theorem gX4_findNextLine_X1_forgetHousehold : GoodIn wsX4_findNextLine (wsV RX4 130 RX1 yX1_forgetHousehold wsX1_forgetHousehold) := goodIn_app (goodIn_of _ (by decide +kernel)) ggX4_findNextLine_X1_forgetHousehold
set_option maxRecDepth 20000 in
theorem ggX4_findNextLine_X2_forgetNewcomer : GoodIn wsX4_findNextLine wsX2_forgetNewcomer := goodIn_r _ [60, 45, 61, 46, 62, 89, 90, 91, 92, 93, 94, 95, 96, 97, 98, 99, 100, 101] (by decide +kernel) (by decide +kernel)
set_option maxRecDepth 20000 in
theorem gX4_findNextLine_X2_forgetNewcomer : GoodIn wsX4_findNextLine (wsV RX4 137 RX2 yX2_forgetNewcomer wsX2_forgetNewcomer) := goodIn_app (goodIn_of _ (by decide +kernel)) ggX4_findNextLine_X2_forgetNewcomer
theorem dX4_findNextLine_0 : decode cX4_findNextLine 0 = .ok (.aload_n 0, 1) := by decide +kernel
theorem dX4_findNextLine_1 : decode cX4_findNextLine 1 = .ok (.getfield 12, 3) := by decide +kernel
theorem dX4_findNextLine_4 : decode cX4_findNextLine 4 = .ok (.aload_n 0, 1) := by decide +kernel
theorem dX4_findNextLine_5 : decode cX4_findNextLine 5 = .ok (.getfield 36, 3) := by decide +kernel
theorem dX4_findNextLine_8 : decode cX4_findNextLine 8 = .ok (.aload_n 0, 1) := by decide +kernel
theorem dX4_findNextLine_9 : decode cX4_findNextLine 9 = .ok (.getfield 65, 3) := by decide +kernel
theorem dX4_findNextLine_12 : decode cX4_findNextLine 12 = .ok (.invokevirtual 114, 3) := by decide +kernel
theorem dX4_findNextLine_15 : decode cX4_findNextLine 15 = .ok (.aload_n 0, 1) := by decide +kernel
theorem dX4_findNextLine_16 : decode cX4_findNextLine 16 = .ok (.aload_n 0, 1) := by decide +kernel
theorem dX4_findNextLine_17 : decode cX4_findNextLine 17 = .ok (.getfield 12, 3) := by decide +kernel
theorem dX4_findNextLine_20 : decode cX4_findNextLine 20 = .ok (.getfield 118, 3) := by decide +kernel
theorem dX4_findNextLine_23 : decode cX4_findNextLine 23 = .ok (.putfield 65, 3) := by decide +kernel
theorem dX4_findNextLine_26 : decode cX4_findNextLine 26 = .ok (.aload_n 0, 1) := by decide +kernel
theorem dX4_findNextLine_27 : decode cX4_findNextLine 27 = .ok (.getfield 12, 3) := by decide +kernel
theorem dX4_findNextLine_30 : decode cX4_findNextLine 30 = .ok (.getfield 121, 3) := by decide +kernel
theorem dX4_findNextLine_33 : decode cX4_findNextLine 33 = .ok (.bipush 72, 2) := by decide +kernel
theorem dX4_findNextLine_35 : decode cX4_findNextLine 35 = .ok (.if_icmp .ne 24, 3) := by decide +kernel
theorem dX4_findNextLine_38 : decode cX4_findNextLine 38 = .ok (.aload_n 0, 1) := by decide +kernel
theorem dX4_findNextLine_39 : decode cX4_findNextLine 39 = .ok (.getfield 28, 3) := by decide +kernel
theorem dX4_findNextLine_42 : decode cX4_findNextLine 42 = .ok (.aload_n 0, 1) := by decide +kernel
theorem dX4_findNextLine_43 : decode cX4_findNextLine 43 = .ok (.getfield 12, 3) := by decide +kernel
theorem dX4_findNextLine_46 : decode cX4_findNextLine 46 = .ok (.getfield 124, 3) := by decide +kernel
theorem dX4_findNextLine_49 : decode cX4_findNextLine 49 = .ok (.invokevirtual 127, 3) := by decide +kernel
theorem dX4_findNextLine_52 : decode cX4_findNextLine 52 = .ok (.aload_n 0, 1) := by decide +kernel
theorem dX4_findNextLine_53 : decode cX4_findNextLine 53 = .ok (.getfield 44, 3) := by decide +kernel
theorem dX4_findNextLine_56 : decode cX4_findNextLine 56 = .ok (.invokevirtual 130, 3) := by decide +kernel
theorem dX4_findNextLine_59 : decode cX4_findNextLine 59 = .ok (.aload_n 0, 1) := by decide +kernel
theorem dX4_findNextLine_60 : decode cX4_findNextLine 60 = .ok (.getfield 28, 3) := by decide +kernel
theorem dX4_findNextLine_63 : decode cX4_findNextLine 63 = .ok (.getfield 81, 3) := by decide +kernel
theorem dX4_findNextLine_66 : decode cX4_findNextLine 66 = .ok (.ifCond .eq 15, 3) := by decide +kernel
theorem dX4_findNextLine_69 : decode cX4_findNextLine 69 = .ok (.aload_n 0, 1) := by decide +kernel
theorem dX4_findNextLine_70 : decode cX4_findNextLine 70 = .ok (.getfield 28, 3) := by decide +kernel
theorem dX4_findNextLine_73 : decode cX4_findNextLine 73 = .ok (.getfield 135, 3) := by decide +kernel
theorem dX4_findNextLine_76 : decode cX4_findNextLine 76 = .ok (.ifCond .eq 5, 3) := by decide +kernel
theorem dX4_findNextLine_79 : decode cX4_findNextLine 79 = .ok (.iconst 0, 1) := by decide +kernel
theorem dX4_findNextLine_80 : decode cX4_findNextLine 80 = .ok (.ireturn, 1) := by decide +kernel
theorem dX4_findNextLine_81 : decode cX4_findNextLine 81 = .ok (.aload_n 0, 1) := by decide +kernel
theorem dX4_findNextLine_82 : decode cX4_findNextLine 82 = .ok (.getfield 28, 3) := by decide +kernel
theorem dX4_findNextLine_85 : decode cX4_findNextLine 85 = .ok (.invokevirtual 137, 3) := by decide +kernel
theorem dX4_findNextLine_88 : decode cX4_findNextLine 88 = .ok (.aload_n 0, 1) := by decide +kernel
theorem dX4_findNextLine_89 : decode cX4_findNextLine 89 = .ok (.dup, 1) := by decide +kernel
theorem dX4_findNextLine_90 : decode cX4_findNextLine 90 = .ok (.getfield 52, 3) := by decide +kernel
theorem dX4_findNextLine_93 : decode cX4_findNextLine 93 = .ok (.iconst 1, 1) := by decide +kernel
theorem dX4_findNextLine_94 : decode cX4_findNextLine 94 = .ok (.iadd, 1) := by decide +kernel
theorem dX4_findNextLine_95 : decode cX4_findNextLine 95 = .ok (.putfield 52, 3) := by decide +kernel
theorem dX4_findNextLine_98 : decode cX4_findNextLine 98 = .ok (.iconst 1, 1) := by decide +kernel
theorem dX4_findNextLine_99 : decode cX4_findNextLine 99 = .ok (.ireturn, 1) := by decide +kernel
set_option maxRecDepth 20000 in
theorem ggX4_readLine_X4_readForm : GoodIn wsX4_readLine wsX4_readForm := goodIn_r _ [7, 1, 8, 9, 10, 11, 12, 13, 14, 15, 16, 17, 18, 19, 20, 21, 22, 23, 24, 25, 26, 27, 28, 29, 30, 31, 6, 32, 33, 34, 35, 36, 37, 38, 39, 40, 41, 42, 43, 44, 45, 46, 47, 48, 49, 50, 51, 52, 53, 54, 55, 56, 57, 58, 59, 60, 61, 62, 63, 64, 65, 66, 67, 68, 69, 70, 71, 169, 170, 171, 172, 173, 174, 175, 176, 177, 178, 179, 180, 181, 182, 183, 184, 185, 186, 187, 188, 189, 190, 191, 192, 193, 194, 195, 196, 197, 198, 199, 200, 201, 202, 203, 204, 205, 206, 207, 208, 209, 210, 211, 212, 213, 214, 215, 216] (by decide +kernel) (by decide +kernel)
set_option maxRecDepth 20000 in
theorem gX4_readLine_X4_readForm : GoodIn wsX4_readLine (wsV RX4 140 RX4 yX4_readForm wsX4_readForm) := goodIn_app (goodIn_of _ (by decide +kernel)) ggX4_readLine_X4_readForm
set_option maxRecDepth 20000 in
theorem ggX4_readLine_X3_cellsDue : GoodIn wsX4_readLine wsX3_cellsDue := goodIn_r _ [20, 21, 188, 189, 190, 191, 192, 193, 194] (by decide +kernel) (by decide +kernel)
set_option maxRecDepth 20000 in
theorem gX4_readLine_X3_cellsDue : GoodIn wsX4_readLine (wsV RX4 143 RX3 yX3_cellsDue wsX3_cellsDue) := goodIn_app (goodIn_of _ (by decide +kernel)) ggX4_readLine_X3_cellsDue
set_option maxRecDepth 20000 in
theorem ggX4_readLine_X4_readSigns : GoodIn wsX4_readLine wsX4_readSigns := goodIn_r _ [75, 76, 1, 77, 78, 79, 80, 81, 82, 83, 84, 85, 13, 86, 87, 16, 88, 89, 90, 91, 92, 93, 94, 95, 6, 96, 8, 34, 35, 97, 23, 24, 25, 26, 27, 28, 98, 99, 100, 29, 30, 31, 32, 33, 36, 9, 37, 38, 39, 40, 41, 42, 43, 44, 45, 46, 47, 48, 49, 50, 51, 52, 53, 54, 55, 56, 57, 58, 59, 60, 61, 62, 63, 64, 65, 66, 67, 68, 69, 70, 101, 102, 103, 104, 105, 106, 169, 170, 171, 172, 173, 174, 175, 176, 177, 178, 179, 180, 181, 182, 183, 184, 185, 186, 187, 217, 218, 219, 188, 189, 190, 191, 192, 193, 194, 208, 209, 195, 196, 197, 198, 199, 200, 201, 202, 203, 204, 205, 206, 207, 210, 211, 212, 213, 214, 215, 216] (by decide +kernel) (by decide +kernel)
set_option maxRecDepth 20000 in
theorem gX4_readLine_X4_readSigns : GoodIn wsX4_readLine (wsV RX4 146 RX4 yX4_readSigns wsX4_readSigns) := goodIn_app (goodIn_of _ (by decide +kernel)) ggX4_readLine_X4_readSigns
set_option maxRecDepth 20000 in
theorem ggX4_readLine_X4_readValue : GoodIn wsX4_readLine wsX4_readValue := goodIn_r _ [110, 1, 76, 9, 2, 111, 112, 113, 13, 114, 21, 115, 116, 117, 80, 118, 82, 119, 120, 121, 122, 123, 124, 125, 126, 105, 127, 128, 129, 130, 131, 132, 133, 134, 135, 136, 137, 138, 139, 140, 141, 142, 143, 144, 145, 106, 83, 84, 85, 86, 87, 16, 29, 30, 31, 6, 32, 33, 34, 35, 36, 37, 38, 39, 40, 41, 42, 43, 44, 45, 46, 47, 48, 49, 50, 51, 52, 53, 54, 55, 56, 57, 58, 59, 60, 61, 62, 63, 64, 65, 66, 67, 68, 69, 70, 146, 147, 148, 149, 150, 151, 152, 153, 154, 155, 156, 157, 158, 159, 160, 161, 162, 163, 164, 169, 170, 171, 172, 173, 174, 175, 176, 177, 178, 179, 180, 181, 182, 183, 184, 185, 186, 187, 188, 189, 190, 191, 192, 193, 194, 217, 218, 219, 195, 196, 197, 198, 199, 200, 201, 202, 203, 204, 205, 206, 207, 210, 211, 212, 213, 214, 215, 216] (by decide +kernel) (by decide +kernel)
set_option maxRecDepth 20000 in
theorem gX4_readLine_X4_readValue : GoodIn wsX4_readLine (wsV RX4 149 RX4 yX4_readValue wsX4_readValue) := goodIn_app (goodIn_of _ (by decide +kernel)) ggX4_readLine_X4_readValue
set_option maxRecDepth 20000 in
theorem ggX4_readLine_X4_fail : GoodIn wsX4_readLine wsX4_fail := goodIn_r _ [32, 33, 34, 35, 36, 9, 37, 38, 39, 40, 41, 42, 43, 44, 45, 46, 47, 48, 49, 50, 51, 52, 53, 54, 55, 56, 57, 58, 59, 60, 61, 62, 63, 64, 65, 66, 67, 6, 68, 69, 70, 169, 170, 171, 172, 173, 174, 175, 176, 177, 178, 179, 180, 181, 182, 183, 184, 185, 186, 187, 195, 196, 197, 198, 199, 200, 201, 202, 203, 204, 205, 206, 207, 210, 211, 212, 213, 214, 215, 216] (by decide +kernel) (by decide +kernel)
set_option maxRecDepth 20000 in
theorem gX4_readLine_X4_fail : GoodIn wsX4_readLine (wsV RX4 152 RX4 yX4_fail wsX4_fail) := goodIn_app (goodIn_of _ (by decide +kernel)) ggX4_readLine_X4_fail
set_option maxRecDepth 20000 in
theorem ggX4_readLine_X4_isWorkingChild : GoodIn wsX4_readLine wsX4_isWorkingChild := goodIn_r _ [168, 1, 2, 169, 170, 171, 172, 173, 174, 175, 176, 177, 178, 179, 180, 181, 182, 183, 184, 185, 186, 187, 188, 189, 190, 191, 192, 193, 194] (by decide +kernel) (by decide +kernel)
set_option maxRecDepth 20000 in
theorem gX4_readLine_X4_isWorkingChild : GoodIn wsX4_readLine (wsV RX4 156 RX4 yX4_isWorkingChild wsX4_isWorkingChild) := goodIn_app (goodIn_of _ (by decide +kernel)) ggX4_readLine_X4_isWorkingChild
theorem dX4_readLine_0 : decode cX4_readLine 0 = .ok (.aload_n 0, 1) := by decide +kernel
theorem dX4_readLine_1 : decode cX4_readLine 1 = .ok (.invokevirtual 140, 3) := by decide +kernel
theorem dX4_readLine_4 : decode cX4_readLine 4 = .ok (.istore_n 1, 1) := by decide +kernel
theorem dX4_readLine_5 : decode cX4_readLine 5 = .ok (.aload_n 0, 1) := by decide +kernel
theorem dX4_readLine_6 : decode cX4_readLine 6 = .ok (.getfield 12, 3) := by decide +kernel
theorem dX4_readLine_9 : decode cX4_readLine 9 = .ok (.invokevirtual 143, 3) := by decide +kernel
theorem dX4_readLine_12 : decode cX4_readLine 12 = .ok (.istore_n 2, 1) := by decide +kernel
theorem dX4_readLine_13 : decode cX4_readLine 13 = .ok (.iconst 1, 1) := by decide +kernel
theorem dX4_readLine_14 : decode cX4_readLine 14 = .ok (.istore_n 3, 1) := by decide +kernel
theorem dX4_readLine_15 : decode cX4_readLine 15 = .ok (.iload_n 3, 1) := by decide +kernel
theorem dX4_readLine_16 : decode cX4_readLine 16 = .ok (.iload_n 2, 1) := by decide +kernel
theorem dX4_readLine_17 : decode cX4_readLine 17 = .ok (.if_icmp .ge 67, 3) := by decide +kernel
theorem dX4_readLine_20 : decode cX4_readLine 20 = .ok (.iload_n 3, 1) := by decide +kernel
theorem dX4_readLine_21 : decode cX4_readLine 21 = .ok (.iconst 5, 1) := by decide +kernel
theorem dX4_readLine_22 : decode cX4_readLine 22 = .ok (.if_icmp .ge 62, 3) := by decide +kernel
theorem dX4_readLine_25 : decode cX4_readLine 25 = .ok (.iload_n 1, 1) := by decide +kernel
theorem dX4_readLine_26 : decode cX4_readLine 26 = .ok (.iconst (-1), 1) := by decide +kernel
theorem dX4_readLine_27 : decode cX4_readLine 27 = .ok (.if_icmp .ne 57, 3) := by decide +kernel
theorem dX4_readLine_30 : decode cX4_readLine 30 = .ok (.aload_n 0, 1) := by decide +kernel
theorem dX4_readLine_31 : decode cX4_readLine 31 = .ok (.getfield 32, 3) := by decide +kernel
theorem dX4_readLine_34 : decode cX4_readLine 34 = .ok (.iload_n 3, 1) := by decide +kernel
theorem dX4_readLine_35 : decode cX4_readLine 35 = .ok (.iconst (-1), 1) := by decide +kernel
theorem dX4_readLine_36 : decode cX4_readLine 36 = .ok (.iastore, 1) := by decide +kernel
theorem dX4_readLine_37 : decode cX4_readLine 37 = .ok (.aload_n 0, 1) := by decide +kernel
theorem dX4_readLine_38 : decode cX4_readLine 38 = .ok (.iload_n 3, 1) := by decide +kernel
theorem dX4_readLine_39 : decode cX4_readLine 39 = .ok (.invokevirtual 146, 3) := by decide +kernel
theorem dX4_readLine_42 : decode cX4_readLine 42 = .ok (.istore 4, 2) := by decide +kernel
theorem dX4_readLine_44 : decode cX4_readLine 44 = .ok (.iload 4, 2) := by decide +kernel
theorem dX4_readLine_46 : decode cX4_readLine 46 = .ok (.iconst (-1), 1) := by decide +kernel
theorem dX4_readLine_47 : decode cX4_readLine 47 = .ok (.if_icmp .ne 10, 3) := by decide +kernel
theorem dX4_readLine_50 : decode cX4_readLine 50 = .ok (.aload_n 0, 1) := by decide +kernel
theorem dX4_readLine_51 : decode cX4_readLine 51 = .ok (.iload_n 3, 1) := by decide +kernel
theorem dX4_readLine_52 : decode cX4_readLine 52 = .ok (.invokevirtual 149, 3) := by decide +kernel
theorem dX4_readLine_55 : decode cX4_readLine 55 = .ok (.istore 4, 2) := by decide +kernel
theorem dX4_readLine_57 : decode cX4_readLine 57 = .ok (.iload 4, 2) := by decide +kernel
theorem dX4_readLine_59 : decode cX4_readLine 59 = .ok (.ifCond .lt 19, 3) := by decide +kernel
theorem dX4_readLine_62 : decode cX4_readLine 62 = .ok (.aload_n 0, 1) := by decide +kernel
theorem dX4_readLine_63 : decode cX4_readLine 63 = .ok (.bipush 13, 2) := by decide +kernel
theorem dX4_readLine_65 : decode cX4_readLine 65 = .ok (.aload_n 0, 1) := by decide +kernel
theorem dX4_readLine_66 : decode cX4_readLine 66 = .ok (.getfield 12, 3) := by decide +kernel
theorem dX4_readLine_69 : decode cX4_readLine 69 = .ok (.getfield 124, 3) := by decide +kernel
theorem dX4_readLine_72 : decode cX4_readLine 72 = .ok (.iload 4, 2) := by decide +kernel
theorem dX4_readLine_74 : decode cX4_readLine 74 = .ok (.invokevirtual 152, 3) := by decide +kernel
theorem dX4_readLine_77 : decode cX4_readLine 77 = .ok (.istore_n 1, 1) := by decide +kernel
theorem dX4_readLine_78 : decode cX4_readLine 78 = .ok (.iinc 3 1, 3) := by decide +kernel
theorem dX4_readLine_81 : decode cX4_readLine 81 = .ok (.goto (-66), 3) := by decide +kernel
theorem dX4_readLine_84 : decode cX4_readLine 84 = .ok (.iload_n 1, 1) := by decide +kernel
theorem dX4_readLine_85 : decode cX4_readLine 85 = .ok (.iconst (-1), 1) := by decide +kernel
theorem dX4_readLine_86 : decode cX4_readLine 86 = .ok (.if_icmp .ne 25, 3) := by decide +kernel
theorem dX4_readLine_89 : decode cX4_readLine 89 = .ok (.aload_n 0, 1) := by decide +kernel
theorem dX4_readLine_90 : decode cX4_readLine 90 = .ok (.invokevirtual 156, 3) := by decide +kernel
theorem dX4_readLine_93 : decode cX4_readLine 93 = .ok (.ifCond .eq 18, 3) := by decide +kernel
theorem dX4_readLine_96 : decode cX4_readLine 96 = .ok (.aload_n 0, 1) := by decide +kernel
theorem dX4_readLine_97 : decode cX4_readLine 97 = .ok (.bipush 12, 2) := by decide +kernel
theorem dX4_readLine_99 : decode cX4_readLine 99 = .ok (.aload_n 0, 1) := by decide +kernel
theorem dX4_readLine_100 : decode cX4_readLine 100 = .ok (.getfield 12, 3) := by decide +kernel
theorem dX4_readLine_103 : decode cX4_readLine 103 = .ok (.getfield 124, 3) := by decide +kernel
theorem dX4_readLine_106 : decode cX4_readLine 106 = .ok (.iconst (-1), 1) := by decide +kernel
theorem dX4_readLine_107 : decode cX4_readLine 107 = .ok (.invokevirtual 152, 3) := by decide +kernel
theorem dX4_readLine_110 : decode cX4_readLine 110 = .ok (.istore_n 1, 1) := by decide +kernel
theorem dX4_readLine_111 : decode cX4_readLine 111 = .ok (.iload_n 1, 1) := by decide +kernel
theorem dX4_readLine_112 : decode cX4_readLine 112 = .ok (.ireturn, 1) := by decide +kernel
set_option maxRecDepth 20000 in
theorem ggX4_readForm_X3_isOdd : GoodIn wsX4_readForm wsX3_isOdd := goodIn_r _ [8, 9, 10, 11, 12, 13, 7, 14, 15, 16, 17, 18, 19, 20, 21, 22, 86, 87, 88, 89, 90, 91, 92, 106, 107] (by decide +kernel) (by decide +kernel)
set_option maxRecDepth 20000 in
theorem gX4_readForm_X3_isOdd : GoodIn wsX4_readForm (wsV RX4 159 RX3 yX3_isOdd wsX3_isOdd) := goodIn_app (goodIn_of _ (by decide +kernel)) ggX4_readForm_X3_isOdd
set_option maxRecDepth 20000 in
theorem ggX4_readForm_X4_fail : GoodIn wsX4_readForm wsX4_fail := goodIn_r _ [27, 28, 29, 30, 31, 3, 32, 33, 34, 35, 36, 37, 38, 39, 40, 41, 42, 43, 44, 45, 46, 47, 48, 49, 50, 51, 52, 53, 54, 55, 56, 57, 58, 59, 60, 61, 62, 26, 63, 64, 65, 67, 68, 69, 70, 71, 72, 73, 74, 75, 76, 77, 78, 79, 80, 81, 82, 83, 84, 85, 93, 94, 95, 96, 97, 98, 99, 100, 101, 102, 103, 104, 105, 108, 109, 110, 111, 112, 113, 114] (by decide +kernel) (by decide +kernel)
set_option maxRecDepth 20000 in
theorem gX4_readForm_X4_fail : GoodIn wsX4_readForm (wsV RX4 152 RX4 yX4_fail wsX4_fail) := goodIn_app (goodIn_of _ (by decide +kernel)) ggX4_readForm_X4_fail
set_option maxRecDepth 20000 in
theorem ggX4_readForm_X3_cellsDue : GoodIn wsX4_readForm wsX3_cellsDue := goodIn_r _ [14, 15, 86, 87, 88, 89, 90, 91, 92] (by decide +kernel) (by decide +kernel)
set_option maxRecDepth 20000 in
theorem gX4_readForm_X3_cellsDue : GoodIn wsX4_readForm (wsV RX4 143 RX3 yX3_cellsDue wsX3_cellsDue) := goodIn_app (goodIn_of _ (by decide +kernel)) ggX4_readForm_X3_cellsDue
theorem dX4_readForm_0 : decode cX4_readForm 0 = .ok (.aload_n 0, 1) := by decide +kernel
theorem dX4_readForm_1 : decode cX4_readForm 1 = .ok (.getfield 12, 3) := by decide +kernel
theorem dX4_readForm_4 : decode cX4_readForm 4 = .ok (.aload_n 0, 1) := by decide +kernel
theorem dX4_readForm_5 : decode cX4_readForm 5 = .ok (.getfield 36, 3) := by decide +kernel
theorem dX4_readForm_8 : decode cX4_readForm 8 = .ok (.invokevirtual 159, 3) := by decide +kernel
theorem dX4_readForm_11 : decode cX4_readForm 11 = .ok (.ifCond .eq 30, 3) := by decide +kernel
theorem dX4_readForm_14 : decode cX4_readForm 14 = .ok (.aload_n 0, 1) := by decide +kernel
theorem dX4_readForm_15 : decode cX4_readForm 15 = .ok (.bipush 9, 2) := by decide +kernel
theorem dX4_readForm_17 : decode cX4_readForm 17 = .ok (.aload_n 0, 1) := by decide +kernel
theorem dX4_readForm_18 : decode cX4_readForm 18 = .ok (.getfield 12, 3) := by decide +kernel
theorem dX4_readForm_21 : decode cX4_readForm 21 = .ok (.getfield 124, 3) := by decide +kernel
theorem dX4_readForm_24 : decode cX4_readForm 24 = .ok (.iconst (-1), 1) := by decide +kernel
theorem dX4_readForm_25 : decode cX4_readForm 25 = .ok (.invokevirtual 152, 3) := by decide +kernel
theorem dX4_readForm_28 : decode cX4_readForm 28 = .ok (.istore_n 1, 1) := by decide +kernel
theorem dX4_readForm_29 : decode cX4_readForm 29 = .ok (.iload_n 1, 1) := by decide +kernel
theorem dX4_readForm_30 : decode cX4_readForm 30 = .ok (.iconst (-1), 1) := by decide +kernel
theorem dX4_readForm_31 : decode cX4_readForm 31 = .ok (.if_icmp .ne 8, 3) := by decide +kernel
theorem dX4_readForm_34 : decode cX4_readForm 34 = .ok (.bipush (-2), 2) := by decide +kernel
theorem dX4_readForm_36 : decode cX4_readForm 36 = .ok (.goto 4, 3) := by decide +kernel
theorem dX4_readForm_39 : decode cX4_readForm 39 = .ok (.iload_n 1, 1) := by decide +kernel
theorem dX4_readForm_40 : decode cX4_readForm 40 = .ok (.ireturn, 1) := by decide +kernel
theorem dX4_readForm_41 : decode cX4_readForm 41 = .ok (.aload_n 0, 1) := by decide +kernel
theorem dX4_readForm_42 : decode cX4_readForm 42 = .ok (.getfield 28, 3) := by decide +kernel
theorem dX4_readForm_45 : decode cX4_readForm 45 = .ok (.getfield 81, 3) := by decide +kernel
theorem dX4_readForm_48 : decode cX4_readForm 48 = .ok (.ifCond .ne 33, 3) := by decide +kernel
theorem dX4_readForm_51 : decode cX4_readForm 51 = .ok (.aload_n 0, 1) := by decide +kernel
theorem dX4_readForm_52 : decode cX4_readForm 52 = .ok (.getfield 12, 3) := by decide +kernel
theorem dX4_readForm_55 : decode cX4_readForm 55 = .ok (.getfield 121, 3) := by decide +kernel
theorem dX4_readForm_58 : decode cX4_readForm 58 = .ok (.bipush 80, 2) := by decide +kernel
theorem dX4_readForm_60 : decode cX4_readForm 60 = .ok (.if_icmp .ne 21, 3) := by decide +kernel
theorem dX4_readForm_63 : decode cX4_readForm 63 = .ok (.aload_n 0, 1) := by decide +kernel
theorem dX4_readForm_64 : decode cX4_readForm 64 = .ok (.bipush 19, 2) := by decide +kernel
theorem dX4_readForm_66 : decode cX4_readForm 66 = .ok (.aload_n 0, 1) := by decide +kernel
theorem dX4_readForm_67 : decode cX4_readForm 67 = .ok (.getfield 12, 3) := by decide +kernel
theorem dX4_readForm_70 : decode cX4_readForm 70 = .ok (.getfield 124, 3) := by decide +kernel
theorem dX4_readForm_73 : decode cX4_readForm 73 = .ok (.iconst (-1), 1) := by decide +kernel
theorem dX4_readForm_74 : decode cX4_readForm 74 = .ok (.invokevirtual 152, 3) := by decide +kernel
theorem dX4_readForm_77 : decode cX4_readForm 77 = .ok (.pop, 1) := by decide +kernel
theorem dX4_readForm_78 : decode cX4_readForm 78 = .ok (.bipush (-2), 2) := by decide +kernel
theorem dX4_readForm_80 : decode cX4_readForm 80 = .ok (.ireturn, 1) := by decide +kernel
theorem dX4_readForm_81 : decode cX4_readForm 81 = .ok (.aload_n 0, 1) := by decide +kernel
theorem dX4_readForm_82 : decode cX4_readForm 82 = .ok (.getfield 12, 3) := by decide +kernel
theorem dX4_readForm_85 : decode cX4_readForm 85 = .ok (.invokevirtual 143, 3) := by decide +kernel
theorem dX4_readForm_88 : decode cX4_readForm 88 = .ok (.istore_n 1, 1) := by decide +kernel
theorem dX4_readForm_89 : decode cX4_readForm 89 = .ok (.aload_n 0, 1) := by decide +kernel
theorem dX4_readForm_90 : decode cX4_readForm 90 = .ok (.getfield 12, 3) := by decide +kernel
theorem dX4_readForm_93 : decode cX4_readForm 93 = .ok (.getfield 163, 3) := by decide +kernel
theorem dX4_readForm_96 : decode cX4_readForm 96 = .ok (.iload_n 1, 1) := by decide +kernel
theorem dX4_readForm_97 : decode cX4_readForm 97 = .ok (.if_icmp .ge 18, 3) := by decide +kernel
theorem dX4_readForm_100 : decode cX4_readForm 100 = .ok (.aload_n 0, 1) := by decide +kernel
theorem dX4_readForm_101 : decode cX4_readForm 101 = .ok (.bipush 10, 2) := by decide +kernel
theorem dX4_readForm_103 : decode cX4_readForm 103 = .ok (.aload_n 0, 1) := by decide +kernel
theorem dX4_readForm_104 : decode cX4_readForm 104 = .ok (.getfield 12, 3) := by decide +kernel
theorem dX4_readForm_107 : decode cX4_readForm 107 = .ok (.getfield 124, 3) := by decide +kernel
theorem dX4_readForm_110 : decode cX4_readForm 110 = .ok (.iconst (-1), 1) := by decide +kernel
theorem dX4_readForm_111 : decode cX4_readForm 111 = .ok (.invokevirtual 152, 3) := by decide +kernel
theorem dX4_readForm_114 : decode cX4_readForm 114 = .ok (.ireturn, 1) := by decide +kernel
theorem dX4_readForm_115 : decode cX4_readForm 115 = .ok (.aload_n 0, 1) := by decide +kernel
theorem dX4_readForm_116 : decode cX4_readForm 116 = .ok (.getfield 12, 3) := by decide +kernel
theorem dX4_readForm_119 : decode cX4_readForm 119 = .ok (.getfield 163, 3) := by decide +kernel
theorem dX4_readForm_122 : decode cX4_readForm 122 = .ok (.iload_n 1, 1) := by decide +kernel
theorem dX4_readForm_123 : decode cX4_readForm 123 = .ok (.if_icmp .le 18, 3) := by decide +kernel
theorem dX4_readForm_126 : decode cX4_readForm 126 = .ok (.aload_n 0, 1) := by decide +kernel
theorem dX4_readForm_127 : decode cX4_readForm 127 = .ok (.bipush 11, 2) := by decide +kernel
theorem dX4_readForm_129 : decode cX4_readForm 129 = .ok (.aload_n 0, 1) := by decide +kernel
theorem dX4_readForm_130 : decode cX4_readForm 130 = .ok (.getfield 12, 3) := by decide +kernel
theorem dX4_readForm_133 : decode cX4_readForm 133 = .ok (.getfield 124, 3) := by decide +kernel
theorem dX4_readForm_136 : decode cX4_readForm 136 = .ok (.iconst (-1), 1) := by decide +kernel
theorem dX4_readForm_137 : decode cX4_readForm 137 = .ok (.invokevirtual 152, 3) := by decide +kernel
theorem dX4_readForm_140 : decode cX4_readForm 140 = .ok (.ireturn, 1) := by decide +kernel
theorem dX4_readForm_141 : decode cX4_readForm 141 = .ok (.iconst (-1), 1) := by decide +kernel
theorem dX4_readForm_142 : decode cX4_readForm 142 = .ok (.ireturn, 1) := by decide +kernel
theorem dX4_isWorkingChild_0 : decode cX4_isWorkingChild 0 = .ok (.aload_n 0, 1) := by decide +kernel
theorem dX4_isWorkingChild_1 : decode cX4_isWorkingChild 1 = .ok (.getfield 12, 3) := by decide +kernel
theorem dX4_isWorkingChild_4 : decode cX4_isWorkingChild 4 = .ok (.getfield 121, 3) := by decide +kernel
theorem dX4_isWorkingChild_7 : decode cX4_isWorkingChild 7 = .ok (.bipush 80, 2) := by decide +kernel
theorem dX4_isWorkingChild_9 : decode cX4_isWorkingChild 9 = .ok (.if_icmp .eq 5, 3) := by decide +kernel
theorem dX4_isWorkingChild_12 : decode cX4_isWorkingChild 12 = .ok (.iconst 0, 1) := by decide +kernel
theorem dX4_isWorkingChild_13 : decode cX4_isWorkingChild 13 = .ok (.ireturn, 1) := by decide +kernel
theorem dX4_isWorkingChild_14 : decode cX4_isWorkingChild 14 = .ok (.aload_n 0, 1) := by decide +kernel
theorem dX4_isWorkingChild_15 : decode cX4_isWorkingChild 15 = .ok (.getfield 32, 3) := by decide +kernel
theorem dX4_isWorkingChild_18 : decode cX4_isWorkingChild 18 = .ok (.iconst 3, 1) := by decide +kernel
theorem dX4_isWorkingChild_19 : decode cX4_isWorkingChild 19 = .ok (.iaload, 1) := by decide +kernel
theorem dX4_isWorkingChild_20 : decode cX4_isWorkingChild 20 = .ok (.istore_n 1, 1) := by decide +kernel
theorem dX4_isWorkingChild_21 : decode cX4_isWorkingChild 21 = .ok (.aload_n 0, 1) := by decide +kernel
theorem dX4_isWorkingChild_22 : decode cX4_isWorkingChild 22 = .ok (.getfield 32, 3) := by decide +kernel
theorem dX4_isWorkingChild_25 : decode cX4_isWorkingChild 25 = .ok (.iconst 4, 1) := by decide +kernel
theorem dX4_isWorkingChild_26 : decode cX4_isWorkingChild 26 = .ok (.iaload, 1) := by decide +kernel
theorem dX4_isWorkingChild_27 : decode cX4_isWorkingChild 27 = .ok (.istore_n 2, 1) := by decide +kernel
theorem dX4_isWorkingChild_28 : decode cX4_isWorkingChild 28 = .ok (.iload_n 1, 1) := by decide +kernel
theorem dX4_isWorkingChild_29 : decode cX4_isWorkingChild 29 = .ok (.iconst (-1), 1) := by decide +kernel
theorem dX4_isWorkingChild_30 : decode cX4_isWorkingChild 30 = .ok (.if_icmp .eq 22, 3) := by decide +kernel
theorem dX4_isWorkingChild_33 : decode cX4_isWorkingChild 33 = .ok (.iload_n 1, 1) := by decide +kernel
theorem dX4_isWorkingChild_34 : decode cX4_isWorkingChild 34 = .ok (.bipush 10, 2) := by decide +kernel
theorem dX4_isWorkingChild_36 : decode cX4_isWorkingChild 36 = .ok (.if_icmp .ge 16, 3) := by decide +kernel
