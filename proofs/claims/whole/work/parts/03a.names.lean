theorem dX0_has_0 : decode cX0_has 0 = .ok (.iload_n 0, 1) := by decide +kernel
theorem dX0_has_1 : decode cX0_has 1 = .ok (.ldc 11, 2) := by decide +kernel
theorem dX0_has_3 : decode cX0_has 3 = .ok (.if_icmp .lt 13, 3) := by decide +kernel
theorem dX0_has_6 : decode cX0_has 6 = .ok (.iload_n 0, 1) := by decide +kernel
theorem dX0_has_7 : decode cX0_has 7 = .ok (.ldc 12, 2) := by decide +kernel
theorem dX0_has_9 : decode cX0_has 9 = .ok (.if_icmp .gt 7, 3) := by decide +kernel
theorem dX0_has_12 : decode cX0_has 12 = .ok (.iconst 1, 1) := by decide +kernel
theorem dX0_has_13 : decode cX0_has 13 = .ok (.goto 4, 3) := by decide +kernel
theorem dX0_has_16 : decode cX0_has 16 = .ok (.iconst 0, 1) := by decide +kernel
theorem dX0_has_17 : decode cX0_has 17 = .ok (.ireturn, 1) := by decide +kernel
theorem dX0_signOf_0 : decode cX0_signOf 0 = .ok (.iload_n 1, 1) := by decide +kernel
theorem dX0_signOf_1 : decode cX0_signOf 1 = .ok (.tableswitch 146 0 9 #[55, 60, 69, 79, 88, 93, 102, 110, 123, 136], 55) := by decide +kernel
theorem dX0_signOf_56 : decode cX0_signOf 56 = .ok (.iload_n 0, 1) := by decide +kernel
theorem dX0_signOf_57 : decode cX0_signOf 57 = .ok (.ldc 13, 2) := by decide +kernel
theorem dX0_signOf_59 : decode cX0_signOf 59 = .ok (.idiv, 1) := by decide +kernel
theorem dX0_signOf_60 : decode cX0_signOf 60 = .ok (.ireturn, 1) := by decide +kernel
theorem dX0_signOf_61 : decode cX0_signOf 61 = .ok (.iload_n 0, 1) := by decide +kernel
theorem dX0_signOf_62 : decode cX0_signOf 62 = .ok (.ldc 13, 2) := by decide +kernel
theorem dX0_signOf_64 : decode cX0_signOf 64 = .ok (.irem, 1) := by decide +kernel
theorem dX0_signOf_65 : decode cX0_signOf 65 = .ok (.sipush 7200, 3) := by decide +kernel
theorem dX0_signOf_68 : decode cX0_signOf 68 = .ok (.idiv, 1) := by decide +kernel
theorem dX0_signOf_69 : decode cX0_signOf 69 = .ok (.ireturn, 1) := by decide +kernel
theorem dX0_signOf_70 : decode cX0_signOf 70 = .ok (.iload_n 0, 1) := by decide +kernel
theorem dX0_signOf_71 : decode cX0_signOf 71 = .ok (.sipush 7200, 3) := by decide +kernel
theorem dX0_signOf_74 : decode cX0_signOf 74 = .ok (.irem, 1) := by decide +kernel
theorem dX0_signOf_75 : decode cX0_signOf 75 = .ok (.sipush 360, 3) := by decide +kernel
theorem dX0_signOf_78 : decode cX0_signOf 78 = .ok (.idiv, 1) := by decide +kernel
theorem dX0_signOf_79 : decode cX0_signOf 79 = .ok (.ireturn, 1) := by decide +kernel
theorem dX0_signOf_80 : decode cX0_signOf 80 = .ok (.iload_n 0, 1) := by decide +kernel
theorem dX0_signOf_81 : decode cX0_signOf 81 = .ok (.sipush 360, 3) := by decide +kernel
theorem dX0_signOf_84 : decode cX0_signOf 84 = .ok (.irem, 1) := by decide +kernel
theorem dX0_signOf_85 : decode cX0_signOf 85 = .ok (.bipush 20, 2) := by decide +kernel
theorem dX0_signOf_87 : decode cX0_signOf 87 = .ok (.idiv, 1) := by decide +kernel
theorem dX0_signOf_88 : decode cX0_signOf 88 = .ok (.ireturn, 1) := by decide +kernel
theorem dX0_signOf_89 : decode cX0_signOf 89 = .ok (.iload_n 0, 1) := by decide +kernel
theorem dX0_signOf_90 : decode cX0_signOf 90 = .ok (.bipush 20, 2) := by decide +kernel
theorem dX0_signOf_92 : decode cX0_signOf 92 = .ok (.irem, 1) := by decide +kernel
theorem dX0_signOf_93 : decode cX0_signOf 93 = .ok (.ireturn, 1) := by decide +kernel
theorem dX0_signOf_94 : decode cX0_signOf 94 = .ok (.iload_n 0, 1) := by decide +kernel
theorem dX0_signOf_95 : decode cX0_signOf 95 = .ok (.iconst 3, 1) := by decide +kernel
theorem dX0_signOf_96 : decode cX0_signOf 96 = .ok (.iadd, 1) := by decide +kernel
theorem dX0_signOf_97 : decode cX0_signOf 97 = .ok (.bipush 13, 2) := by decide +kernel
theorem dX0_signOf_99 : decode cX0_signOf 99 = .ok (.irem, 1) := by decide +kernel
theorem dX0_signOf_100 : decode cX0_signOf 100 = .ok (.iconst 1, 1) := by decide +kernel
theorem dX0_signOf_101 : decode cX0_signOf 101 = .ok (.iadd, 1) := by decide +kernel
theorem dX0_signOf_102 : decode cX0_signOf 102 = .ok (.ireturn, 1) := by decide +kernel
theorem dX0_signOf_103 : decode cX0_signOf 103 = .ok (.iload_n 0, 1) := by decide +kernel
theorem dX0_signOf_104 : decode cX0_signOf 104 = .ok (.bipush 19, 2) := by decide +kernel
theorem dX0_signOf_106 : decode cX0_signOf 106 = .ok (.iadd, 1) := by decide +kernel
theorem dX0_signOf_107 : decode cX0_signOf 107 = .ok (.bipush 20, 2) := by decide +kernel
theorem dX0_signOf_109 : decode cX0_signOf 109 = .ok (.irem, 1) := by decide +kernel
theorem dX0_signOf_110 : decode cX0_signOf 110 = .ok (.ireturn, 1) := by decide +kernel
theorem dX0_signOf_111 : decode cX0_signOf 111 = .ok (.iload_n 0, 1) := by decide +kernel
theorem dX0_signOf_112 : decode cX0_signOf 112 = .ok (.sipush 348, 3) := by decide +kernel
theorem dX0_signOf_115 : decode cX0_signOf 115 = .ok (.iadd, 1) := by decide +kernel
theorem dX0_signOf_116 : decode cX0_signOf 116 = .ok (.sipush 365, 3) := by decide +kernel
theorem dX0_signOf_119 : decode cX0_signOf 119 = .ok (.irem, 1) := by decide +kernel
theorem dX0_signOf_120 : decode cX0_signOf 120 = .ok (.bipush 20, 2) := by decide +kernel
theorem dX0_signOf_122 : decode cX0_signOf 122 = .ok (.irem, 1) := by decide +kernel
theorem dX0_signOf_123 : decode cX0_signOf 123 = .ok (.ireturn, 1) := by decide +kernel
theorem dX0_signOf_124 : decode cX0_signOf 124 = .ok (.iload_n 0, 1) := by decide +kernel
theorem dX0_signOf_125 : decode cX0_signOf 125 = .ok (.sipush 348, 3) := by decide +kernel
theorem dX0_signOf_128 : decode cX0_signOf 128 = .ok (.iadd, 1) := by decide +kernel
theorem dX0_signOf_129 : decode cX0_signOf 129 = .ok (.sipush 365, 3) := by decide +kernel
theorem dX0_signOf_132 : decode cX0_signOf 132 = .ok (.irem, 1) := by decide +kernel
theorem dX0_signOf_133 : decode cX0_signOf 133 = .ok (.bipush 20, 2) := by decide +kernel
theorem dX0_signOf_135 : decode cX0_signOf 135 = .ok (.idiv, 1) := by decide +kernel
theorem dX0_signOf_136 : decode cX0_signOf 136 = .ok (.ireturn, 1) := by decide +kernel
theorem dX0_signOf_137 : decode cX0_signOf 137 = .ok (.iload_n 0, 1) := by decide +kernel
theorem dX0_signOf_138 : decode cX0_signOf 138 = .ok (.bipush 8, 2) := by decide +kernel
theorem dX0_signOf_140 : decode cX0_signOf 140 = .ok (.iadd, 1) := by decide +kernel
theorem dX0_signOf_141 : decode cX0_signOf 141 = .ok (.bipush 9, 2) := by decide +kernel
theorem dX0_signOf_143 : decode cX0_signOf 143 = .ok (.irem, 1) := by decide +kernel
theorem dX0_signOf_144 : decode cX0_signOf 144 = .ok (.iconst 1, 1) := by decide +kernel
theorem dX0_signOf_145 : decode cX0_signOf 145 = .ok (.iadd, 1) := by decide +kernel
theorem dX0_signOf_146 : decode cX0_signOf 146 = .ok (.ireturn, 1) := by decide +kernel
theorem dX0_signOf_147 : decode cX0_signOf 147 = .ok (.iload_n 0, 1) := by decide +kernel
theorem dX0_signOf_148 : decode cX0_signOf 148 = .ok (.iload_n 2, 1) := by decide +kernel
theorem dX0_signOf_149 : decode cX0_signOf 149 = .ok (.iadd, 1) := by decide +kernel
theorem dX0_signOf_150 : decode cX0_signOf 150 = .ok (.sipush 149, 3) := by decide +kernel
theorem dX0_signOf_153 : decode cX0_signOf 153 = .ok (.imul, 1) := by decide +kernel
theorem dX0_signOf_154 : decode cX0_signOf 154 = .ok (.sipush 4400, 3) := by decide +kernel
theorem dX0_signOf_157 : decode cX0_signOf 157 = .ok (.irem, 1) := by decide +kernel
theorem dX0_signOf_158 : decode cX0_signOf 158 = .ok (.sipush 149, 3) := by decide +kernel
theorem dX0_signOf_161 : decode cX0_signOf 161 = .ok (.idiv, 1) := by decide +kernel
theorem dX0_signOf_162 : decode cX0_signOf 162 = .ok (.ireturn, 1) := by decide +kernel
theorem dX0_holds_0 : decode cX0_holds 0 = .ok (.iload_n 1, 1) := by decide +kernel
theorem dX0_holds_1 : decode cX0_holds 1 = .ok (.ifCond .lt 21, 3) := by decide +kernel
theorem dX0_holds_4 : decode cX0_holds 4 = .ok (.iload_n 1, 1) := by decide +kernel
theorem dX0_holds_5 : decode cX0_holds 5 = .ok (.bipush 32, 2) := by decide +kernel
theorem dX0_holds_7 : decode cX0_holds 7 = .ok (.if_icmp .ge 15, 3) := by decide +kernel
theorem dX0_holds_10 : decode cX0_holds 10 = .ok (.iload_n 0, 1) := by decide +kernel
theorem dX0_holds_11 : decode cX0_holds 11 = .ok (.iload_n 1, 1) := by decide +kernel
theorem dX0_holds_12 : decode cX0_holds 12 = .ok (.ishr, 1) := by decide +kernel
theorem dX0_holds_13 : decode cX0_holds 13 = .ok (.iconst 1, 1) := by decide +kernel
theorem dX0_holds_14 : decode cX0_holds 14 = .ok (.iand, 1) := by decide +kernel
theorem dX0_holds_15 : decode cX0_holds 15 = .ok (.ifCond .eq 7, 3) := by decide +kernel
theorem dX0_holds_18 : decode cX0_holds 18 = .ok (.iconst 1, 1) := by decide +kernel
theorem dX0_holds_19 : decode cX0_holds 19 = .ok (.goto 4, 3) := by decide +kernel
theorem dX0_holds_22 : decode cX0_holds 22 = .ok (.iconst 0, 1) := by decide +kernel
theorem dX0_holds_23 : decode cX0_holds 23 = .ok (.ireturn, 1) := by decide +kernel
set_option maxRecDepth 20000 in
theorem ggX1_init_X7_init : GoodIn wsX1_init wsX7_init := goodIn_r _ [15, 16, 2, 3, 17, 18, 19, 20, 21, 22, 23, 31, 32, 33] (by decide +kernel) (by decide +kernel)
set_option maxRecDepth 20000 in
theorem gX1_init_X7_init : GoodIn wsX1_init (wsX7_init) := ggX1_init_X7_init
theorem dX1_init_0 : decode cX1_init 0 = .ok (.aload_n 0, 1) := by decide +kernel
theorem dX1_init_1 : decode cX1_init 1 = .ok (.invokespecial 3, 3) := by decide +kernel
theorem dX1_init_4 : decode cX1_init 4 = .ok (.aload_n 0, 1) := by decide +kernel
theorem dX1_init_5 : decode cX1_init 5 = .ok (.sipush 300, 3) := by decide +kernel
theorem dX1_init_8 : decode cX1_init 8 = .ok (.newarray .int, 2) := by decide +kernel
theorem dX1_init_10 : decode cX1_init 10 = .ok (.putfield 9, 3) := by decide +kernel
theorem dX1_init_13 : decode cX1_init 13 = .ok (.aload_n 0, 1) := by decide +kernel
theorem dX1_init_14 : decode cX1_init 14 = .ok (.new 15, 3) := by decide +kernel
theorem dX1_init_17 : decode cX1_init 17 = .ok (.dup, 1) := by decide +kernel
theorem dX1_init_18 : decode cX1_init 18 = .ok (.sipush 360, 3) := by decide +kernel
theorem dX1_init_21 : decode cX1_init 21 = .ok (.invokespecial 17, 3) := by decide +kernel
theorem dX1_init_24 : decode cX1_init 24 = .ok (.putfield 20, 3) := by decide +kernel
theorem dX1_init_27 : decode cX1_init 27 = .ok (.aload_n 0, 1) := by decide +kernel
theorem dX1_init_28 : decode cX1_init 28 = .ok (.new 15, 3) := by decide +kernel
theorem dX1_init_31 : decode cX1_init 31 = .ok (.dup, 1) := by decide +kernel
theorem dX1_init_32 : decode cX1_init 32 = .ok (.bipush 13, 2) := by decide +kernel
theorem dX1_init_34 : decode cX1_init 34 = .ok (.invokespecial 17, 3) := by decide +kernel
theorem dX1_init_37 : decode cX1_init 37 = .ok (.putfield 24, 3) := by decide +kernel
theorem dX1_init_40 : decode cX1_init 40 = .ok (.aload_n 0, 1) := by decide +kernel
theorem dX1_init_41 : decode cX1_init 41 = .ok (.new 15, 3) := by decide +kernel
theorem dX1_init_44 : decode cX1_init 44 = .ok (.dup, 1) := by decide +kernel
theorem dX1_init_45 : decode cX1_init 45 = .ok (.sipush 365, 3) := by decide +kernel
theorem dX1_init_48 : decode cX1_init 48 = .ok (.invokespecial 17, 3) := by decide +kernel
theorem dX1_init_51 : decode cX1_init 51 = .ok (.putfield 27, 3) := by decide +kernel
theorem dX1_init_54 : decode cX1_init 54 = .ok (.aload_n 0, 1) := by decide +kernel
theorem dX1_init_55 : decode cX1_init 55 = .ok (.new 15, 3) := by decide +kernel
theorem dX1_init_58 : decode cX1_init 58 = .ok (.dup, 1) := by decide +kernel
theorem dX1_init_59 : decode cX1_init 59 = .ok (.sipush 4400, 3) := by decide +kernel
theorem dX1_init_62 : decode cX1_init 62 = .ok (.invokespecial 17, 3) := by decide +kernel
theorem dX1_init_65 : decode cX1_init 65 = .ok (.putfield 30, 3) := by decide +kernel
theorem dX1_init_68 : decode cX1_init 68 = .ok (.return_, 1) := by decide +kernel
set_option maxRecDepth 20000 in
theorem ggX1_seek_X1_turnInner : GoodIn wsX1_seek wsX1_turnInner := goodIn_r _ [9, 10, 3, 11, 12, 13, 14, 15, 16, 17, 18, 19, 20, 21, 22, 23, 24, 25, 26, 27, 28, 29, 30, 31, 32, 33, 34, 35, 36, 37, 38, 75, 76, 77, 78, 79, 80, 81, 82, 83, 84] (by decide +kernel) (by decide +kernel)
set_option maxRecDepth 20000 in
theorem gX1_seek_X1_turnInner : GoodIn wsX1_seek (wsV RX1 40 RX1 yX1_turnInner wsX1_turnInner) := goodIn_app (goodIn_of _ (by decide +kernel)) ggX1_seek_X1_turnInner
set_option maxRecDepth 20000 in
theorem ggX1_seek_X1_turnThirteen : GoodIn wsX1_seek wsX1_turnThirteen := goodIn_r _ [42, 43, 11, 12, 13, 14, 15, 16, 17, 18, 19, 20, 21, 27, 28, 24, 29, 30, 31, 32, 33, 34, 35, 36, 37, 38, 75, 76, 77, 78, 79, 80, 81, 82, 83, 84] (by decide +kernel) (by decide +kernel)
set_option maxRecDepth 20000 in
theorem gX1_seek_X1_turnThirteen : GoodIn wsX1_seek (wsV RX1 44 RX1 yX1_turnThirteen wsX1_turnThirteen) := goodIn_app (goodIn_of _ (by decide +kernel)) ggX1_seek_X1_turnThirteen
set_option maxRecDepth 20000 in
theorem ggX1_seek_X1_turnYear : GoodIn wsX1_seek wsX1_turnYear := goodIn_r _ [47, 48, 11, 12, 13, 14, 15, 16, 17, 18, 19, 20, 21, 27, 28, 24, 29, 30, 31, 32, 33, 34, 35, 36, 37, 38, 75, 76, 77, 78, 79, 80, 81, 82, 83, 84] (by decide +kernel) (by decide +kernel)
set_option maxRecDepth 20000 in
theorem gX1_seek_X1_turnYear : GoodIn wsX1_seek (wsV RX1 47 RX1 yX1_turnYear wsX1_turnYear) := goodIn_app (goodIn_of _ (by decide +kernel)) ggX1_seek_X1_turnYear
set_option maxRecDepth 20000 in
theorem ggX1_seek_X1_turnLunar : GoodIn wsX1_seek wsX1_turnLunar := goodIn_r _ [52, 53, 11, 12, 13, 14, 15, 16, 17, 18, 19, 20, 21, 22, 23, 24, 25, 26, 27, 28, 29, 30, 31, 32, 33, 34, 35, 36, 37, 38, 75, 76, 77, 78, 79, 80, 81, 82, 83, 84] (by decide +kernel) (by decide +kernel)
set_option maxRecDepth 20000 in
theorem gX1_seek_X1_turnLunar : GoodIn wsX1_seek (wsV RX1 51 RX1 yX1_turnLunar wsX1_turnLunar) := goodIn_app (goodIn_of _ (by decide +kernel)) ggX1_seek_X1_turnLunar
set_option maxRecDepth 20000 in
theorem ggX1_seek_X0_signOf : GoodIn wsX1_seek wsX0_signOf := goodIn_r _ [25, 26] (by decide +kernel) (by decide +kernel)
set_option maxRecDepth 20000 in
theorem gX1_seek_X0_signOf : GoodIn wsX1_seek (va_wsS RX1 58 yX0_signOf wsX0_signOf) := goodIn_app (goodIn_of _ (by decide +kernel)) ggX1_seek_X0_signOf
set_option maxRecDepth 20000 in
theorem ggX1_seek_X0_holds : GoodIn wsX1_seek wsX0_holds := goodIn_r _ [29] (by decide +kernel) (by decide +kernel)
set_option maxRecDepth 20000 in
theorem gX1_seek_X0_holds : GoodIn wsX1_seek (va_wsS RX1 62 yX0_holds wsX0_holds) := goodIn_app (goodIn_of _ (by decide +kernel)) ggX1_seek_X0_holds
set_option maxRecDepth 20000 in
theorem ggX1_seek_X1_scan : GoodIn wsX1_seek wsX1_scan := goodIn_r _ [57, 10, 43, 48, 53, 2, 58, 59, 60, 14, 61, 16, 62, 38, 17, 63, 64, 65, 66, 67, 68, 69, 70, 71, 72, 8, 73, 1, 74, 75, 76, 77, 78, 79, 80, 81, 82, 83, 84] (by decide +kernel) (by decide +kernel)
set_option maxRecDepth 20000 in
theorem gX1_seek_X1_scan : GoodIn wsX1_seek (wsV RX1 66 RX1 yX1_scan wsX1_scan) := goodIn_app (goodIn_of _ (by decide +kernel)) ggX1_seek_X1_scan
theorem dX1_seek_0 : decode cX1_seek 0 = .ok (.aload_n 0, 1) := by decide +kernel
theorem dX1_seek_1 : decode cX1_seek 1 = .ok (.iconst 0, 1) := by decide +kernel
theorem dX1_seek_2 : decode cX1_seek 2 = .ok (.putfield 33, 3) := by decide +kernel
theorem dX1_seek_5 : decode cX1_seek 5 = .ok (.aload_n 0, 1) := by decide +kernel
theorem dX1_seek_6 : decode cX1_seek 6 = .ok (.iconst 0, 1) := by decide +kernel
theorem dX1_seek_7 : decode cX1_seek 7 = .ok (.putfield 37, 3) := by decide +kernel
theorem dX1_seek_10 : decode cX1_seek 10 = .ok (.aload_n 1, 1) := by decide +kernel
theorem dX1_seek_11 : decode cX1_seek 11 = .ok (.arraylength, 1) := by decide +kernel
theorem dX1_seek_12 : decode cX1_seek 12 = .ok (.bipush 11, 2) := by decide +kernel
theorem dX1_seek_14 : decode cX1_seek 14 = .ok (.if_icmp .eq 4, 3) := by decide +kernel
theorem dX1_seek_17 : decode cX1_seek 17 = .ok (.return_, 1) := by decide +kernel
theorem dX1_seek_18 : decode cX1_seek 18 = .ok (.aload_n 0, 1) := by decide +kernel
theorem dX1_seek_19 : decode cX1_seek 19 = .ok (.aload_n 1, 1) := by decide +kernel
theorem dX1_seek_20 : decode cX1_seek 20 = .ok (.iconst 3, 1) := by decide +kernel
theorem dX1_seek_21 : decode cX1_seek 21 = .ok (.iaload, 1) := by decide +kernel
theorem dX1_seek_22 : decode cX1_seek 22 = .ok (.aload_n 1, 1) := by decide +kernel
theorem dX1_seek_23 : decode cX1_seek 23 = .ok (.iconst 4, 1) := by decide +kernel
theorem dX1_seek_24 : decode cX1_seek 24 = .ok (.iaload, 1) := by decide +kernel
theorem dX1_seek_25 : decode cX1_seek 25 = .ok (.aload_n 1, 1) := by decide +kernel
theorem dX1_seek_26 : decode cX1_seek 26 = .ok (.bipush 6, 2) := by decide +kernel
theorem dX1_seek_28 : decode cX1_seek 28 = .ok (.iaload, 1) := by decide +kernel
theorem dX1_seek_29 : decode cX1_seek 29 = .ok (.aload_n 1, 1) := by decide +kernel
theorem dX1_seek_30 : decode cX1_seek 30 = .ok (.bipush 9, 2) := by decide +kernel
theorem dX1_seek_32 : decode cX1_seek 32 = .ok (.iaload, 1) := by decide +kernel
theorem dX1_seek_33 : decode cX1_seek 33 = .ok (.invokevirtual 40, 3) := by decide +kernel
theorem dX1_seek_36 : decode cX1_seek 36 = .ok (.aload_n 0, 1) := by decide +kernel
theorem dX1_seek_37 : decode cX1_seek 37 = .ok (.aload_n 1, 1) := by decide +kernel
theorem dX1_seek_38 : decode cX1_seek 38 = .ok (.iconst 5, 1) := by decide +kernel
theorem dX1_seek_39 : decode cX1_seek 39 = .ok (.iaload, 1) := by decide +kernel
theorem dX1_seek_40 : decode cX1_seek 40 = .ok (.invokevirtual 44, 3) := by decide +kernel
theorem dX1_seek_43 : decode cX1_seek 43 = .ok (.aload_n 0, 1) := by decide +kernel
theorem dX1_seek_44 : decode cX1_seek 44 = .ok (.aload_n 1, 1) := by decide +kernel
theorem dX1_seek_45 : decode cX1_seek 45 = .ok (.bipush 7, 2) := by decide +kernel
theorem dX1_seek_47 : decode cX1_seek 47 = .ok (.iaload, 1) := by decide +kernel
theorem dX1_seek_48 : decode cX1_seek 48 = .ok (.aload_n 1, 1) := by decide +kernel
theorem dX1_seek_49 : decode cX1_seek 49 = .ok (.bipush 8, 2) := by decide +kernel
theorem dX1_seek_51 : decode cX1_seek 51 = .ok (.iaload, 1) := by decide +kernel
theorem dX1_seek_52 : decode cX1_seek 52 = .ok (.invokevirtual 47, 3) := by decide +kernel
theorem dX1_seek_55 : decode cX1_seek 55 = .ok (.aload_n 0, 1) := by decide +kernel
theorem dX1_seek_56 : decode cX1_seek 56 = .ok (.aload_n 1, 1) := by decide +kernel
theorem dX1_seek_57 : decode cX1_seek 57 = .ok (.bipush 10, 2) := by decide +kernel
theorem dX1_seek_59 : decode cX1_seek 59 = .ok (.iaload, 1) := by decide +kernel
theorem dX1_seek_60 : decode cX1_seek 60 = .ok (.invokevirtual 51, 3) := by decide +kernel
theorem dX1_seek_63 : decode cX1_seek 63 = .ok (.ldc 56, 2) := by decide +kernel
theorem dX1_seek_65 : decode cX1_seek 65 = .ok (.istore_n 3, 1) := by decide +kernel
theorem dX1_seek_66 : decode cX1_seek 66 = .ok (.iload_n 3, 1) := by decide +kernel
theorem dX1_seek_67 : decode cX1_seek 67 = .ok (.ldc 57, 2) := by decide +kernel
theorem dX1_seek_69 : decode cX1_seek 69 = .ok (.if_icmp .gt 63, 3) := by decide +kernel
theorem dX1_seek_72 : decode cX1_seek 72 = .ok (.aload_n 1, 1) := by decide +kernel
theorem dX1_seek_73 : decode cX1_seek 73 = .ok (.iconst 0, 1) := by decide +kernel
theorem dX1_seek_74 : decode cX1_seek 74 = .ok (.iaload, 1) := by decide +kernel
theorem dX1_seek_75 : decode cX1_seek 75 = .ok (.iload_n 3, 1) := by decide +kernel
theorem dX1_seek_76 : decode cX1_seek 76 = .ok (.iconst 0, 1) := by decide +kernel
theorem dX1_seek_77 : decode cX1_seek 77 = .ok (.iconst 0, 1) := by decide +kernel
theorem dX1_seek_78 : decode cX1_seek 78 = .ok (.invokestatic 58, 3) := by decide +kernel
theorem dX1_seek_81 : decode cX1_seek 81 = .ok (.invokestatic 62, 3) := by decide +kernel
theorem dX1_seek_84 : decode cX1_seek 84 = .ok (.ifCond .eq 39, 3) := by decide +kernel
theorem dX1_seek_87 : decode cX1_seek 87 = .ok (.aload_n 1, 1) := by decide +kernel
theorem dX1_seek_88 : decode cX1_seek 88 = .ok (.iconst 1, 1) := by decide +kernel
theorem dX1_seek_89 : decode cX1_seek 89 = .ok (.iaload, 1) := by decide +kernel
theorem dX1_seek_90 : decode cX1_seek 90 = .ok (.iload_n 3, 1) := by decide +kernel
theorem dX1_seek_91 : decode cX1_seek 91 = .ok (.iconst 1, 1) := by decide +kernel
theorem dX1_seek_92 : decode cX1_seek 92 = .ok (.iconst 0, 1) := by decide +kernel
theorem dX1_seek_93 : decode cX1_seek 93 = .ok (.invokestatic 58, 3) := by decide +kernel
theorem dX1_seek_96 : decode cX1_seek 96 = .ok (.invokestatic 62, 3) := by decide +kernel
theorem dX1_seek_99 : decode cX1_seek 99 = .ok (.ifCond .eq 24, 3) := by decide +kernel
theorem dX1_seek_102 : decode cX1_seek 102 = .ok (.aload_n 1, 1) := by decide +kernel
theorem dX1_seek_103 : decode cX1_seek 103 = .ok (.iconst 2, 1) := by decide +kernel
theorem dX1_seek_104 : decode cX1_seek 104 = .ok (.iaload, 1) := by decide +kernel
theorem dX1_seek_105 : decode cX1_seek 105 = .ok (.iload_n 3, 1) := by decide +kernel
theorem dX1_seek_106 : decode cX1_seek 106 = .ok (.iconst 2, 1) := by decide +kernel
theorem dX1_seek_107 : decode cX1_seek 107 = .ok (.iconst 0, 1) := by decide +kernel
theorem dX1_seek_108 : decode cX1_seek 108 = .ok (.invokestatic 58, 3) := by decide +kernel
theorem dX1_seek_111 : decode cX1_seek 111 = .ok (.invokestatic 62, 3) := by decide +kernel
theorem dX1_seek_114 : decode cX1_seek 114 = .ok (.ifCond .eq 9, 3) := by decide +kernel
theorem dX1_seek_117 : decode cX1_seek 117 = .ok (.aload_n 0, 1) := by decide +kernel
theorem dX1_seek_118 : decode cX1_seek 118 = .ok (.iload_n 3, 1) := by decide +kernel
theorem dX1_seek_119 : decode cX1_seek 119 = .ok (.iload_n 2, 1) := by decide +kernel
theorem dX1_seek_120 : decode cX1_seek 120 = .ok (.invokevirtual 66, 3) := by decide +kernel
theorem dX1_seek_123 : decode cX1_seek 123 = .ok (.iinc 3 360, 6) := by decide +kernel
theorem dX1_seek_129 : decode cX1_seek 129 = .ok (.goto (-63), 3) := by decide +kernel
theorem dX1_seek_132 : decode cX1_seek 132 = .ok (.return_, 1) := by decide +kernel
set_option maxRecDepth 20000 in
theorem ggX1_turnInner_X7_reset : GoodIn wsX1_turnInner wsX7_reset := goodIn_r _ [7, 8, 9, 10, 11, 12, 13, 38, 39, 40] (by decide +kernel) (by decide +kernel)
set_option maxRecDepth 20000 in
theorem gX1_turnInner_X7_reset : GoodIn wsX1_turnInner (wsV RX1 69 RX7 yX7_reset wsX7_reset) := goodIn_app (goodIn_of _ (by decide +kernel)) ggX1_turnInner_X7_reset
set_option maxRecDepth 20000 in
theorem ggX1_turnInner_X0_signOf : GoodIn wsX1_turnInner wsX0_signOf := goodIn_r _ [17, 18] (by decide +kernel) (by decide +kernel)
set_option maxRecDepth 20000 in
theorem gX1_turnInner_X0_signOf : GoodIn wsX1_turnInner (va_wsS RX1 58 yX0_signOf wsX0_signOf) := goodIn_app (goodIn_of _ (by decide +kernel)) ggX1_turnInner_X0_signOf
set_option maxRecDepth 20000 in
theorem ggX1_turnInner_X0_holds : GoodIn wsX1_turnInner wsX0_holds := goodIn_r _ [21] (by decide +kernel) (by decide +kernel)
set_option maxRecDepth 20000 in
theorem gX1_turnInner_X0_holds : GoodIn wsX1_turnInner (va_wsS RX1 62 yX0_holds wsX0_holds) := goodIn_app (goodIn_of _ (by decide +kernel)) ggX1_turnInner_X0_holds
set_option maxRecDepth 20000 in
theorem ggX1_turnInner_X7_mark : GoodIn wsX1_turnInner wsX7_mark := goodIn_r _ [25, 26, 27, 28, 29, 30, 9, 38, 39, 40] (by decide +kernel) (by decide +kernel)
set_option maxRecDepth 20000 in
theorem gX1_turnInner_X7_mark : GoodIn wsX1_turnInner (wsV RX1 73 RX7 yX7_mark wsX7_mark) := goodIn_app (goodIn_of _ (by decide +kernel)) ggX1_turnInner_X7_mark
theorem dX1_turnInner_0 : decode cX1_turnInner 0 = .ok (.iload_n 1, 1) := by decide +kernel
theorem dX1_turnInner_1 : decode cX1_turnInner 1 = .ok (.iload_n 2, 1) := by decide +kernel
theorem dX1_turnInner_2 : decode cX1_turnInner 2 = .ok (.iand, 1) := by decide +kernel
theorem dX1_turnInner_3 : decode cX1_turnInner 3 = .ok (.iload_n 3, 1) := by decide +kernel
theorem dX1_turnInner_4 : decode cX1_turnInner 4 = .ok (.iand, 1) := by decide +kernel
theorem dX1_turnInner_5 : decode cX1_turnInner 5 = .ok (.iload 4, 2) := by decide +kernel
theorem dX1_turnInner_7 : decode cX1_turnInner 7 = .ok (.iand, 1) := by decide +kernel
theorem dX1_turnInner_8 : decode cX1_turnInner 8 = .ok (.iconst (-1), 1) := by decide +kernel
theorem dX1_turnInner_9 : decode cX1_turnInner 9 = .ok (.if_icmp .ne 7, 3) := by decide +kernel
theorem dX1_turnInner_12 : decode cX1_turnInner 12 = .ok (.iconst 1, 1) := by decide +kernel
theorem dX1_turnInner_13 : decode cX1_turnInner 13 = .ok (.goto 4, 3) := by decide +kernel
theorem dX1_turnInner_16 : decode cX1_turnInner 16 = .ok (.iconst 0, 1) := by decide +kernel
theorem dX1_turnInner_17 : decode cX1_turnInner 17 = .ok (.istore 5, 2) := by decide +kernel
theorem dX1_turnInner_19 : decode cX1_turnInner 19 = .ok (.aload_n 0, 1) := by decide +kernel
theorem dX1_turnInner_20 : decode cX1_turnInner 20 = .ok (.getfield 20, 3) := by decide +kernel
theorem dX1_turnInner_23 : decode cX1_turnInner 23 = .ok (.iload 5, 2) := by decide +kernel
theorem dX1_turnInner_25 : decode cX1_turnInner 25 = .ok (.invokevirtual 69, 3) := by decide +kernel
theorem dX1_turnInner_28 : decode cX1_turnInner 28 = .ok (.iconst 0, 1) := by decide +kernel
theorem dX1_turnInner_29 : decode cX1_turnInner 29 = .ok (.istore 6, 2) := by decide +kernel
theorem dX1_turnInner_31 : decode cX1_turnInner 31 = .ok (.iload 6, 2) := by decide +kernel
theorem dX1_turnInner_33 : decode cX1_turnInner 33 = .ok (.sipush 360, 3) := by decide +kernel
theorem dX1_turnInner_36 : decode cX1_turnInner 36 = .ok (.if_icmp .ge 89, 3) := by decide +kernel
theorem dX1_turnInner_39 : decode cX1_turnInner 39 = .ok (.iload 5, 2) := by decide +kernel
theorem dX1_turnInner_41 : decode cX1_turnInner 41 = .ok (.ifCond .ne 84, 3) := by decide +kernel
theorem dX1_turnInner_44 : decode cX1_turnInner 44 = .ok (.ldc 56, 2) := by decide +kernel
theorem dX1_turnInner_46 : decode cX1_turnInner 46 = .ok (.iload 6, 2) := by decide +kernel
theorem dX1_turnInner_48 : decode cX1_turnInner 48 = .ok (.iadd, 1) := by decide +kernel
theorem dX1_turnInner_49 : decode cX1_turnInner 49 = .ok (.istore 7, 2) := by decide +kernel
theorem dX1_turnInner_51 : decode cX1_turnInner 51 = .ok (.iload_n 1, 1) := by decide +kernel
theorem dX1_turnInner_52 : decode cX1_turnInner 52 = .ok (.iload 7, 2) := by decide +kernel
theorem dX1_turnInner_54 : decode cX1_turnInner 54 = .ok (.iconst 3, 1) := by decide +kernel
theorem dX1_turnInner_55 : decode cX1_turnInner 55 = .ok (.iconst 0, 1) := by decide +kernel
theorem dX1_turnInner_56 : decode cX1_turnInner 56 = .ok (.invokestatic 58, 3) := by decide +kernel
theorem dX1_turnInner_59 : decode cX1_turnInner 59 = .ok (.invokestatic 62, 3) := by decide +kernel
theorem dX1_turnInner_62 : decode cX1_turnInner 62 = .ok (.ifCond .eq 57, 3) := by decide +kernel
theorem dX1_turnInner_65 : decode cX1_turnInner 65 = .ok (.iload_n 2, 1) := by decide +kernel
theorem dX1_turnInner_66 : decode cX1_turnInner 66 = .ok (.iload 7, 2) := by decide +kernel
theorem dX1_turnInner_68 : decode cX1_turnInner 68 = .ok (.iconst 4, 1) := by decide +kernel
theorem dX1_turnInner_69 : decode cX1_turnInner 69 = .ok (.iconst 0, 1) := by decide +kernel
theorem dX1_turnInner_70 : decode cX1_turnInner 70 = .ok (.invokestatic 58, 3) := by decide +kernel
theorem dX1_turnInner_73 : decode cX1_turnInner 73 = .ok (.invokestatic 62, 3) := by decide +kernel
theorem dX1_turnInner_76 : decode cX1_turnInner 76 = .ok (.ifCond .eq 43, 3) := by decide +kernel
theorem dX1_turnInner_79 : decode cX1_turnInner 79 = .ok (.iload_n 3, 1) := by decide +kernel
theorem dX1_turnInner_80 : decode cX1_turnInner 80 = .ok (.iload 7, 2) := by decide +kernel
theorem dX1_turnInner_82 : decode cX1_turnInner 82 = .ok (.bipush 6, 2) := by decide +kernel
theorem dX1_turnInner_84 : decode cX1_turnInner 84 = .ok (.iconst 0, 1) := by decide +kernel
theorem dX1_turnInner_85 : decode cX1_turnInner 85 = .ok (.invokestatic 58, 3) := by decide +kernel
theorem dX1_turnInner_88 : decode cX1_turnInner 88 = .ok (.invokestatic 62, 3) := by decide +kernel
theorem dX1_turnInner_91 : decode cX1_turnInner 91 = .ok (.ifCond .eq 28, 3) := by decide +kernel
theorem dX1_turnInner_94 : decode cX1_turnInner 94 = .ok (.iload 4, 2) := by decide +kernel
theorem dX1_turnInner_96 : decode cX1_turnInner 96 = .ok (.iload 7, 2) := by decide +kernel
theorem dX1_turnInner_98 : decode cX1_turnInner 98 = .ok (.bipush 9, 2) := by decide +kernel
theorem dX1_turnInner_100 : decode cX1_turnInner 100 = .ok (.iconst 0, 1) := by decide +kernel
theorem dX1_turnInner_101 : decode cX1_turnInner 101 = .ok (.invokestatic 58, 3) := by decide +kernel
theorem dX1_turnInner_104 : decode cX1_turnInner 104 = .ok (.invokestatic 62, 3) := by decide +kernel
theorem dX1_turnInner_107 : decode cX1_turnInner 107 = .ok (.ifCond .eq 12, 3) := by decide +kernel
theorem dX1_turnInner_110 : decode cX1_turnInner 110 = .ok (.aload_n 0, 1) := by decide +kernel
theorem dX1_turnInner_111 : decode cX1_turnInner 111 = .ok (.getfield 20, 3) := by decide +kernel
theorem dX1_turnInner_114 : decode cX1_turnInner 114 = .ok (.iload 6, 2) := by decide +kernel
theorem dX1_turnInner_116 : decode cX1_turnInner 116 = .ok (.invokevirtual 73, 3) := by decide +kernel
theorem dX1_turnInner_119 : decode cX1_turnInner 119 = .ok (.iinc 6 1, 3) := by decide +kernel
theorem dX1_turnInner_122 : decode cX1_turnInner 122 = .ok (.goto (-91), 3) := by decide +kernel
theorem dX1_turnInner_125 : decode cX1_turnInner 125 = .ok (.return_, 1) := by decide +kernel
set_option maxRecDepth 20000 in
theorem ggX1_turnThirteen_X7_reset : GoodIn wsX1_turnThirteen wsX7_reset := goodIn_r _ [6, 7, 8, 9, 10, 11, 12, 33, 34, 35] (by decide +kernel) (by decide +kernel)
set_option maxRecDepth 20000 in
theorem gX1_turnThirteen_X7_reset : GoodIn wsX1_turnThirteen (wsV RX1 69 RX7 yX7_reset wsX7_reset) := goodIn_app (goodIn_of _ (by decide +kernel)) ggX1_turnThirteen_X7_reset
set_option maxRecDepth 20000 in
theorem ggX1_turnThirteen_X0_holds : GoodIn wsX1_turnThirteen wsX0_holds := goodIn_r _ [16] (by decide +kernel) (by decide +kernel)
set_option maxRecDepth 20000 in
theorem gX1_turnThirteen_X0_holds : GoodIn wsX1_turnThirteen (va_wsS RX1 62 yX0_holds wsX0_holds) := goodIn_app (goodIn_of _ (by decide +kernel)) ggX1_turnThirteen_X0_holds
set_option maxRecDepth 20000 in
theorem ggX1_turnThirteen_X7_mark : GoodIn wsX1_turnThirteen wsX7_mark := goodIn_r _ [20, 21, 22, 23, 24, 25, 8, 33, 34, 35] (by decide +kernel) (by decide +kernel)
set_option maxRecDepth 20000 in
theorem gX1_turnThirteen_X7_mark : GoodIn wsX1_turnThirteen (wsV RX1 73 RX7 yX7_mark wsX7_mark) := goodIn_app (goodIn_of _ (by decide +kernel)) ggX1_turnThirteen_X7_mark
theorem dX1_turnThirteen_0 : decode cX1_turnThirteen 0 = .ok (.aload_n 0, 1) := by decide +kernel
theorem dX1_turnThirteen_1 : decode cX1_turnThirteen 1 = .ok (.getfield 24, 3) := by decide +kernel
theorem dX1_turnThirteen_4 : decode cX1_turnThirteen 4 = .ok (.iload_n 1, 1) := by decide +kernel
theorem dX1_turnThirteen_5 : decode cX1_turnThirteen 5 = .ok (.iconst (-1), 1) := by decide +kernel
theorem dX1_turnThirteen_6 : decode cX1_turnThirteen 6 = .ok (.if_icmp .ne 7, 3) := by decide +kernel
theorem dX1_turnThirteen_9 : decode cX1_turnThirteen 9 = .ok (.iconst 1, 1) := by decide +kernel
theorem dX1_turnThirteen_10 : decode cX1_turnThirteen 10 = .ok (.goto 4, 3) := by decide +kernel
theorem dX1_turnThirteen_13 : decode cX1_turnThirteen 13 = .ok (.iconst 0, 1) := by decide +kernel
theorem dX1_turnThirteen_14 : decode cX1_turnThirteen 14 = .ok (.invokevirtual 69, 3) := by decide +kernel
theorem dX1_turnThirteen_17 : decode cX1_turnThirteen 17 = .ok (.iconst 0, 1) := by decide +kernel
theorem dX1_turnThirteen_18 : decode cX1_turnThirteen 18 = .ok (.istore_n 2, 1) := by decide +kernel
theorem dX1_turnThirteen_19 : decode cX1_turnThirteen 19 = .ok (.iload_n 2, 1) := by decide +kernel
theorem dX1_turnThirteen_20 : decode cX1_turnThirteen 20 = .ok (.bipush 13, 2) := by decide +kernel
theorem dX1_turnThirteen_22 : decode cX1_turnThirteen 22 = .ok (.if_icmp .ge 32, 3) := by decide +kernel
theorem dX1_turnThirteen_25 : decode cX1_turnThirteen 25 = .ok (.iload_n 1, 1) := by decide +kernel
theorem dX1_turnThirteen_26 : decode cX1_turnThirteen 26 = .ok (.iconst (-1), 1) := by decide +kernel
theorem dX1_turnThirteen_27 : decode cX1_turnThirteen 27 = .ok (.if_icmp .eq 27, 3) := by decide +kernel
theorem dX1_turnThirteen_30 : decode cX1_turnThirteen 30 = .ok (.iload_n 1, 1) := by decide +kernel
theorem dX1_turnThirteen_31 : decode cX1_turnThirteen 31 = .ok (.iload_n 2, 1) := by decide +kernel
theorem dX1_turnThirteen_32 : decode cX1_turnThirteen 32 = .ok (.iconst 1, 1) := by decide +kernel
theorem dX1_turnThirteen_33 : decode cX1_turnThirteen 33 = .ok (.iadd, 1) := by decide +kernel
theorem dX1_turnThirteen_34 : decode cX1_turnThirteen 34 = .ok (.invokestatic 62, 3) := by decide +kernel
theorem dX1_turnThirteen_37 : decode cX1_turnThirteen 37 = .ok (.ifCond .eq 11, 3) := by decide +kernel
theorem dX1_turnThirteen_40 : decode cX1_turnThirteen 40 = .ok (.aload_n 0, 1) := by decide +kernel
theorem dX1_turnThirteen_41 : decode cX1_turnThirteen 41 = .ok (.getfield 24, 3) := by decide +kernel
theorem dX1_turnThirteen_44 : decode cX1_turnThirteen 44 = .ok (.iload_n 2, 1) := by decide +kernel
theorem dX1_turnThirteen_45 : decode cX1_turnThirteen 45 = .ok (.invokevirtual 73, 3) := by decide +kernel
theorem dX1_turnThirteen_48 : decode cX1_turnThirteen 48 = .ok (.iinc 2 1, 3) := by decide +kernel
theorem dX1_turnThirteen_51 : decode cX1_turnThirteen 51 = .ok (.goto (-32), 3) := by decide +kernel
theorem dX1_turnThirteen_54 : decode cX1_turnThirteen 54 = .ok (.return_, 1) := by decide +kernel
set_option maxRecDepth 20000 in
theorem ggX1_turnYear_X7_reset : GoodIn wsX1_turnYear wsX7_reset := goodIn_r _ [6, 7, 8, 9, 10, 11, 12, 33, 34, 35] (by decide +kernel) (by decide +kernel)
set_option maxRecDepth 20000 in
theorem gX1_turnYear_X7_reset : GoodIn wsX1_turnYear (wsV RX1 69 RX7 yX7_reset wsX7_reset) := goodIn_app (goodIn_of _ (by decide +kernel)) ggX1_turnYear_X7_reset
set_option maxRecDepth 20000 in
theorem ggX1_turnYear_X0_holds : GoodIn wsX1_turnYear wsX0_holds := goodIn_r _ [16] (by decide +kernel) (by decide +kernel)
set_option maxRecDepth 20000 in
theorem gX1_turnYear_X0_holds : GoodIn wsX1_turnYear (va_wsS RX1 62 yX0_holds wsX0_holds) := goodIn_app (goodIn_of _ (by decide +kernel)) ggX1_turnYear_X0_holds
set_option maxRecDepth 20000 in
theorem ggX1_turnYear_X7_mark : GoodIn wsX1_turnYear wsX7_mark := goodIn_r _ [20, 21, 22, 23, 24, 25, 8, 33, 34, 35] (by decide +kernel) (by decide +kernel)
set_option maxRecDepth 20000 in
theorem gX1_turnYear_X7_mark : GoodIn wsX1_turnYear (wsV RX1 73 RX7 yX7_mark wsX7_mark) := goodIn_app (goodIn_of _ (by decide +kernel)) ggX1_turnYear_X7_mark
theorem dX1_turnYear_0 : decode cX1_turnYear 0 = .ok (.iload_n 1, 1) := by decide +kernel
theorem dX1_turnYear_1 : decode cX1_turnYear 1 = .ok (.iload_n 2, 1) := by decide +kernel
theorem dX1_turnYear_2 : decode cX1_turnYear 2 = .ok (.iand, 1) := by decide +kernel
theorem dX1_turnYear_3 : decode cX1_turnYear 3 = .ok (.iconst (-1), 1) := by decide +kernel
theorem dX1_turnYear_4 : decode cX1_turnYear 4 = .ok (.if_icmp .ne 7, 3) := by decide +kernel
theorem dX1_turnYear_7 : decode cX1_turnYear 7 = .ok (.iconst 1, 1) := by decide +kernel
theorem dX1_turnYear_8 : decode cX1_turnYear 8 = .ok (.goto 4, 3) := by decide +kernel
theorem dX1_turnYear_11 : decode cX1_turnYear 11 = .ok (.iconst 0, 1) := by decide +kernel
theorem dX1_turnYear_12 : decode cX1_turnYear 12 = .ok (.istore_n 3, 1) := by decide +kernel
theorem dX1_turnYear_13 : decode cX1_turnYear 13 = .ok (.aload_n 0, 1) := by decide +kernel
theorem dX1_turnYear_14 : decode cX1_turnYear 14 = .ok (.getfield 27, 3) := by decide +kernel
theorem dX1_turnYear_17 : decode cX1_turnYear 17 = .ok (.iload_n 3, 1) := by decide +kernel
theorem dX1_turnYear_18 : decode cX1_turnYear 18 = .ok (.invokevirtual 69, 3) := by decide +kernel
theorem dX1_turnYear_21 : decode cX1_turnYear 21 = .ok (.iconst 0, 1) := by decide +kernel
theorem dX1_turnYear_22 : decode cX1_turnYear 22 = .ok (.istore 4, 2) := by decide +kernel
theorem dX1_turnYear_24 : decode cX1_turnYear 24 = .ok (.iload 4, 2) := by decide +kernel
theorem dX1_turnYear_26 : decode cX1_turnYear 26 = .ok (.sipush 365, 3) := by decide +kernel
theorem dX1_turnYear_29 : decode cX1_turnYear 29 = .ok (.if_icmp .ge 46, 3) := by decide +kernel
theorem dX1_turnYear_32 : decode cX1_turnYear 32 = .ok (.iload_n 3, 1) := by decide +kernel
theorem dX1_turnYear_33 : decode cX1_turnYear 33 = .ok (.ifCond .ne 42, 3) := by decide +kernel
theorem dX1_turnYear_36 : decode cX1_turnYear 36 = .ok (.iload_n 1, 1) := by decide +kernel
theorem dX1_turnYear_37 : decode cX1_turnYear 37 = .ok (.iload 4, 2) := by decide +kernel
theorem dX1_turnYear_39 : decode cX1_turnYear 39 = .ok (.bipush 20, 2) := by decide +kernel
theorem dX1_turnYear_41 : decode cX1_turnYear 41 = .ok (.irem, 1) := by decide +kernel
theorem dX1_turnYear_42 : decode cX1_turnYear 42 = .ok (.invokestatic 62, 3) := by decide +kernel
theorem dX1_turnYear_45 : decode cX1_turnYear 45 = .ok (.ifCond .eq 24, 3) := by decide +kernel
theorem dX1_turnYear_48 : decode cX1_turnYear 48 = .ok (.iload_n 2, 1) := by decide +kernel
theorem dX1_turnYear_49 : decode cX1_turnYear 49 = .ok (.iload 4, 2) := by decide +kernel
theorem dX1_turnYear_51 : decode cX1_turnYear 51 = .ok (.bipush 20, 2) := by decide +kernel
theorem dX1_turnYear_53 : decode cX1_turnYear 53 = .ok (.idiv, 1) := by decide +kernel
theorem dX1_turnYear_54 : decode cX1_turnYear 54 = .ok (.invokestatic 62, 3) := by decide +kernel
theorem dX1_turnYear_57 : decode cX1_turnYear 57 = .ok (.ifCond .eq 12, 3) := by decide +kernel
theorem dX1_turnYear_60 : decode cX1_turnYear 60 = .ok (.aload_n 0, 1) := by decide +kernel
theorem dX1_turnYear_61 : decode cX1_turnYear 61 = .ok (.getfield 27, 3) := by decide +kernel
theorem dX1_turnYear_64 : decode cX1_turnYear 64 = .ok (.iload 4, 2) := by decide +kernel
theorem dX1_turnYear_66 : decode cX1_turnYear 66 = .ok (.invokevirtual 73, 3) := by decide +kernel
theorem dX1_turnYear_69 : decode cX1_turnYear 69 = .ok (.iinc 4 1, 3) := by decide +kernel
theorem dX1_turnYear_72 : decode cX1_turnYear 72 = .ok (.goto (-48), 3) := by decide +kernel
theorem dX1_turnYear_75 : decode cX1_turnYear 75 = .ok (.return_, 1) := by decide +kernel
set_option maxRecDepth 20000 in
theorem ggX1_turnLunar_X7_reset : GoodIn wsX1_turnLunar wsX7_reset := goodIn_r _ [6, 7, 8, 9, 10, 11, 12, 37, 38, 39] (by decide +kernel) (by decide +kernel)
set_option maxRecDepth 20000 in
theorem gX1_turnLunar_X7_reset : GoodIn wsX1_turnLunar (wsV RX1 69 RX7 yX7_reset wsX7_reset) := goodIn_app (goodIn_of _ (by decide +kernel)) ggX1_turnLunar_X7_reset
set_option maxRecDepth 20000 in
theorem ggX1_turnLunar_X0_signOf : GoodIn wsX1_turnLunar wsX0_signOf := goodIn_r _ [16, 17] (by decide +kernel) (by decide +kernel)
set_option maxRecDepth 20000 in
theorem gX1_turnLunar_X0_signOf : GoodIn wsX1_turnLunar (va_wsS RX1 58 yX0_signOf wsX0_signOf) := goodIn_app (goodIn_of _ (by decide +kernel)) ggX1_turnLunar_X0_signOf
set_option maxRecDepth 20000 in
theorem ggX1_turnLunar_X0_holds : GoodIn wsX1_turnLunar wsX0_holds := goodIn_r _ [20] (by decide +kernel) (by decide +kernel)
set_option maxRecDepth 20000 in
theorem gX1_turnLunar_X0_holds : GoodIn wsX1_turnLunar (va_wsS RX1 62 yX0_holds wsX0_holds) := goodIn_app (goodIn_of _ (by decide +kernel)) ggX1_turnLunar_X0_holds
set_option maxRecDepth 20000 in
theorem ggX1_turnLunar_X7_mark : GoodIn wsX1_turnLunar wsX7_mark := goodIn_r _ [24, 25, 26, 27, 28, 29, 8, 37, 38, 39] (by decide +kernel) (by decide +kernel)
set_option maxRecDepth 20000 in
theorem gX1_turnLunar_X7_mark : GoodIn wsX1_turnLunar (wsV RX1 73 RX7 yX7_mark wsX7_mark) := goodIn_app (goodIn_of _ (by decide +kernel)) ggX1_turnLunar_X7_mark
theorem dX1_turnLunar_0 : decode cX1_turnLunar 0 = .ok (.aload_n 0, 1) := by decide +kernel
theorem dX1_turnLunar_1 : decode cX1_turnLunar 1 = .ok (.getfield 30, 3) := by decide +kernel
theorem dX1_turnLunar_4 : decode cX1_turnLunar 4 = .ok (.iload_n 1, 1) := by decide +kernel
theorem dX1_turnLunar_5 : decode cX1_turnLunar 5 = .ok (.iconst (-1), 1) := by decide +kernel
theorem dX1_turnLunar_6 : decode cX1_turnLunar 6 = .ok (.if_icmp .ne 7, 3) := by decide +kernel
theorem dX1_turnLunar_9 : decode cX1_turnLunar 9 = .ok (.iconst 1, 1) := by decide +kernel
theorem dX1_turnLunar_10 : decode cX1_turnLunar 10 = .ok (.goto 4, 3) := by decide +kernel
theorem dX1_turnLunar_13 : decode cX1_turnLunar 13 = .ok (.iconst 0, 1) := by decide +kernel
theorem dX1_turnLunar_14 : decode cX1_turnLunar 14 = .ok (.invokevirtual 69, 3) := by decide +kernel
theorem dX1_turnLunar_17 : decode cX1_turnLunar 17 = .ok (.iconst 0, 1) := by decide +kernel
theorem dX1_turnLunar_18 : decode cX1_turnLunar 18 = .ok (.istore_n 2, 1) := by decide +kernel
theorem dX1_turnLunar_19 : decode cX1_turnLunar 19 = .ok (.iload_n 2, 1) := by decide +kernel
theorem dX1_turnLunar_20 : decode cX1_turnLunar 20 = .ok (.sipush 4400, 3) := by decide +kernel
theorem dX1_turnLunar_23 : decode cX1_turnLunar 23 = .ok (.if_icmp .ge 36, 3) := by decide +kernel
theorem dX1_turnLunar_26 : decode cX1_turnLunar 26 = .ok (.iload_n 1, 1) := by decide +kernel
theorem dX1_turnLunar_27 : decode cX1_turnLunar 27 = .ok (.iconst (-1), 1) := by decide +kernel
theorem dX1_turnLunar_28 : decode cX1_turnLunar 28 = .ok (.if_icmp .eq 31, 3) := by decide +kernel
theorem dX1_turnLunar_31 : decode cX1_turnLunar 31 = .ok (.iload_n 1, 1) := by decide +kernel
theorem dX1_turnLunar_32 : decode cX1_turnLunar 32 = .ok (.iload_n 2, 1) := by decide +kernel
theorem dX1_turnLunar_33 : decode cX1_turnLunar 33 = .ok (.bipush 10, 2) := by decide +kernel
theorem dX1_turnLunar_35 : decode cX1_turnLunar 35 = .ok (.iconst 0, 1) := by decide +kernel
theorem dX1_turnLunar_36 : decode cX1_turnLunar 36 = .ok (.invokestatic 58, 3) := by decide +kernel
theorem dX1_turnLunar_39 : decode cX1_turnLunar 39 = .ok (.invokestatic 62, 3) := by decide +kernel
theorem dX1_turnLunar_42 : decode cX1_turnLunar 42 = .ok (.ifCond .eq 11, 3) := by decide +kernel
theorem dX1_turnLunar_45 : decode cX1_turnLunar 45 = .ok (.aload_n 0, 1) := by decide +kernel
theorem dX1_turnLunar_46 : decode cX1_turnLunar 46 = .ok (.getfield 30, 3) := by decide +kernel
theorem dX1_turnLunar_49 : decode cX1_turnLunar 49 = .ok (.iload_n 2, 1) := by decide +kernel
theorem dX1_turnLunar_50 : decode cX1_turnLunar 50 = .ok (.invokevirtual 73, 3) := by decide +kernel
theorem dX1_turnLunar_53 : decode cX1_turnLunar 53 = .ok (.iinc 2 1, 3) := by decide +kernel
theorem dX1_turnLunar_56 : decode cX1_turnLunar 56 = .ok (.goto (-37), 3) := by decide +kernel
theorem dX1_turnLunar_59 : decode cX1_turnLunar 59 = .ok (.return_, 1) := by decide +kernel
set_option maxRecDepth 20000 in
theorem ggX1_scan_X7_window : GoodIn wsX1_scan wsX7_window := goodIn_r _ [10, 11, 12, 13, 14, 36, 37, 38] (by decide +kernel) (by decide +kernel)
set_option maxRecDepth 20000 in
theorem gX1_scan_X7_window : GoodIn wsX1_scan (wsV RX1 76 RX7 yX7_window wsX7_window) := goodIn_app (goodIn_of _ (by decide +kernel)) ggX1_scan_X7_window
set_option maxRecDepth 20000 in
theorem ggX1_scan_J13_bitCount_95d88 : GoodIn wsX1_scan wsJ13_bitCount_95d88 := goodIn_r _ [18, 19, 20, 21] (by decide +kernel) (by decide +kernel)
set_option maxRecDepth 20000 in
theorem gX1_scan_J13_bitCount_95d88 : GoodIn wsX1_scan (va_wsS RX1 80 yJ13_bitCount_95d88 wsJ13_bitCount_95d88) := goodIn_app (goodIn_of _ (by decide +kernel)) ggX1_scan_J13_bitCount_95d88
set_option maxRecDepth 20000 in
theorem ggX1_scan_X1_keep : GoodIn wsX1_scan wsX1_keep := goodIn_r _ [26, 27, 28, 15, 16, 17, 18, 19, 20, 21, 29, 30, 31, 32, 33, 34, 35] (by decide +kernel) (by decide +kernel)
set_option maxRecDepth 20000 in
theorem gX1_scan_X1_keep : GoodIn wsX1_scan (wsV RX1 86 RX1 yX1_keep wsX1_keep) := goodIn_app (goodIn_of _ (by decide +kernel)) ggX1_scan_X1_keep
theorem dX1_scan_0 : decode cX1_scan 0 = .ok (.iload_n 1, 1) := by decide +kernel
theorem dX1_scan_1 : decode cX1_scan 1 = .ok (.iconst 3, 1) := by decide +kernel
theorem dX1_scan_2 : decode cX1_scan 2 = .ok (.iadd, 1) := by decide +kernel
theorem dX1_scan_3 : decode cX1_scan 3 = .ok (.istore_n 3, 1) := by decide +kernel
theorem dX1_scan_4 : decode cX1_scan 4 = .ok (.iload_n 1, 1) := by decide +kernel
theorem dX1_scan_5 : decode cX1_scan 5 = .ok (.sipush 348, 3) := by decide +kernel
theorem dX1_scan_8 : decode cX1_scan 8 = .ok (.iadd, 1) := by decide +kernel
theorem dX1_scan_9 : decode cX1_scan 9 = .ok (.istore 4, 2) := by decide +kernel
theorem dX1_scan_11 : decode cX1_scan 11 = .ok (.iload_n 1, 1) := by decide +kernel
theorem dX1_scan_12 : decode cX1_scan 12 = .ok (.iload_n 2, 1) := by decide +kernel
theorem dX1_scan_13 : decode cX1_scan 13 = .ok (.iadd, 1) := by decide +kernel
theorem dX1_scan_14 : decode cX1_scan 14 = .ok (.istore 5, 2) := by decide +kernel
theorem dX1_scan_16 : decode cX1_scan 16 = .ok (.iconst 0, 1) := by decide +kernel
theorem dX1_scan_17 : decode cX1_scan 17 = .ok (.istore 6, 2) := by decide +kernel
theorem dX1_scan_19 : decode cX1_scan 19 = .ok (.iload 6, 2) := by decide +kernel
theorem dX1_scan_21 : decode cX1_scan 21 = .ok (.sipush 360, 3) := by decide +kernel
theorem dX1_scan_24 : decode cX1_scan 24 = .ok (.if_icmp .ge 104, 3) := by decide +kernel
theorem dX1_scan_27 : decode cX1_scan 27 = .ok (.aload_n 0, 1) := by decide +kernel
theorem dX1_scan_28 : decode cX1_scan 28 = .ok (.getfield 20, 3) := by decide +kernel
theorem dX1_scan_31 : decode cX1_scan 31 = .ok (.iload 6, 2) := by decide +kernel
theorem dX1_scan_33 : decode cX1_scan 33 = .ok (.invokevirtual 76, 3) := by decide +kernel
theorem dX1_scan_36 : decode cX1_scan 36 = .ok (.lstore 7, 2) := by decide +kernel
theorem dX1_scan_38 : decode cX1_scan 38 = .ok (.lload 7, 2) := by decide +kernel
theorem dX1_scan_40 : decode cX1_scan 40 = .ok (.lconst 0, 1) := by decide +kernel
theorem dX1_scan_41 : decode cX1_scan 41 = .ok (.lcmp, 1) := by decide +kernel
theorem dX1_scan_42 : decode cX1_scan 42 = .ok (.ifCond .eq 56, 3) := by decide +kernel
theorem dX1_scan_45 : decode cX1_scan 45 = .ok (.lload 7, 2) := by decide +kernel
theorem dX1_scan_47 : decode cX1_scan 47 = .ok (.aload_n 0, 1) := by decide +kernel
theorem dX1_scan_48 : decode cX1_scan 48 = .ok (.getfield 24, 3) := by decide +kernel
theorem dX1_scan_51 : decode cX1_scan 51 = .ok (.iload_n 3, 1) := by decide +kernel
theorem dX1_scan_52 : decode cX1_scan 52 = .ok (.iload 6, 2) := by decide +kernel
theorem dX1_scan_54 : decode cX1_scan 54 = .ok (.iadd, 1) := by decide +kernel
theorem dX1_scan_55 : decode cX1_scan 55 = .ok (.bipush 13, 2) := by decide +kernel
theorem dX1_scan_57 : decode cX1_scan 57 = .ok (.irem, 1) := by decide +kernel
theorem dX1_scan_58 : decode cX1_scan 58 = .ok (.invokevirtual 76, 3) := by decide +kernel
theorem dX1_scan_61 : decode cX1_scan 61 = .ok (.aload_n 0, 1) := by decide +kernel
theorem dX1_scan_62 : decode cX1_scan 62 = .ok (.getfield 27, 3) := by decide +kernel
theorem dX1_scan_65 : decode cX1_scan 65 = .ok (.iload 4, 2) := by decide +kernel
theorem dX1_scan_67 : decode cX1_scan 67 = .ok (.iload 6, 2) := by decide +kernel
theorem dX1_scan_69 : decode cX1_scan 69 = .ok (.iadd, 1) := by decide +kernel
theorem dX1_scan_70 : decode cX1_scan 70 = .ok (.sipush 365, 3) := by decide +kernel
theorem dX1_scan_73 : decode cX1_scan 73 = .ok (.irem, 1) := by decide +kernel
theorem dX1_scan_74 : decode cX1_scan 74 = .ok (.invokevirtual 76, 3) := by decide +kernel
theorem dX1_scan_77 : decode cX1_scan 77 = .ok (.land, 1) := by decide +kernel
theorem dX1_scan_78 : decode cX1_scan 78 = .ok (.aload_n 0, 1) := by decide +kernel
theorem dX1_scan_79 : decode cX1_scan 79 = .ok (.getfield 30, 3) := by decide +kernel
theorem dX1_scan_82 : decode cX1_scan 82 = .ok (.iload 5, 2) := by decide +kernel
theorem dX1_scan_84 : decode cX1_scan 84 = .ok (.iload 6, 2) := by decide +kernel
theorem dX1_scan_86 : decode cX1_scan 86 = .ok (.iadd, 1) := by decide +kernel
theorem dX1_scan_87 : decode cX1_scan 87 = .ok (.sipush 4400, 3) := by decide +kernel
theorem dX1_scan_90 : decode cX1_scan 90 = .ok (.irem, 1) := by decide +kernel
theorem dX1_scan_91 : decode cX1_scan 91 = .ok (.invokevirtual 76, 3) := by decide +kernel
theorem dX1_scan_94 : decode cX1_scan 94 = .ok (.land, 1) := by decide +kernel
theorem dX1_scan_95 : decode cX1_scan 95 = .ok (.land, 1) := by decide +kernel
theorem dX1_scan_96 : decode cX1_scan 96 = .ok (.lstore 7, 2) := by decide +kernel
theorem dX1_scan_98 : decode cX1_scan 98 = .ok (.aload_n 0, 1) := by decide +kernel
theorem dX1_scan_99 : decode cX1_scan 99 = .ok (.dup, 1) := by decide +kernel
theorem dX1_scan_100 : decode cX1_scan 100 = .ok (.getfield 37, 3) := by decide +kernel
theorem dX1_scan_103 : decode cX1_scan 103 = .ok (.lload 7, 2) := by decide +kernel
theorem dX1_scan_105 : decode cX1_scan 105 = .ok (.invokestatic 80, 3) := by decide +kernel
theorem dX1_scan_108 : decode cX1_scan 108 = .ok (.iadd, 1) := by decide +kernel
theorem dX1_scan_109 : decode cX1_scan 109 = .ok (.putfield 37, 3) := by decide +kernel
theorem dX1_scan_112 : decode cX1_scan 112 = .ok (.aload_n 0, 1) := by decide +kernel
theorem dX1_scan_113 : decode cX1_scan 113 = .ok (.iload_n 1, 1) := by decide +kernel
theorem dX1_scan_114 : decode cX1_scan 114 = .ok (.iload 6, 2) := by decide +kernel
theorem dX1_scan_116 : decode cX1_scan 116 = .ok (.iadd, 1) := by decide +kernel
theorem dX1_scan_117 : decode cX1_scan 117 = .ok (.lload 7, 2) := by decide +kernel
theorem dX1_scan_119 : decode cX1_scan 119 = .ok (.invokevirtual 86, 3) := by decide +kernel
theorem dX1_scan_122 : decode cX1_scan 122 = .ok (.iinc 6 60, 3) := by decide +kernel
theorem dX1_scan_125 : decode cX1_scan 125 = .ok (.goto (-106), 3) := by decide +kernel
theorem dX1_scan_128 : decode cX1_scan 128 = .ok (.return_, 1) := by decide +kernel
set_option maxRecDepth 20000 in
theorem ggX1_keep_J13_bitCount_95d88 : GoodIn wsX1_keep wsJ13_bitCount_95d88 := goodIn_r _ [6, 7, 8, 9] (by decide +kernel) (by decide +kernel)
set_option maxRecDepth 20000 in
theorem gX1_keep_J13_bitCount_95d88 : GoodIn wsX1_keep (va_wsS RX1 80 yJ13_bitCount_95d88 wsJ13_bitCount_95d88) := goodIn_app (goodIn_of _ (by decide +kernel)) ggX1_keep_J13_bitCount_95d88
theorem dX1_keep_0 : decode cX1_keep 0 = .ok (.lload_n 2, 1) := by decide +kernel
theorem dX1_keep_1 : decode cX1_keep 1 = .ok (.lstore 4, 2) := by decide +kernel
theorem dX1_keep_3 : decode cX1_keep 3 = .ok (.lload 4, 2) := by decide +kernel
theorem dX1_keep_5 : decode cX1_keep 5 = .ok (.lconst 0, 1) := by decide +kernel
theorem dX1_keep_6 : decode cX1_keep 6 = .ok (.lcmp, 1) := by decide +kernel
theorem dX1_keep_7 : decode cX1_keep 7 = .ok (.ifCond .eq 59, 3) := by decide +kernel
theorem dX1_keep_10 : decode cX1_keep 10 = .ok (.aload_n 0, 1) := by decide +kernel
theorem dX1_keep_11 : decode cX1_keep 11 = .ok (.getfield 33, 3) := by decide +kernel
theorem dX1_keep_14 : decode cX1_keep 14 = .ok (.sipush 300, 3) := by decide +kernel
theorem dX1_keep_17 : decode cX1_keep 17 = .ok (.if_icmp .ge 49, 3) := by decide +kernel
theorem dX1_keep_20 : decode cX1_keep 20 = .ok (.lload 4, 2) := by decide +kernel
theorem dX1_keep_22 : decode cX1_keep 22 = .ok (.lload 4, 2) := by decide +kernel
theorem dX1_keep_24 : decode cX1_keep 24 = .ok (.lneg, 1) := by decide +kernel
theorem dX1_keep_25 : decode cX1_keep 25 = .ok (.land, 1) := by decide +kernel
theorem dX1_keep_26 : decode cX1_keep 26 = .ok (.lstore 6, 2) := by decide +kernel
theorem dX1_keep_28 : decode cX1_keep 28 = .ok (.aload_n 0, 1) := by decide +kernel
theorem dX1_keep_29 : decode cX1_keep 29 = .ok (.getfield 9, 3) := by decide +kernel
theorem dX1_keep_32 : decode cX1_keep 32 = .ok (.aload_n 0, 1) := by decide +kernel
theorem dX1_keep_33 : decode cX1_keep 33 = .ok (.getfield 33, 3) := by decide +kernel
theorem dX1_keep_36 : decode cX1_keep 36 = .ok (.iload_n 1, 1) := by decide +kernel
theorem dX1_keep_37 : decode cX1_keep 37 = .ok (.lload 6, 2) := by decide +kernel
theorem dX1_keep_39 : decode cX1_keep 39 = .ok (.lconst 1, 1) := by decide +kernel
theorem dX1_keep_40 : decode cX1_keep 40 = .ok (.lsub, 1) := by decide +kernel
theorem dX1_keep_41 : decode cX1_keep 41 = .ok (.invokestatic 80, 3) := by decide +kernel
theorem dX1_keep_44 : decode cX1_keep 44 = .ok (.iadd, 1) := by decide +kernel
theorem dX1_keep_45 : decode cX1_keep 45 = .ok (.iastore, 1) := by decide +kernel
theorem dX1_keep_46 : decode cX1_keep 46 = .ok (.aload_n 0, 1) := by decide +kernel
theorem dX1_keep_47 : decode cX1_keep 47 = .ok (.dup, 1) := by decide +kernel
theorem dX1_keep_48 : decode cX1_keep 48 = .ok (.getfield 33, 3) := by decide +kernel
theorem dX1_keep_51 : decode cX1_keep 51 = .ok (.iconst 1, 1) := by decide +kernel
theorem dX1_keep_52 : decode cX1_keep 52 = .ok (.iadd, 1) := by decide +kernel
theorem dX1_keep_53 : decode cX1_keep 53 = .ok (.putfield 33, 3) := by decide +kernel
theorem dX1_keep_56 : decode cX1_keep 56 = .ok (.lload 4, 2) := by decide +kernel
theorem dX1_keep_58 : decode cX1_keep 58 = .ok (.lload 6, 2) := by decide +kernel
theorem dX1_keep_60 : decode cX1_keep 60 = .ok (.lxor, 1) := by decide +kernel
theorem dX1_keep_61 : decode cX1_keep 61 = .ok (.lstore 4, 2) := by decide +kernel
theorem dX1_keep_63 : decode cX1_keep 63 = .ok (.goto (-60), 3) := by decide +kernel
theorem dX1_keep_66 : decode cX1_keep 66 = .ok (.return_, 1) := by decide +kernel
theorem dX7_init_0 : decode cX7_init 0 = .ok (.aload_n 0, 1) := by decide +kernel
theorem dX7_init_1 : decode cX7_init 1 = .ok (.invokespecial 3, 3) := by decide +kernel
theorem dX7_init_4 : decode cX7_init 4 = .ok (.aload_n 0, 1) := by decide +kernel
theorem dX7_init_5 : decode cX7_init 5 = .ok (.iconst 1, 1) := by decide +kernel
theorem dX7_init_6 : decode cX7_init 6 = .ok (.iload_n 1, 1) := by decide +kernel
theorem dX7_init_7 : decode cX7_init 7 = .ok (.invokestatic 9, 3) := by decide +kernel
theorem dX7_init_10 : decode cX7_init 10 = .ok (.putfield 15, 3) := by decide +kernel
theorem dX7_init_13 : decode cX7_init 13 = .ok (.aload_n 0, 1) := by decide +kernel
theorem dX7_init_14 : decode cX7_init 14 = .ok (.aload_n 0, 1) := by decide +kernel
theorem dX7_init_15 : decode cX7_init 15 = .ok (.getfield 15, 3) := by decide +kernel
theorem dX7_init_18 : decode cX7_init 18 = .ok (.bipush 60, 2) := by decide +kernel
theorem dX7_init_20 : decode cX7_init 20 = .ok (.iadd, 1) := by decide +kernel
theorem dX7_init_21 : decode cX7_init 21 = .ok (.bipush 64, 2) := by decide +kernel
theorem dX7_init_23 : decode cX7_init 23 = .ok (.idiv, 1) := by decide +kernel
theorem dX7_init_24 : decode cX7_init 24 = .ok (.iconst 2, 1) := by decide +kernel
theorem dX7_init_25 : decode cX7_init 25 = .ok (.iadd, 1) := by decide +kernel
theorem dX7_init_26 : decode cX7_init 26 = .ok (.newarray .long, 2) := by decide +kernel
theorem dX7_init_28 : decode cX7_init 28 = .ok (.putfield 19, 3) := by decide +kernel
theorem dX7_init_31 : decode cX7_init 31 = .ok (.return_, 1) := by decide +kernel
set_option maxRecDepth 20000 in
theorem ggX7_reset_J7_fill_d0a16 : GoodIn wsX7_reset wsJ7_fill_d0a16 := goodIn_r _ [6] (by decide +kernel) (by decide +kernel)
set_option maxRecDepth 20000 in
theorem gX7_reset_J7_fill_d0a16 : GoodIn wsX7_reset (va_wsS RX7 27 yJ7_fill_d0a16 wsJ7_fill_d0a16) := goodIn_app (goodIn_of _ (by decide +kernel)) ggX7_reset_J7_fill_d0a16
theorem dX7_reset_0 : decode cX7_reset 0 = .ok (.aload_n 0, 1) := by decide +kernel
theorem dX7_reset_1 : decode cX7_reset 1 = .ok (.iload_n 1, 1) := by decide +kernel
theorem dX7_reset_2 : decode cX7_reset 2 = .ok (.putfield 23, 3) := by decide +kernel
theorem dX7_reset_5 : decode cX7_reset 5 = .ok (.aload_n 0, 1) := by decide +kernel
theorem dX7_reset_6 : decode cX7_reset 6 = .ok (.getfield 19, 3) := by decide +kernel
theorem dX7_reset_9 : decode cX7_reset 9 = .ok (.lconst 0, 1) := by decide +kernel
theorem dX7_reset_10 : decode cX7_reset 10 = .ok (.invokestatic 27, 3) := by decide +kernel
theorem dX7_reset_13 : decode cX7_reset 13 = .ok (.return_, 1) := by decide +kernel
theorem dX7_mark_0 : decode cX7_mark 0 = .ok (.iconst 0, 1) := by decide +kernel
theorem dX7_mark_1 : decode cX7_mark 1 = .ok (.iload_n 1, 1) := by decide +kernel
theorem dX7_mark_2 : decode cX7_mark 2 = .ok (.invokestatic 9, 3) := by decide +kernel
theorem dX7_mark_5 : decode cX7_mark 5 = .ok (.istore_n 2, 1) := by decide +kernel
theorem dX7_mark_6 : decode cX7_mark 6 = .ok (.iload_n 2, 1) := by decide +kernel
theorem dX7_mark_7 : decode cX7_mark 7 = .ok (.aload_n 0, 1) := by decide +kernel
theorem dX7_mark_8 : decode cX7_mark 8 = .ok (.getfield 15, 3) := by decide +kernel
theorem dX7_mark_11 : decode cX7_mark 11 = .ok (.bipush 60, 2) := by decide +kernel
theorem dX7_mark_13 : decode cX7_mark 13 = .ok (.iadd, 1) := by decide +kernel
theorem dX7_mark_14 : decode cX7_mark 14 = .ok (.if_icmp .ge 31, 3) := by decide +kernel
theorem dX7_mark_17 : decode cX7_mark 17 = .ok (.aload_n 0, 1) := by decide +kernel
theorem dX7_mark_18 : decode cX7_mark 18 = .ok (.getfield 19, 3) := by decide +kernel
theorem dX7_mark_21 : decode cX7_mark 21 = .ok (.iload_n 2, 1) := by decide +kernel
theorem dX7_mark_22 : decode cX7_mark 22 = .ok (.bipush 6, 2) := by decide +kernel
theorem dX7_mark_24 : decode cX7_mark 24 = .ok (.ishr, 1) := by decide +kernel
theorem dX7_mark_25 : decode cX7_mark 25 = .ok (.dup2, 1) := by decide +kernel
theorem dX7_mark_26 : decode cX7_mark 26 = .ok (.laload, 1) := by decide +kernel
theorem dX7_mark_27 : decode cX7_mark 27 = .ok (.lconst 1, 1) := by decide +kernel
theorem dX7_mark_28 : decode cX7_mark 28 = .ok (.iload_n 2, 1) := by decide +kernel
theorem dX7_mark_29 : decode cX7_mark 29 = .ok (.bipush 63, 2) := by decide +kernel
theorem dX7_mark_31 : decode cX7_mark 31 = .ok (.iand, 1) := by decide +kernel
theorem dX7_mark_32 : decode cX7_mark 32 = .ok (.lshl, 1) := by decide +kernel
theorem dX7_mark_33 : decode cX7_mark 33 = .ok (.lor, 1) := by decide +kernel
theorem dX7_mark_34 : decode cX7_mark 34 = .ok (.lastore, 1) := by decide +kernel
theorem dX7_mark_35 : decode cX7_mark 35 = .ok (.iload_n 2, 1) := by decide +kernel
theorem dX7_mark_36 : decode cX7_mark 36 = .ok (.aload_n 0, 1) := by decide +kernel
theorem dX7_mark_37 : decode cX7_mark 37 = .ok (.getfield 15, 3) := by decide +kernel
theorem dX7_mark_40 : decode cX7_mark 40 = .ok (.iadd, 1) := by decide +kernel
theorem dX7_mark_41 : decode cX7_mark 41 = .ok (.istore_n 2, 1) := by decide +kernel
theorem dX7_mark_42 : decode cX7_mark 42 = .ok (.goto (-36), 3) := by decide +kernel
theorem dX7_mark_45 : decode cX7_mark 45 = .ok (.return_, 1) := by decide +kernel
theorem dX7_window_0 : decode cX7_window 0 = .ok (.aload_n 0, 1) := by decide +kernel
theorem dX7_window_1 : decode cX7_window 1 = .ok (.getfield 23, 3) := by decide +kernel
theorem dX7_window_4 : decode cX7_window 4 = .ok (.ifCond .eq 7, 3) := by decide +kernel
theorem dX7_window_7 : decode cX7_window 7 = .ok (.ldc2_w 33, 3) := by decide +kernel
theorem dX7_window_10 : decode cX7_window 10 = .ok (.lreturn, 1) := by decide +kernel
theorem dX7_window_11 : decode cX7_window 11 = .ok (.iload_n 1, 1) := by decide +kernel
theorem dX7_window_12 : decode cX7_window 12 = .ok (.ifCond .lt 11, 3) := by decide +kernel
theorem dX7_window_15 : decode cX7_window 15 = .ok (.iload_n 1, 1) := by decide +kernel
theorem dX7_window_16 : decode cX7_window 16 = .ok (.aload_n 0, 1) := by decide +kernel
theorem dX7_window_17 : decode cX7_window 17 = .ok (.getfield 15, 3) := by decide +kernel
theorem dX7_window_20 : decode cX7_window 20 = .ok (.if_icmp .lt 5, 3) := by decide +kernel
theorem dX7_window_23 : decode cX7_window 23 = .ok (.lconst 0, 1) := by decide +kernel
theorem dX7_window_24 : decode cX7_window 24 = .ok (.lreturn, 1) := by decide +kernel
theorem dX7_window_25 : decode cX7_window 25 = .ok (.iload_n 1, 1) := by decide +kernel
theorem dX7_window_26 : decode cX7_window 26 = .ok (.bipush 63, 2) := by decide +kernel
theorem dX7_window_28 : decode cX7_window 28 = .ok (.iand, 1) := by decide +kernel
theorem dX7_window_29 : decode cX7_window 29 = .ok (.istore_n 2, 1) := by decide +kernel
theorem dX7_window_30 : decode cX7_window 30 = .ok (.aload_n 0, 1) := by decide +kernel
theorem dX7_window_31 : decode cX7_window 31 = .ok (.getfield 19, 3) := by decide +kernel
theorem dX7_window_34 : decode cX7_window 34 = .ok (.iload_n 1, 1) := by decide +kernel
theorem dX7_window_35 : decode cX7_window 35 = .ok (.bipush 6, 2) := by decide +kernel
theorem dX7_window_37 : decode cX7_window 37 = .ok (.ishr, 1) := by decide +kernel
theorem dX7_window_38 : decode cX7_window 38 = .ok (.laload, 1) := by decide +kernel
theorem dX7_window_39 : decode cX7_window 39 = .ok (.iload_n 2, 1) := by decide +kernel
theorem dX7_window_40 : decode cX7_window 40 = .ok (.lushr, 1) := by decide +kernel
theorem dX7_window_41 : decode cX7_window 41 = .ok (.lstore_n 3, 1) := by decide +kernel
theorem dX7_window_42 : decode cX7_window 42 = .ok (.iload_n 2, 1) := by decide +kernel
theorem dX7_window_43 : decode cX7_window 43 = .ok (.iconst 4, 1) := by decide +kernel
theorem dX7_window_44 : decode cX7_window 44 = .ok (.if_icmp .le 22, 3) := by decide +kernel
theorem dX7_window_47 : decode cX7_window 47 = .ok (.lload_n 3, 1) := by decide +kernel
theorem dX7_window_48 : decode cX7_window 48 = .ok (.aload_n 0, 1) := by decide +kernel
theorem dX7_window_49 : decode cX7_window 49 = .ok (.getfield 19, 3) := by decide +kernel
theorem dX7_window_52 : decode cX7_window 52 = .ok (.iload_n 1, 1) := by decide +kernel
theorem dX7_window_53 : decode cX7_window 53 = .ok (.bipush 6, 2) := by decide +kernel
theorem dX7_window_55 : decode cX7_window 55 = .ok (.ishr, 1) := by decide +kernel
theorem dX7_window_56 : decode cX7_window 56 = .ok (.iconst 1, 1) := by decide +kernel
theorem dX7_window_57 : decode cX7_window 57 = .ok (.iadd, 1) := by decide +kernel
theorem dX7_window_58 : decode cX7_window 58 = .ok (.laload, 1) := by decide +kernel
theorem dX7_window_59 : decode cX7_window 59 = .ok (.bipush 64, 2) := by decide +kernel
theorem dX7_window_61 : decode cX7_window 61 = .ok (.iload_n 2, 1) := by decide +kernel
theorem dX7_window_62 : decode cX7_window 62 = .ok (.isub, 1) := by decide +kernel
theorem dX7_window_63 : decode cX7_window 63 = .ok (.lshl, 1) := by decide +kernel
theorem dX7_window_64 : decode cX7_window 64 = .ok (.lor, 1) := by decide +kernel
theorem dX7_window_65 : decode cX7_window 65 = .ok (.lstore_n 3, 1) := by decide +kernel
theorem dX7_window_66 : decode cX7_window 66 = .ok (.lload_n 3, 1) := by decide +kernel
theorem dX7_window_67 : decode cX7_window 67 = .ok (.ldc2_w 33, 3) := by decide +kernel
theorem dX7_window_70 : decode cX7_window 70 = .ok (.land, 1) := by decide +kernel
theorem dX7_window_71 : decode cX7_window 71 = .ok (.lreturn, 1) := by decide +kernel
theorem dX6_init_0 : decode cX6_init 0 = .ok (.aload_n 0, 1) := by decide +kernel
theorem dX6_init_1 : decode cX6_init 1 = .ok (.invokespecial 1, 3) := by decide +kernel
theorem dX6_init_4 : decode cX6_init 4 = .ok (.aload_n 0, 1) := by decide +kernel
theorem dX6_init_5 : decode cX6_init 5 = .ok (.iload_n 1, 1) := by decide +kernel
theorem dX6_init_6 : decode cX6_init 6 = .ok (.putfield 7, 3) := by decide +kernel
theorem dX6_init_9 : decode cX6_init 9 = .ok (.aload_n 0, 1) := by decide +kernel
theorem dX6_init_10 : decode cX6_init 10 = .ok (.aload_n 2, 1) := by decide +kernel
theorem dX6_init_11 : decode cX6_init 11 = .ok (.putfield 13, 3) := by decide +kernel
theorem dX6_init_14 : decode cX6_init 14 = .ok (.aload_n 0, 1) := by decide +kernel
theorem dX6_init_15 : decode cX6_init 15 = .ok (.aload_n 3, 1) := by decide +kernel
theorem dX6_init_16 : decode cX6_init 16 = .ok (.putfield 17, 3) := by decide +kernel
theorem dX6_init_19 : decode cX6_init 19 = .ok (.aload_n 0, 1) := by decide +kernel
theorem dX6_init_20 : decode cX6_init 20 = .ok (.iload 4, 2) := by decide +kernel
theorem dX6_init_22 : decode cX6_init 22 = .ok (.putfield 20, 3) := by decide +kernel
theorem dX6_init_25 : decode cX6_init 25 = .ok (.return_, 1) := by decide +kernel
set_option maxRecDepth 20000 in
theorem ggX6_allows_X0_signOf : GoodIn wsX6_allows wsX0_signOf := goodIn_r _ [6, 7] (by decide +kernel) (by decide +kernel)
set_option maxRecDepth 20000 in
theorem gX6_allows_X0_signOf : GoodIn wsX6_allows (va_wsS RX6 23 yX0_signOf wsX0_signOf) := goodIn_app (goodIn_of _ (by decide +kernel)) ggX6_allows_X0_signOf
set_option maxRecDepth 20000 in
theorem ggX6_allows_X0_holds : GoodIn wsX6_allows wsX0_holds := goodIn_r _ [10] (by decide +kernel) (by decide +kernel)
set_option maxRecDepth 20000 in
theorem gX6_allows_X0_holds : GoodIn wsX6_allows (va_wsS RX6 29 yX0_holds wsX0_holds) := goodIn_app (goodIn_of _ (by decide +kernel)) ggX6_allows_X0_holds
theorem dX6_allows_0 : decode cX6_allows 0 = .ok (.iconst 0, 1) := by decide +kernel
theorem dX6_allows_1 : decode cX6_allows 1 = .ok (.istore_n 2, 1) := by decide +kernel
theorem dX6_allows_2 : decode cX6_allows 2 = .ok (.iload_n 2, 1) := by decide +kernel
theorem dX6_allows_3 : decode cX6_allows 3 = .ok (.aload_n 0, 1) := by decide +kernel
theorem dX6_allows_4 : decode cX6_allows 4 = .ok (.getfield 13, 3) := by decide +kernel
theorem dX6_allows_7 : decode cX6_allows 7 = .ok (.arraylength, 1) := by decide +kernel
theorem dX6_allows_8 : decode cX6_allows 8 = .ok (.if_icmp .ge 32, 3) := by decide +kernel
theorem dX6_allows_11 : decode cX6_allows 11 = .ok (.aload_n 0, 1) := by decide +kernel
theorem dX6_allows_12 : decode cX6_allows 12 = .ok (.getfield 13, 3) := by decide +kernel
theorem dX6_allows_15 : decode cX6_allows 15 = .ok (.iload_n 2, 1) := by decide +kernel
theorem dX6_allows_16 : decode cX6_allows 16 = .ok (.iaload, 1) := by decide +kernel
theorem dX6_allows_17 : decode cX6_allows 17 = .ok (.iload_n 1, 1) := by decide +kernel
theorem dX6_allows_18 : decode cX6_allows 18 = .ok (.iload_n 2, 1) := by decide +kernel
theorem dX6_allows_19 : decode cX6_allows 19 = .ok (.aload_n 0, 1) := by decide +kernel
theorem dX6_allows_20 : decode cX6_allows 20 = .ok (.getfield 7, 3) := by decide +kernel
theorem dX6_allows_23 : decode cX6_allows 23 = .ok (.invokestatic 23, 3) := by decide +kernel
theorem dX6_allows_26 : decode cX6_allows 26 = .ok (.invokestatic 29, 3) := by decide +kernel
theorem dX6_allows_29 : decode cX6_allows 29 = .ok (.ifCond .ne 5, 3) := by decide +kernel
theorem dX6_allows_32 : decode cX6_allows 32 = .ok (.iconst 0, 1) := by decide +kernel
theorem dX6_allows_33 : decode cX6_allows 33 = .ok (.ireturn, 1) := by decide +kernel
theorem dX6_allows_34 : decode cX6_allows 34 = .ok (.iinc 2 1, 3) := by decide +kernel
theorem dX6_allows_37 : decode cX6_allows 37 = .ok (.goto (-35), 3) := by decide +kernel
theorem dX6_allows_40 : decode cX6_allows 40 = .ok (.iconst 1, 1) := by decide +kernel
theorem dX6_allows_41 : decode cX6_allows 41 = .ok (.ireturn, 1) := by decide +kernel
theorem dJ6_bitCount_0f7a4_0 : decode cJ6_bitCount_0f7a4 0 = .ok (.iload_n 0, 1) := by decide +kernel
theorem dJ6_bitCount_0f7a4_1 : decode cJ6_bitCount_0f7a4 1 = .ok (.iload_n 0, 1) := by decide +kernel
theorem dJ6_bitCount_0f7a4_2 : decode cJ6_bitCount_0f7a4 2 = .ok (.iconst 1, 1) := by decide +kernel
theorem dJ6_bitCount_0f7a4_3 : decode cJ6_bitCount_0f7a4 3 = .ok (.iushr, 1) := by decide +kernel
theorem dJ6_bitCount_0f7a4_4 : decode cJ6_bitCount_0f7a4 4 = .ok (.ldc_w 265, 3) := by decide +kernel
theorem dJ6_bitCount_0f7a4_7 : decode cJ6_bitCount_0f7a4 7 = .ok (.iand, 1) := by decide +kernel
theorem dJ6_bitCount_0f7a4_8 : decode cJ6_bitCount_0f7a4 8 = .ok (.isub, 1) := by decide +kernel
theorem dJ6_bitCount_0f7a4_9 : decode cJ6_bitCount_0f7a4 9 = .ok (.istore_n 0, 1) := by decide +kernel
theorem dJ6_bitCount_0f7a4_10 : decode cJ6_bitCount_0f7a4 10 = .ok (.iload_n 0, 1) := by decide +kernel
theorem dJ6_bitCount_0f7a4_11 : decode cJ6_bitCount_0f7a4 11 = .ok (.ldc_w 266, 3) := by decide +kernel
theorem dJ6_bitCount_0f7a4_14 : decode cJ6_bitCount_0f7a4 14 = .ok (.iand, 1) := by decide +kernel
theorem dJ6_bitCount_0f7a4_15 : decode cJ6_bitCount_0f7a4 15 = .ok (.iload_n 0, 1) := by decide +kernel
theorem dJ6_bitCount_0f7a4_16 : decode cJ6_bitCount_0f7a4 16 = .ok (.iconst 2, 1) := by decide +kernel
theorem dJ6_bitCount_0f7a4_17 : decode cJ6_bitCount_0f7a4 17 = .ok (.iushr, 1) := by decide +kernel
theorem dJ6_bitCount_0f7a4_18 : decode cJ6_bitCount_0f7a4 18 = .ok (.ldc_w 266, 3) := by decide +kernel
theorem dJ6_bitCount_0f7a4_21 : decode cJ6_bitCount_0f7a4 21 = .ok (.iand, 1) := by decide +kernel
theorem dJ6_bitCount_0f7a4_22 : decode cJ6_bitCount_0f7a4 22 = .ok (.iadd, 1) := by decide +kernel
theorem dJ6_bitCount_0f7a4_23 : decode cJ6_bitCount_0f7a4 23 = .ok (.istore_n 0, 1) := by decide +kernel
theorem dJ6_bitCount_0f7a4_24 : decode cJ6_bitCount_0f7a4 24 = .ok (.iload_n 0, 1) := by decide +kernel
theorem dJ6_bitCount_0f7a4_25 : decode cJ6_bitCount_0f7a4 25 = .ok (.iload_n 0, 1) := by decide +kernel
theorem dJ6_bitCount_0f7a4_26 : decode cJ6_bitCount_0f7a4 26 = .ok (.iconst 4, 1) := by decide +kernel
theorem dJ6_bitCount_0f7a4_27 : decode cJ6_bitCount_0f7a4 27 = .ok (.iushr, 1) := by decide +kernel
theorem dJ6_bitCount_0f7a4_28 : decode cJ6_bitCount_0f7a4 28 = .ok (.iadd, 1) := by decide +kernel
theorem dJ6_bitCount_0f7a4_29 : decode cJ6_bitCount_0f7a4 29 = .ok (.ldc_w 267, 3) := by decide +kernel
theorem dJ6_bitCount_0f7a4_32 : decode cJ6_bitCount_0f7a4 32 = .ok (.iand, 1) := by decide +kernel
theorem dJ6_bitCount_0f7a4_33 : decode cJ6_bitCount_0f7a4 33 = .ok (.istore_n 0, 1) := by decide +kernel
theorem dJ6_bitCount_0f7a4_34 : decode cJ6_bitCount_0f7a4 34 = .ok (.iload_n 0, 1) := by decide +kernel
theorem dJ6_bitCount_0f7a4_35 : decode cJ6_bitCount_0f7a4 35 = .ok (.iload_n 0, 1) := by decide +kernel
theorem dJ6_bitCount_0f7a4_36 : decode cJ6_bitCount_0f7a4 36 = .ok (.bipush 8, 2) := by decide +kernel
theorem dJ6_bitCount_0f7a4_38 : decode cJ6_bitCount_0f7a4 38 = .ok (.iushr, 1) := by decide +kernel
theorem dJ6_bitCount_0f7a4_39 : decode cJ6_bitCount_0f7a4 39 = .ok (.iadd, 1) := by decide +kernel
theorem dJ6_bitCount_0f7a4_40 : decode cJ6_bitCount_0f7a4 40 = .ok (.istore_n 0, 1) := by decide +kernel
theorem dJ6_bitCount_0f7a4_41 : decode cJ6_bitCount_0f7a4 41 = .ok (.iload_n 0, 1) := by decide +kernel
theorem dJ6_bitCount_0f7a4_42 : decode cJ6_bitCount_0f7a4 42 = .ok (.iload_n 0, 1) := by decide +kernel
theorem dJ6_bitCount_0f7a4_43 : decode cJ6_bitCount_0f7a4 43 = .ok (.bipush 16, 2) := by decide +kernel
theorem dJ6_bitCount_0f7a4_45 : decode cJ6_bitCount_0f7a4 45 = .ok (.iushr, 1) := by decide +kernel
theorem dJ6_bitCount_0f7a4_46 : decode cJ6_bitCount_0f7a4 46 = .ok (.iadd, 1) := by decide +kernel
theorem dJ6_bitCount_0f7a4_47 : decode cJ6_bitCount_0f7a4 47 = .ok (.istore_n 0, 1) := by decide +kernel
theorem dJ6_bitCount_0f7a4_48 : decode cJ6_bitCount_0f7a4 48 = .ok (.iload_n 0, 1) := by decide +kernel
theorem dJ6_bitCount_0f7a4_49 : decode cJ6_bitCount_0f7a4 49 = .ok (.bipush 63, 2) := by decide +kernel
theorem dJ6_bitCount_0f7a4_51 : decode cJ6_bitCount_0f7a4 51 = .ok (.iand, 1) := by decide +kernel
theorem dJ6_bitCount_0f7a4_52 : decode cJ6_bitCount_0f7a4 52 = .ok (.ireturn, 1) := by decide +kernel
theorem dJ13_bitCount_95d88_0 : decode cJ13_bitCount_95d88 0 = .ok (.lload_n 0, 1) := by decide +kernel
theorem dJ13_bitCount_95d88_1 : decode cJ13_bitCount_95d88 1 = .ok (.lload_n 0, 1) := by decide +kernel
theorem dJ13_bitCount_95d88_2 : decode cJ13_bitCount_95d88 2 = .ok (.iconst 1, 1) := by decide +kernel
theorem dJ13_bitCount_95d88_3 : decode cJ13_bitCount_95d88 3 = .ok (.lushr, 1) := by decide +kernel
theorem dJ13_bitCount_95d88_4 : decode cJ13_bitCount_95d88 4 = .ok (.ldc2_w 314, 3) := by decide +kernel
theorem dJ13_bitCount_95d88_7 : decode cJ13_bitCount_95d88 7 = .ok (.land, 1) := by decide +kernel
theorem dJ13_bitCount_95d88_8 : decode cJ13_bitCount_95d88 8 = .ok (.lsub, 1) := by decide +kernel
theorem dJ13_bitCount_95d88_9 : decode cJ13_bitCount_95d88 9 = .ok (.lstore_n 0, 1) := by decide +kernel
theorem dJ13_bitCount_95d88_10 : decode cJ13_bitCount_95d88 10 = .ok (.lload_n 0, 1) := by decide +kernel
theorem dJ13_bitCount_95d88_11 : decode cJ13_bitCount_95d88 11 = .ok (.ldc2_w 316, 3) := by decide +kernel
theorem dJ13_bitCount_95d88_14 : decode cJ13_bitCount_95d88 14 = .ok (.land, 1) := by decide +kernel
theorem dJ13_bitCount_95d88_15 : decode cJ13_bitCount_95d88 15 = .ok (.lload_n 0, 1) := by decide +kernel
theorem dJ13_bitCount_95d88_16 : decode cJ13_bitCount_95d88 16 = .ok (.iconst 2, 1) := by decide +kernel
theorem dJ13_bitCount_95d88_17 : decode cJ13_bitCount_95d88 17 = .ok (.lushr, 1) := by decide +kernel
theorem dJ13_bitCount_95d88_18 : decode cJ13_bitCount_95d88 18 = .ok (.ldc2_w 316, 3) := by decide +kernel
theorem dJ13_bitCount_95d88_21 : decode cJ13_bitCount_95d88 21 = .ok (.land, 1) := by decide +kernel
theorem dJ13_bitCount_95d88_22 : decode cJ13_bitCount_95d88 22 = .ok (.ladd, 1) := by decide +kernel
theorem dJ13_bitCount_95d88_23 : decode cJ13_bitCount_95d88 23 = .ok (.lstore_n 0, 1) := by decide +kernel
theorem dJ13_bitCount_95d88_24 : decode cJ13_bitCount_95d88 24 = .ok (.lload_n 0, 1) := by decide +kernel
theorem dJ13_bitCount_95d88_25 : decode cJ13_bitCount_95d88 25 = .ok (.lload_n 0, 1) := by decide +kernel
theorem dJ13_bitCount_95d88_26 : decode cJ13_bitCount_95d88 26 = .ok (.iconst 4, 1) := by decide +kernel
theorem dJ13_bitCount_95d88_27 : decode cJ13_bitCount_95d88 27 = .ok (.lushr, 1) := by decide +kernel
theorem dJ13_bitCount_95d88_28 : decode cJ13_bitCount_95d88 28 = .ok (.ladd, 1) := by decide +kernel
theorem dJ13_bitCount_95d88_29 : decode cJ13_bitCount_95d88 29 = .ok (.ldc2_w 318, 3) := by decide +kernel
theorem dJ13_bitCount_95d88_32 : decode cJ13_bitCount_95d88 32 = .ok (.land, 1) := by decide +kernel
theorem dJ13_bitCount_95d88_33 : decode cJ13_bitCount_95d88 33 = .ok (.lstore_n 0, 1) := by decide +kernel
theorem dJ13_bitCount_95d88_34 : decode cJ13_bitCount_95d88 34 = .ok (.lload_n 0, 1) := by decide +kernel
theorem dJ13_bitCount_95d88_35 : decode cJ13_bitCount_95d88 35 = .ok (.lload_n 0, 1) := by decide +kernel
theorem dJ13_bitCount_95d88_36 : decode cJ13_bitCount_95d88 36 = .ok (.bipush 8, 2) := by decide +kernel
theorem dJ13_bitCount_95d88_38 : decode cJ13_bitCount_95d88 38 = .ok (.lushr, 1) := by decide +kernel
theorem dJ13_bitCount_95d88_39 : decode cJ13_bitCount_95d88 39 = .ok (.ladd, 1) := by decide +kernel
theorem dJ13_bitCount_95d88_40 : decode cJ13_bitCount_95d88 40 = .ok (.lstore_n 0, 1) := by decide +kernel
theorem dJ13_bitCount_95d88_41 : decode cJ13_bitCount_95d88 41 = .ok (.lload_n 0, 1) := by decide +kernel
theorem dJ13_bitCount_95d88_42 : decode cJ13_bitCount_95d88 42 = .ok (.lload_n 0, 1) := by decide +kernel
theorem dJ13_bitCount_95d88_43 : decode cJ13_bitCount_95d88 43 = .ok (.bipush 16, 2) := by decide +kernel
theorem dJ13_bitCount_95d88_45 : decode cJ13_bitCount_95d88 45 = .ok (.lushr, 1) := by decide +kernel
theorem dJ13_bitCount_95d88_46 : decode cJ13_bitCount_95d88 46 = .ok (.ladd, 1) := by decide +kernel
theorem dJ13_bitCount_95d88_47 : decode cJ13_bitCount_95d88 47 = .ok (.lstore_n 0, 1) := by decide +kernel
theorem dJ13_bitCount_95d88_48 : decode cJ13_bitCount_95d88 48 = .ok (.lload_n 0, 1) := by decide +kernel
theorem dJ13_bitCount_95d88_49 : decode cJ13_bitCount_95d88 49 = .ok (.lload_n 0, 1) := by decide +kernel
theorem dJ13_bitCount_95d88_50 : decode cJ13_bitCount_95d88 50 = .ok (.bipush 32, 2) := by decide +kernel
theorem dJ13_bitCount_95d88_52 : decode cJ13_bitCount_95d88 52 = .ok (.lushr, 1) := by decide +kernel
theorem dJ13_bitCount_95d88_53 : decode cJ13_bitCount_95d88 53 = .ok (.ladd, 1) := by decide +kernel
theorem dJ13_bitCount_95d88_54 : decode cJ13_bitCount_95d88 54 = .ok (.lstore_n 0, 1) := by decide +kernel
theorem dJ13_bitCount_95d88_55 : decode cJ13_bitCount_95d88 55 = .ok (.lload_n 0, 1) := by decide +kernel
theorem dJ13_bitCount_95d88_56 : decode cJ13_bitCount_95d88 56 = .ok (.l2i, 1) := by decide +kernel
theorem dJ13_bitCount_95d88_57 : decode cJ13_bitCount_95d88 57 = .ok (.bipush 127, 2) := by decide +kernel
theorem dJ13_bitCount_95d88_59 : decode cJ13_bitCount_95d88 59 = .ok (.iand, 1) := by decide +kernel
theorem dJ13_bitCount_95d88_60 : decode cJ13_bitCount_95d88 60 = .ok (.ireturn, 1) := by decide +kernel
theorem dJ9_max_7cf53_0 : decode cJ9_max_7cf53 0 = .ok (.iload_n 0, 1) := by decide +kernel
theorem dJ9_max_7cf53_1 : decode cJ9_max_7cf53 1 = .ok (.iload_n 1, 1) := by decide +kernel
theorem dJ9_max_7cf53_2 : decode cJ9_max_7cf53 2 = .ok (.if_icmp .lt 7, 3) := by decide +kernel
theorem dJ9_max_7cf53_5 : decode cJ9_max_7cf53 5 = .ok (.iload_n 0, 1) := by decide +kernel
theorem dJ9_max_7cf53_6 : decode cJ9_max_7cf53 6 = .ok (.goto 4, 3) := by decide +kernel
theorem dJ9_max_7cf53_9 : decode cJ9_max_7cf53 9 = .ok (.iload_n 1, 1) := by decide +kernel
theorem dJ9_max_7cf53_10 : decode cJ9_max_7cf53 10 = .ok (.ireturn, 1) := by decide +kernel
theorem dJ9_min_7cf53_0 : decode cJ9_min_7cf53 0 = .ok (.iload_n 0, 1) := by decide +kernel
theorem dJ9_min_7cf53_1 : decode cJ9_min_7cf53 1 = .ok (.iload_n 1, 1) := by decide +kernel
theorem dJ9_min_7cf53_2 : decode cJ9_min_7cf53 2 = .ok (.if_icmp .gt 7, 3) := by decide +kernel
theorem dJ9_min_7cf53_5 : decode cJ9_min_7cf53 5 = .ok (.iload_n 0, 1) := by decide +kernel
theorem dJ9_min_7cf53_6 : decode cJ9_min_7cf53 6 = .ok (.goto 4, 3) := by decide +kernel
theorem dJ9_min_7cf53_9 : decode cJ9_min_7cf53 9 = .ok (.iload_n 1, 1) := by decide +kernel
theorem dJ9_min_7cf53_10 : decode cJ9_min_7cf53 10 = .ok (.ireturn, 1) := by decide +kernel
set_option maxRecDepth 20000 in
theorem ggJ0_length_8abf5_J0_coder_7d493 : GoodIn wsJ0_length_8abf5 wsJ0_coder_7d493 := goodIn_r _ [6, 7, 8] (by decide +kernel) (by decide +kernel)
set_option maxRecDepth 20000 in
theorem gJ0_length_8abf5_J0_coder_7d493 : GoodIn wsJ0_length_8abf5 (wsV RJ0 335 RJ0 yJ0_coder_7d493 wsJ0_coder_7d493) := goodIn_app (goodIn_of _ (by decide +kernel)) ggJ0_length_8abf5_J0_coder_7d493
theorem dJ0_length_8abf5_0 : decode cJ0_length_8abf5 0 = .ok (.aload_n 0, 1) := by decide +kernel
theorem dJ0_length_8abf5_1 : decode cJ0_length_8abf5 1 = .ok (.getfield 9, 3) := by decide +kernel
theorem dJ0_length_8abf5_4 : decode cJ0_length_8abf5 4 = .ok (.arraylength, 1) := by decide +kernel
theorem dJ0_length_8abf5_5 : decode cJ0_length_8abf5 5 = .ok (.aload_n 0, 1) := by decide +kernel
theorem dJ0_length_8abf5_6 : decode cJ0_length_8abf5 6 = .ok (.invokevirtual 335, 3) := by decide +kernel
theorem dJ0_length_8abf5_9 : decode cJ0_length_8abf5 9 = .ok (.ishr, 1) := by decide +kernel
theorem dJ0_length_8abf5_10 : decode cJ0_length_8abf5 10 = .ok (.ireturn, 1) := by decide +kernel
set_option maxRecDepth 20000 in
theorem ggJ0_charAt_5068e_J0_isLatin1_aae02 : GoodIn wsJ0_charAt_5068e wsJ0_isLatin1_aae02 := goodIn_r _ [6, 7, 8] (by decide +kernel) (by decide +kernel)
set_option maxRecDepth 20000 in
theorem gJ0_charAt_5068e_J0_isLatin1_aae02 : GoodIn wsJ0_charAt_5068e (wsV RJ0 492 RJ0 yJ0_isLatin1_aae02 wsJ0_isLatin1_aae02) := goodIn_app (goodIn_of _ (by decide +kernel)) ggJ0_charAt_5068e_J0_isLatin1_aae02
set_option maxRecDepth 20000 in
theorem ggJ0_charAt_5068e_J1_charAt_3b067 : GoodIn wsJ0_charAt_5068e wsJ1_charAt_3b067 := goodIn_r _ [12, 13, 14, 5, 15, 16, 17, 18, 19, 20] (by decide +kernel) (by decide +kernel)
set_option maxRecDepth 20000 in
theorem gJ0_charAt_5068e_J1_charAt_3b067 : GoodIn wsJ0_charAt_5068e (va_wsS RJ0 495 yJ1_charAt_3b067 wsJ1_charAt_3b067) := goodIn_app (goodIn_of _ (by decide +kernel)) ggJ0_charAt_5068e_J1_charAt_3b067
set_option maxRecDepth 20000 in
theorem ggJ0_charAt_5068e_J2_charAt_3b067 : GoodIn wsJ0_charAt_5068e wsJ2_charAt_3b067 := goodIn_r _ [24, 25, 26, 23, 27, 28, 29, 30, 31, 14, 5, 15, 16, 17, 18, 19, 20, 32, 33, 34, 35, 36, 37] (by decide +kernel) (by decide +kernel)
set_option maxRecDepth 20000 in
theorem gJ0_charAt_5068e_J2_charAt_3b067 : GoodIn wsJ0_charAt_5068e (va_wsS RJ0 498 yJ2_charAt_3b067 wsJ2_charAt_3b067) := goodIn_app (goodIn_of _ (by decide +kernel)) ggJ0_charAt_5068e_J2_charAt_3b067
theorem dJ0_charAt_5068e_0 : decode cJ0_charAt_5068e 0 = .ok (.aload_n 0, 1) := by decide +kernel
theorem dJ0_charAt_5068e_1 : decode cJ0_charAt_5068e 1 = .ok (.invokevirtual 492, 3) := by decide +kernel
theorem dJ0_charAt_5068e_4 : decode cJ0_charAt_5068e 4 = .ok (.ifCond .eq 12, 3) := by decide +kernel
theorem dJ0_charAt_5068e_7 : decode cJ0_charAt_5068e 7 = .ok (.aload_n 0, 1) := by decide +kernel
theorem dJ0_charAt_5068e_8 : decode cJ0_charAt_5068e 8 = .ok (.getfield 9, 3) := by decide +kernel
theorem dJ0_charAt_5068e_11 : decode cJ0_charAt_5068e 11 = .ok (.iload_n 1, 1) := by decide +kernel
theorem dJ0_charAt_5068e_12 : decode cJ0_charAt_5068e 12 = .ok (.invokestatic 495, 3) := by decide +kernel
theorem dJ0_charAt_5068e_15 : decode cJ0_charAt_5068e 15 = .ok (.ireturn, 1) := by decide +kernel
theorem dJ0_charAt_5068e_16 : decode cJ0_charAt_5068e 16 = .ok (.aload_n 0, 1) := by decide +kernel
theorem dJ0_charAt_5068e_17 : decode cJ0_charAt_5068e 17 = .ok (.getfield 9, 3) := by decide +kernel
theorem dJ0_charAt_5068e_20 : decode cJ0_charAt_5068e 20 = .ok (.iload_n 1, 1) := by decide +kernel
theorem dJ0_charAt_5068e_21 : decode cJ0_charAt_5068e 21 = .ok (.invokestatic 498, 3) := by decide +kernel
theorem dJ0_charAt_5068e_24 : decode cJ0_charAt_5068e 24 = .ok (.ireturn, 1) := by decide +kernel
theorem dJ0_coder_7d493_0 : decode cJ0_coder_7d493 0 = .ok (.getstatic 38, 3) := by decide +kernel
theorem dJ0_coder_7d493_3 : decode cJ0_coder_7d493 3 = .ok (.ifCond .eq 10, 3) := by decide +kernel
theorem dJ0_coder_7d493_6 : decode cJ0_coder_7d493 6 = .ok (.aload_n 0, 1) := by decide +kernel
theorem dJ0_coder_7d493_7 : decode cJ0_coder_7d493 7 = .ok (.getfield 15, 3) := by decide +kernel
theorem dJ0_coder_7d493_10 : decode cJ0_coder_7d493 10 = .ok (.goto 4, 3) := by decide +kernel
theorem dJ0_coder_7d493_13 : decode cJ0_coder_7d493 13 = .ok (.iconst 1, 1) := by decide +kernel
theorem dJ0_coder_7d493_14 : decode cJ0_coder_7d493 14 = .ok (.ireturn, 1) := by decide +kernel
theorem dJ0_isLatin1_aae02_0 : decode cJ0_isLatin1_aae02 0 = .ok (.getstatic 38, 3) := by decide +kernel
theorem dJ0_isLatin1_aae02_3 : decode cJ0_isLatin1_aae02 3 = .ok (.ifCond .eq 14, 3) := by decide +kernel
theorem dJ0_isLatin1_aae02_6 : decode cJ0_isLatin1_aae02 6 = .ok (.aload_n 0, 1) := by decide +kernel
theorem dJ0_isLatin1_aae02_7 : decode cJ0_isLatin1_aae02 7 = .ok (.getfield 15, 3) := by decide +kernel
theorem dJ0_isLatin1_aae02_10 : decode cJ0_isLatin1_aae02 10 = .ok (.ifCond .ne 7, 3) := by decide +kernel
theorem dJ0_isLatin1_aae02_13 : decode cJ0_isLatin1_aae02 13 = .ok (.iconst 1, 1) := by decide +kernel
theorem dJ0_isLatin1_aae02_14 : decode cJ0_isLatin1_aae02 14 = .ok (.goto 4, 3) := by decide +kernel
theorem dJ0_isLatin1_aae02_17 : decode cJ0_isLatin1_aae02 17 = .ok (.iconst 0, 1) := by decide +kernel
theorem dJ0_isLatin1_aae02_18 : decode cJ0_isLatin1_aae02 18 = .ok (.ireturn, 1) := by decide +kernel
set_option maxRecDepth 20000 in
theorem ggJ0_checkIndex_df160_J3_checkIndex_8e157 : GoodIn wsJ0_checkIndex_df160 wsJ3_checkIndex_8e157 := goodIn_r _ [5] (by decide +kernel) (by decide +kernel)
set_option maxRecDepth 20000 in
theorem gJ0_checkIndex_df160_J3_checkIndex_8e157 : GoodIn wsJ0_checkIndex_df160 (va_wsS RJ0 1059 yJ3_checkIndex_8e157 wsJ3_checkIndex_8e157) := goodIn_app (goodIn_of _ (by decide +kernel)) ggJ0_checkIndex_df160_J3_checkIndex_8e157
theorem dJ0_checkIndex_df160_0 : decode cJ0_checkIndex_df160 0 = .ok (.iload_n 0, 1) := by decide +kernel
theorem dJ0_checkIndex_df160_1 : decode cJ0_checkIndex_df160 1 = .ok (.iload_n 1, 1) := by decide +kernel
theorem dJ0_checkIndex_df160_2 : decode cJ0_checkIndex_df160 2 = .ok (.getstatic 1053, 3) := by decide +kernel
theorem dJ0_checkIndex_df160_5 : decode cJ0_checkIndex_df160 5 = .ok (.invokestatic 1059, 3) := by decide +kernel
theorem dJ0_checkIndex_df160_8 : decode cJ0_checkIndex_df160 8 = .ok (.pop, 1) := by decide +kernel
theorem dJ0_checkIndex_df160_9 : decode cJ0_checkIndex_df160 9 = .ok (.return_, 1) := by decide +kernel
set_option maxRecDepth 20000 in
theorem ggJ1_charAt_3b067_J0_checkIndex_df160 : GoodIn wsJ1_charAt_3b067 wsJ0_checkIndex_df160 := goodIn_r _ [4, 5, 6, 7, 8, 9] (by decide +kernel) (by decide +kernel)
set_option maxRecDepth 20000 in
theorem gJ1_charAt_3b067_J0_checkIndex_df160 : GoodIn wsJ1_charAt_3b067 (va_wsS RJ1 9 yJ0_checkIndex_df160 wsJ0_checkIndex_df160) := goodIn_app (goodIn_of _ (by decide +kernel)) ggJ1_charAt_3b067_J0_checkIndex_df160
theorem dJ1_charAt_3b067_0 : decode cJ1_charAt_3b067 0 = .ok (.iload_n 1, 1) := by decide +kernel
theorem dJ1_charAt_3b067_1 : decode cJ1_charAt_3b067 1 = .ok (.aload_n 0, 1) := by decide +kernel
theorem dJ1_charAt_3b067_2 : decode cJ1_charAt_3b067 2 = .ok (.arraylength, 1) := by decide +kernel
theorem dJ1_charAt_3b067_3 : decode cJ1_charAt_3b067 3 = .ok (.invokestatic 9, 3) := by decide +kernel
theorem dJ1_charAt_3b067_6 : decode cJ1_charAt_3b067 6 = .ok (.aload_n 0, 1) := by decide +kernel
theorem dJ1_charAt_3b067_7 : decode cJ1_charAt_3b067 7 = .ok (.iload_n 1, 1) := by decide +kernel
theorem dJ1_charAt_3b067_8 : decode cJ1_charAt_3b067 8 = .ok (.baload, 1) := by decide +kernel
theorem dJ1_charAt_3b067_9 : decode cJ1_charAt_3b067 9 = .ok (.sipush 255, 3) := by decide +kernel
theorem dJ1_charAt_3b067_12 : decode cJ1_charAt_3b067 12 = .ok (.iand, 1) := by decide +kernel
theorem dJ1_charAt_3b067_13 : decode cJ1_charAt_3b067 13 = .ok (.i2c, 1) := by decide +kernel
theorem dJ1_charAt_3b067_14 : decode cJ1_charAt_3b067 14 = .ok (.ireturn, 1) := by decide +kernel
set_option maxRecDepth 20000 in
theorem ggJ2_getChar_3b067_J2_length_9d52b : GoodIn wsJ2_getChar_3b067 wsJ2_length_9d52b := goodIn_r _ [7] (by decide +kernel) (by decide +kernel)
set_option maxRecDepth 20000 in
theorem gJ2_getChar_3b067_J2_length_9d52b : GoodIn wsJ2_getChar_3b067 (va_wsS RJ2 48 yJ2_length_9d52b wsJ2_length_9d52b) := goodIn_app (goodIn_of _ (by decide +kernel)) ggJ2_getChar_3b067_J2_length_9d52b
theorem dJ2_getChar_3b067_0 : decode cJ2_getChar_3b067 0 = .ok (.getstatic 44, 3) := by decide +kernel
theorem dJ2_getChar_3b067_3 : decode cJ2_getChar_3b067 3 = .ok (.ifCond .ne 25, 3) := by decide +kernel
theorem dJ2_getChar_3b067_6 : decode cJ2_getChar_3b067 6 = .ok (.iload_n 1, 1) := by decide +kernel
theorem dJ2_getChar_3b067_7 : decode cJ2_getChar_3b067 7 = .ok (.ifCond .lt 11, 3) := by decide +kernel
theorem dJ2_getChar_3b067_10 : decode cJ2_getChar_3b067 10 = .ok (.iload_n 1, 1) := by decide +kernel
theorem dJ2_getChar_3b067_11 : decode cJ2_getChar_3b067 11 = .ok (.aload_n 0, 1) := by decide +kernel
theorem dJ2_getChar_3b067_12 : decode cJ2_getChar_3b067 12 = .ok (.invokestatic 48, 3) := by decide +kernel
theorem dJ2_getChar_3b067_15 : decode cJ2_getChar_3b067 15 = .ok (.if_icmp .lt 13, 3) := by decide +kernel
theorem dJ2_getChar_3b067_18 : decode cJ2_getChar_3b067 18 = .ok (.new 52, 3) := by decide +kernel
theorem dJ2_getChar_3b067_21 : decode cJ2_getChar_3b067 21 = .ok (.dup, 1) := by decide +kernel
theorem dJ2_getChar_3b067_22 : decode cJ2_getChar_3b067 22 = .ok (.ldc 54, 2) := by decide +kernel
theorem dJ2_getChar_3b067_24 : decode cJ2_getChar_3b067 24 = .ok (.invokespecial 56, 3) := by decide +kernel
theorem dJ2_getChar_3b067_27 : decode cJ2_getChar_3b067 27 = .ok (.athrow, 1) := by decide +kernel
theorem dJ2_getChar_3b067_28 : decode cJ2_getChar_3b067 28 = .ok (.iload_n 1, 1) := by decide +kernel
theorem dJ2_getChar_3b067_29 : decode cJ2_getChar_3b067 29 = .ok (.iconst 1, 1) := by decide +kernel
theorem dJ2_getChar_3b067_30 : decode cJ2_getChar_3b067 30 = .ok (.ishl, 1) := by decide +kernel
theorem dJ2_getChar_3b067_31 : decode cJ2_getChar_3b067 31 = .ok (.istore_n 1, 1) := by decide +kernel
theorem dJ2_getChar_3b067_32 : decode cJ2_getChar_3b067 32 = .ok (.aload_n 0, 1) := by decide +kernel
theorem dJ2_getChar_3b067_33 : decode cJ2_getChar_3b067 33 = .ok (.iload_n 1, 1) := by decide +kernel
theorem dJ2_getChar_3b067_34 : decode cJ2_getChar_3b067 34 = .ok (.iinc 1 1, 3) := by decide +kernel
theorem dJ2_getChar_3b067_37 : decode cJ2_getChar_3b067 37 = .ok (.baload, 1) := by decide +kernel
theorem dJ2_getChar_3b067_38 : decode cJ2_getChar_3b067 38 = .ok (.sipush 255, 3) := by decide +kernel
theorem dJ2_getChar_3b067_41 : decode cJ2_getChar_3b067 41 = .ok (.iand, 1) := by decide +kernel
theorem dJ2_getChar_3b067_42 : decode cJ2_getChar_3b067 42 = .ok (.getstatic 59, 3) := by decide +kernel
theorem dJ2_getChar_3b067_45 : decode cJ2_getChar_3b067 45 = .ok (.ishl, 1) := by decide +kernel
theorem dJ2_getChar_3b067_46 : decode cJ2_getChar_3b067 46 = .ok (.aload_n 0, 1) := by decide +kernel
theorem dJ2_getChar_3b067_47 : decode cJ2_getChar_3b067 47 = .ok (.iload_n 1, 1) := by decide +kernel
theorem dJ2_getChar_3b067_48 : decode cJ2_getChar_3b067 48 = .ok (.baload, 1) := by decide +kernel
theorem dJ2_getChar_3b067_49 : decode cJ2_getChar_3b067 49 = .ok (.sipush 255, 3) := by decide +kernel
theorem dJ2_getChar_3b067_52 : decode cJ2_getChar_3b067 52 = .ok (.iand, 1) := by decide +kernel
theorem dJ2_getChar_3b067_53 : decode cJ2_getChar_3b067 53 = .ok (.getstatic 63, 3) := by decide +kernel
theorem dJ2_getChar_3b067_56 : decode cJ2_getChar_3b067 56 = .ok (.ishl, 1) := by decide +kernel
theorem dJ2_getChar_3b067_57 : decode cJ2_getChar_3b067 57 = .ok (.ior, 1) := by decide +kernel
theorem dJ2_getChar_3b067_58 : decode cJ2_getChar_3b067 58 = .ok (.i2c, 1) := by decide +kernel
theorem dJ2_getChar_3b067_59 : decode cJ2_getChar_3b067 59 = .ok (.ireturn, 1) := by decide +kernel
theorem dJ2_length_9d52b_0 : decode cJ2_length_9d52b 0 = .ok (.aload_n 0, 1) := by decide +kernel
theorem dJ2_length_9d52b_1 : decode cJ2_length_9d52b 1 = .ok (.arraylength, 1) := by decide +kernel
theorem dJ2_length_9d52b_2 : decode cJ2_length_9d52b 2 = .ok (.iconst 1, 1) := by decide +kernel
theorem dJ2_length_9d52b_3 : decode cJ2_length_9d52b 3 = .ok (.ishr, 1) := by decide +kernel
theorem dJ2_length_9d52b_4 : decode cJ2_length_9d52b 4 = .ok (.ireturn, 1) := by decide +kernel
set_option maxRecDepth 20000 in
theorem ggJ2_charAt_3b067_J2_checkIndex_2214a : GoodIn wsJ2_charAt_3b067 wsJ2_checkIndex_2214a := goodIn_r _ [4, 5, 6, 3, 7, 8, 9, 10, 11, 12, 13, 14, 15, 16] (by decide +kernel) (by decide +kernel)
set_option maxRecDepth 20000 in
theorem gJ2_charAt_3b067_J2_checkIndex_2214a : GoodIn wsJ2_charAt_3b067 (va_wsS RJ2 67 yJ2_checkIndex_2214a wsJ2_checkIndex_2214a) := goodIn_app (goodIn_of _ (by decide +kernel)) ggJ2_charAt_3b067_J2_checkIndex_2214a
set_option maxRecDepth 20000 in
theorem ggJ2_charAt_3b067_J2_getChar_3b067 : GoodIn wsJ2_charAt_3b067 wsJ2_getChar_3b067 := goodIn_r _ [19, 20, 21, 22, 5, 6, 3, 7] (by decide +kernel) (by decide +kernel)
set_option maxRecDepth 20000 in
theorem gJ2_charAt_3b067_J2_getChar_3b067 : GoodIn wsJ2_charAt_3b067 (va_wsS RJ2 71 yJ2_getChar_3b067 wsJ2_getChar_3b067) := goodIn_app (goodIn_of _ (by decide +kernel)) ggJ2_charAt_3b067_J2_getChar_3b067
theorem dJ2_charAt_3b067_0 : decode cJ2_charAt_3b067 0 = .ok (.iload_n 1, 1) := by decide +kernel
theorem dJ2_charAt_3b067_1 : decode cJ2_charAt_3b067 1 = .ok (.aload_n 0, 1) := by decide +kernel
theorem dJ2_charAt_3b067_2 : decode cJ2_charAt_3b067 2 = .ok (.invokestatic 67, 3) := by decide +kernel
theorem dJ2_charAt_3b067_5 : decode cJ2_charAt_3b067 5 = .ok (.aload_n 0, 1) := by decide +kernel
theorem dJ2_charAt_3b067_6 : decode cJ2_charAt_3b067 6 = .ok (.iload_n 1, 1) := by decide +kernel
theorem dJ2_charAt_3b067_7 : decode cJ2_charAt_3b067 7 = .ok (.invokestatic 71, 3) := by decide +kernel
theorem dJ2_charAt_3b067_10 : decode cJ2_charAt_3b067 10 = .ok (.ireturn, 1) := by decide +kernel
set_option maxRecDepth 20000 in
theorem ggJ2_checkIndex_2214a_J2_length_9d52b : GoodIn wsJ2_checkIndex_2214a wsJ2_length_9d52b := goodIn_r _ [4] (by decide +kernel) (by decide +kernel)
set_option maxRecDepth 20000 in
theorem gJ2_checkIndex_2214a_J2_length_9d52b : GoodIn wsJ2_checkIndex_2214a (va_wsS RJ2 48 yJ2_length_9d52b wsJ2_length_9d52b) := goodIn_app (goodIn_of _ (by decide +kernel)) ggJ2_checkIndex_2214a_J2_length_9d52b
set_option maxRecDepth 20000 in
theorem ggJ2_checkIndex_2214a_J0_checkIndex_df160 : GoodIn wsJ2_checkIndex_2214a wsJ0_checkIndex_df160 := goodIn_r _ [8, 9, 10, 11, 12, 13] (by decide +kernel) (by decide +kernel)
set_option maxRecDepth 20000 in
theorem gJ2_checkIndex_2214a_J0_checkIndex_df160 : GoodIn wsJ2_checkIndex_2214a (va_wsS RJ2 414 yJ0_checkIndex_df160 wsJ0_checkIndex_df160) := goodIn_app (goodIn_of _ (by decide +kernel)) ggJ2_checkIndex_2214a_J0_checkIndex_df160
theorem dJ2_checkIndex_2214a_0 : decode cJ2_checkIndex_2214a 0 = .ok (.iload_n 0, 1) := by decide +kernel
theorem dJ2_checkIndex_2214a_1 : decode cJ2_checkIndex_2214a 1 = .ok (.aload_n 1, 1) := by decide +kernel
theorem dJ2_checkIndex_2214a_2 : decode cJ2_checkIndex_2214a 2 = .ok (.invokestatic 48, 3) := by decide +kernel
theorem dJ2_checkIndex_2214a_5 : decode cJ2_checkIndex_2214a 5 = .ok (.invokestatic 414, 3) := by decide +kernel
theorem dJ2_checkIndex_2214a_8 : decode cJ2_checkIndex_2214a 8 = .ok (.return_, 1) := by decide +kernel
theorem dJ7_fill_d0a16_0 : decode cJ7_fill_d0a16 0 = .ok (.iconst 0, 1) := by decide +kernel
theorem dJ7_fill_d0a16_1 : decode cJ7_fill_d0a16 1 = .ok (.istore_n 3, 1) := by decide +kernel
theorem dJ7_fill_d0a16_2 : decode cJ7_fill_d0a16 2 = .ok (.aload_n 0, 1) := by decide +kernel
theorem dJ7_fill_d0a16_3 : decode cJ7_fill_d0a16 3 = .ok (.arraylength, 1) := by decide +kernel
theorem dJ7_fill_d0a16_4 : decode cJ7_fill_d0a16 4 = .ok (.istore 4, 2) := by decide +kernel
theorem dJ7_fill_d0a16_6 : decode cJ7_fill_d0a16 6 = .ok (.iload_n 3, 1) := by decide +kernel
theorem dJ7_fill_d0a16_7 : decode cJ7_fill_d0a16 7 = .ok (.iload 4, 2) := by decide +kernel
theorem dJ7_fill_d0a16_9 : decode cJ7_fill_d0a16 9 = .ok (.if_icmp .ge 13, 3) := by decide +kernel
theorem dJ7_fill_d0a16_12 : decode cJ7_fill_d0a16 12 = .ok (.aload_n 0, 1) := by decide +kernel
theorem dJ7_fill_d0a16_13 : decode cJ7_fill_d0a16 13 = .ok (.iload_n 3, 1) := by decide +kernel
theorem dJ7_fill_d0a16_14 : decode cJ7_fill_d0a16 14 = .ok (.lload_n 1, 1) := by decide +kernel
theorem dJ7_fill_d0a16_15 : decode cJ7_fill_d0a16 15 = .ok (.lastore, 1) := by decide +kernel
theorem dJ7_fill_d0a16_16 : decode cJ7_fill_d0a16 16 = .ok (.iinc 3 1, 3) := by decide +kernel
theorem dJ7_fill_d0a16_19 : decode cJ7_fill_d0a16 19 = .ok (.goto (-13), 3) := by decide +kernel
theorem dJ7_fill_d0a16_22 : decode cJ7_fill_d0a16 22 = .ok (.return_, 1) := by decide +kernel
theorem dJ7_fill_53178_0 : decode cJ7_fill_53178 0 = .ok (.iconst 0, 1) := by decide +kernel
theorem dJ7_fill_53178_1 : decode cJ7_fill_53178 1 = .ok (.istore_n 2, 1) := by decide +kernel
theorem dJ7_fill_53178_2 : decode cJ7_fill_53178 2 = .ok (.aload_n 0, 1) := by decide +kernel
theorem dJ7_fill_53178_3 : decode cJ7_fill_53178 3 = .ok (.arraylength, 1) := by decide +kernel
theorem dJ7_fill_53178_4 : decode cJ7_fill_53178 4 = .ok (.istore_n 3, 1) := by decide +kernel
theorem dJ7_fill_53178_5 : decode cJ7_fill_53178 5 = .ok (.iload_n 2, 1) := by decide +kernel
theorem dJ7_fill_53178_6 : decode cJ7_fill_53178 6 = .ok (.iload_n 3, 1) := by decide +kernel
theorem dJ7_fill_53178_7 : decode cJ7_fill_53178 7 = .ok (.if_icmp .ge 13, 3) := by decide +kernel
theorem dJ7_fill_53178_10 : decode cJ7_fill_53178 10 = .ok (.aload_n 0, 1) := by decide +kernel
theorem dJ7_fill_53178_11 : decode cJ7_fill_53178 11 = .ok (.iload_n 2, 1) := by decide +kernel
theorem dJ7_fill_53178_12 : decode cJ7_fill_53178 12 = .ok (.iload_n 1, 1) := by decide +kernel
theorem dJ7_fill_53178_13 : decode cJ7_fill_53178 13 = .ok (.iastore, 1) := by decide +kernel
theorem dJ7_fill_53178_14 : decode cJ7_fill_53178 14 = .ok (.iinc 2 1, 3) := by decide +kernel
theorem dJ7_fill_53178_17 : decode cJ7_fill_53178 17 = .ok (.goto (-12), 3) := by decide +kernel
theorem dJ7_fill_53178_20 : decode cJ7_fill_53178 20 = .ok (.return_, 1) := by decide +kernel
theorem dJ7_copyOf_59c91_0 : decode cJ7_copyOf_59c91 0 = .ok (.iload_n 1, 1) := by decide +kernel
theorem dJ7_copyOf_59c91_1 : decode cJ7_copyOf_59c91 1 = .ok (.aload_n 0, 1) := by decide +kernel
theorem dJ7_copyOf_59c91_2 : decode cJ7_copyOf_59c91 2 = .ok (.arraylength, 1) := by decide +kernel
theorem dJ7_copyOf_59c91_3 : decode cJ7_copyOf_59c91 3 = .ok (.if_icmp .ne 11, 3) := by decide +kernel
theorem dJ7_copyOf_59c91_6 : decode cJ7_copyOf_59c91 6 = .ok (.aload_n 0, 1) := by decide +kernel
theorem dJ7_copyOf_59c91_7 : decode cJ7_copyOf_59c91 7 = .ok (.invokevirtual 316, 3) := by decide +kernel
theorem dJ7_copyOf_59c91_10 : decode cJ7_copyOf_59c91 10 = .ok (.checkcast 317, 3) := by decide +kernel
theorem dJ7_copyOf_59c91_13 : decode cJ7_copyOf_59c91 13 = .ok (.areturn, 1) := by decide +kernel
theorem dJ7_copyOf_59c91_14 : decode cJ7_copyOf_59c91 14 = .ok (.iload_n 1, 1) := by decide +kernel
theorem dJ7_copyOf_59c91_15 : decode cJ7_copyOf_59c91 15 = .ok (.newarray .int, 2) := by decide +kernel
theorem dJ7_copyOf_59c91_17 : decode cJ7_copyOf_59c91 17 = .ok (.astore_n 2, 1) := by decide +kernel
theorem dJ7_copyOf_59c91_18 : decode cJ7_copyOf_59c91 18 = .ok (.aload_n 0, 1) := by decide +kernel
theorem dJ7_copyOf_59c91_19 : decode cJ7_copyOf_59c91 19 = .ok (.iconst 0, 1) := by decide +kernel
theorem dJ7_copyOf_59c91_20 : decode cJ7_copyOf_59c91 20 = .ok (.aload_n 2, 1) := by decide +kernel
theorem dJ7_copyOf_59c91_21 : decode cJ7_copyOf_59c91 21 = .ok (.iconst 0, 1) := by decide +kernel
theorem dJ7_copyOf_59c91_22 : decode cJ7_copyOf_59c91 22 = .ok (.aload_n 0, 1) := by decide +kernel
theorem dJ7_copyOf_59c91_23 : decode cJ7_copyOf_59c91 23 = .ok (.arraylength, 1) := by decide +kernel
theorem dJ7_copyOf_59c91_24 : decode cJ7_copyOf_59c91 24 = .ok (.iload_n 1, 1) := by decide +kernel
theorem dJ7_copyOf_59c91_25 : decode cJ7_copyOf_59c91 25 = .ok (.invokestatic 304, 3) := by decide +kernel
theorem dJ7_copyOf_59c91_28 : decode cJ7_copyOf_59c91 28 = .ok (.invokestatic 150, 3) := by decide +kernel
theorem dJ7_copyOf_59c91_31 : decode cJ7_copyOf_59c91 31 = .ok (.aload_n 2, 1) := by decide +kernel
theorem dJ7_copyOf_59c91_32 : decode cJ7_copyOf_59c91 32 = .ok (.areturn, 1) := by decide +kernel
theorem dJ3_checkIndex_8e157_0 : decode cJ3_checkIndex_8e157 0 = .ok (.iload_n 0, 1) := by decide +kernel
theorem dJ3_checkIndex_8e157_1 : decode cJ3_checkIndex_8e157 1 = .ok (.ifCond .lt 8, 3) := by decide +kernel
theorem dJ3_checkIndex_8e157_4 : decode cJ3_checkIndex_8e157 4 = .ok (.iload_n 0, 1) := by decide +kernel
theorem dJ3_checkIndex_8e157_5 : decode cJ3_checkIndex_8e157 5 = .ok (.iload_n 1, 1) := by decide +kernel
theorem dJ3_checkIndex_8e157_6 : decode cJ3_checkIndex_8e157 6 = .ok (.if_icmp .lt 10, 3) := by decide +kernel
theorem dJ3_checkIndex_8e157_9 : decode cJ3_checkIndex_8e157 9 = .ok (.aload_n 2, 1) := by decide +kernel
theorem dJ3_checkIndex_8e157_10 : decode cJ3_checkIndex_8e157 10 = .ok (.iload_n 0, 1) := by decide +kernel
theorem dJ3_checkIndex_8e157_11 : decode cJ3_checkIndex_8e157 11 = .ok (.iload_n 1, 1) := by decide +kernel
theorem dJ3_checkIndex_8e157_12 : decode cJ3_checkIndex_8e157 12 = .ok (.invokestatic 95, 3) := by decide +kernel
theorem dJ3_checkIndex_8e157_15 : decode cJ3_checkIndex_8e157 15 = .ok (.athrow, 1) := by decide +kernel
theorem dJ3_checkIndex_8e157_16 : decode cJ3_checkIndex_8e157 16 = .ok (.iload_n 0, 1) := by decide +kernel
theorem dJ3_checkIndex_8e157_17 : decode cJ3_checkIndex_8e157 17 = .ok (.ireturn, 1) := by decide +kernel
