theorem dX9_init_0 : decode cX9_init 0 = .ok (.aload_n 0, 1) := by decide +kernel
theorem dX9_init_1 : decode cX9_init 1 = .ok (.invokespecial 1, 3) := by decide +kernel
theorem dX9_init_4 : decode cX9_init 4 = .ok (.aload_n 0, 1) := by decide +kernel
theorem dX9_init_5 : decode cX9_init 5 = .ok (.bipush 10, 2) := by decide +kernel
theorem dX9_init_7 : decode cX9_init 7 = .ok (.newarray .int, 2) := by decide +kernel
theorem dX9_init_9 : decode cX9_init 9 = .ok (.putfield 9, 3) := by decide +kernel
theorem dX9_init_12 : decode cX9_init 12 = .ok (.aload_n 0, 1) := by decide +kernel
theorem dX9_init_13 : decode cX9_init 13 = .ok (.sipush 200, 3) := by decide +kernel
theorem dX9_init_16 : decode cX9_init 16 = .ok (.newarray .byte, 2) := by decide +kernel
theorem dX9_init_18 : decode cX9_init 18 = .ok (.putfield 13, 3) := by decide +kernel
theorem dX9_init_21 : decode cX9_init 21 = .ok (.aload_n 0, 1) := by decide +kernel
theorem dX9_init_22 : decode cX9_init 22 = .ok (.sipush 341, 3) := by decide +kernel
theorem dX9_init_25 : decode cX9_init 25 = .ok (.newarray .long, 2) := by decide +kernel
theorem dX9_init_27 : decode cX9_init 27 = .ok (.putfield 17, 3) := by decide +kernel
theorem dX9_init_30 : decode cX9_init 30 = .ok (.aload_n 0, 1) := by decide +kernel
theorem dX9_init_31 : decode cX9_init 31 = .ok (.sipush 341, 3) := by decide +kernel
theorem dX9_init_34 : decode cX9_init 34 = .ok (.newarray .long, 2) := by decide +kernel
theorem dX9_init_36 : decode cX9_init 36 = .ok (.putfield 21, 3) := by decide +kernel
theorem dX9_init_39 : decode cX9_init 39 = .ok (.aload_n 0, 1) := by decide +kernel
theorem dX9_init_40 : decode cX9_init 40 = .ok (.bipush 30, 2) := by decide +kernel
theorem dX9_init_42 : decode cX9_init 42 = .ok (.newarray .int, 2) := by decide +kernel
theorem dX9_init_44 : decode cX9_init 44 = .ok (.putfield 24, 3) := by decide +kernel
theorem dX9_init_47 : decode cX9_init 47 = .ok (.aload_n 0, 1) := by decide +kernel
theorem dX9_init_48 : decode cX9_init 48 = .ok (.bipush 30, 2) := by decide +kernel
theorem dX9_init_50 : decode cX9_init 50 = .ok (.newarray .int, 2) := by decide +kernel
theorem dX9_init_52 : decode cX9_init 52 = .ok (.putfield 27, 3) := by decide +kernel
theorem dX9_init_55 : decode cX9_init 55 = .ok (.aload_n 0, 1) := by decide +kernel
theorem dX9_init_56 : decode cX9_init 56 = .ok (.sipush 9000, 3) := by decide +kernel
theorem dX9_init_59 : decode cX9_init 59 = .ok (.newarray .int, 2) := by decide +kernel
theorem dX9_init_61 : decode cX9_init 61 = .ok (.putfield 30, 3) := by decide +kernel
theorem dX9_init_64 : decode cX9_init 64 = .ok (.aload_n 0, 1) := by decide +kernel
theorem dX9_init_65 : decode cX9_init 65 = .ok (.bipush 12, 2) := by decide +kernel
theorem dX9_init_67 : decode cX9_init 67 = .ok (.newarray .int, 2) := by decide +kernel
theorem dX9_init_69 : decode cX9_init 69 = .ok (.putfield 33, 3) := by decide +kernel
theorem dX9_init_72 : decode cX9_init 72 = .ok (.aload_n 0, 1) := by decide +kernel
theorem dX9_init_73 : decode cX9_init 73 = .ok (.bipush 12, 2) := by decide +kernel
theorem dX9_init_75 : decode cX9_init 75 = .ok (.newarray .int, 2) := by decide +kernel
theorem dX9_init_77 : decode cX9_init 77 = .ok (.putfield 36, 3) := by decide +kernel
theorem dX9_init_80 : decode cX9_init 80 = .ok (.aload_n 0, 1) := by decide +kernel
theorem dX9_init_81 : decode cX9_init 81 = .ok (.bipush 12, 2) := by decide +kernel
theorem dX9_init_83 : decode cX9_init 83 = .ok (.newarray .int, 2) := by decide +kernel
theorem dX9_init_85 : decode cX9_init 85 = .ok (.putfield 39, 3) := by decide +kernel
theorem dX9_init_88 : decode cX9_init 88 = .ok (.aload_n 0, 1) := by decide +kernel
theorem dX9_init_89 : decode cX9_init 89 = .ok (.bipush 12, 2) := by decide +kernel
theorem dX9_init_91 : decode cX9_init 91 = .ok (.newarray .int, 2) := by decide +kernel
theorem dX9_init_93 : decode cX9_init 93 = .ok (.putfield 42, 3) := by decide +kernel
theorem dX9_init_96 : decode cX9_init 96 = .ok (.aload_n 0, 1) := by decide +kernel
theorem dX9_init_97 : decode cX9_init 97 = .ok (.bipush 30, 2) := by decide +kernel
theorem dX9_init_99 : decode cX9_init 99 = .ok (.newarray .int, 2) := by decide +kernel
theorem dX9_init_101 : decode cX9_init 101 = .ok (.putfield 45, 3) := by decide +kernel
theorem dX9_init_104 : decode cX9_init 104 = .ok (.aload_n 0, 1) := by decide +kernel
theorem dX9_init_105 : decode cX9_init 105 = .ok (.bipush 30, 2) := by decide +kernel
theorem dX9_init_107 : decode cX9_init 107 = .ok (.newarray .int, 2) := by decide +kernel
theorem dX9_init_109 : decode cX9_init 109 = .ok (.putfield 48, 3) := by decide +kernel
theorem dX9_init_112 : decode cX9_init 112 = .ok (.aload_n 0, 1) := by decide +kernel
theorem dX9_init_113 : decode cX9_init 113 = .ok (.sipush 9000, 3) := by decide +kernel
theorem dX9_init_116 : decode cX9_init 116 = .ok (.newarray .boolean, 2) := by decide +kernel
theorem dX9_init_118 : decode cX9_init 118 = .ok (.putfield 51, 3) := by decide +kernel
theorem dX9_init_121 : decode cX9_init 121 = .ok (.aload_n 0, 1) := by decide +kernel
theorem dX9_init_122 : decode cX9_init 122 = .ok (.bipush 40, 2) := by decide +kernel
theorem dX9_init_124 : decode cX9_init 124 = .ok (.newarray .int, 2) := by decide +kernel
theorem dX9_init_126 : decode cX9_init 126 = .ok (.putfield 55, 3) := by decide +kernel
theorem dX9_init_129 : decode cX9_init 129 = .ok (.aload_n 0, 1) := by decide +kernel
theorem dX9_init_130 : decode cX9_init 130 = .ok (.bipush 30, 2) := by decide +kernel
theorem dX9_init_132 : decode cX9_init 132 = .ok (.newarray .boolean, 2) := by decide +kernel
theorem dX9_init_134 : decode cX9_init 134 = .ok (.putfield 58, 3) := by decide +kernel
theorem dX9_init_137 : decode cX9_init 137 = .ok (.return_, 1) := by decide +kernel
theorem dX9_thrown_0 : decode cX9_thrown 0 = .ok (.aload_n 0, 1) := by decide +kernel
theorem dX9_thrown_1 : decode cX9_thrown 1 = .ok (.getfield 61, 3) := by decide +kernel
theorem dX9_thrown_4 : decode cX9_thrown 4 = .ok (.ireturn, 1) := by decide +kernel
theorem dX9_bad_0 : decode cX9_bad 0 = .ok (.iload_n 1, 1) := by decide +kernel
theorem dX9_bad_1 : decode cX9_bad 1 = .ok (.ifCond .eq 8, 3) := by decide +kernel
theorem dX9_bad_4 : decode cX9_bad 4 = .ok (.aload_n 0, 1) := by decide +kernel
theorem dX9_bad_5 : decode cX9_bad 5 = .ok (.iload_n 2, 1) := by decide +kernel
theorem dX9_bad_6 : decode cX9_bad 6 = .ok (.putfield 61, 3) := by decide +kernel
theorem dX9_bad_9 : decode cX9_bad 9 = .ok (.iload_n 1, 1) := by decide +kernel
theorem dX9_bad_10 : decode cX9_bad 10 = .ok (.ireturn, 1) := by decide +kernel
set_option maxRecDepth 20000 in
theorem ggX9_town_X9_bad : GoodIn wsX9_town wsX9_bad := goodIn_r _ [8, 1, 9, 10, 11, 12, 13, 14, 15, 16, 17, 18, 19, 20, 21, 22, 23, 24, 25, 26, 27, 28, 29, 30, 31, 32, 33, 34, 35, 36, 37, 38, 39, 40, 41] (by decide +kernel) (by decide +kernel)
set_option maxRecDepth 20000 in
theorem gX9_town_X9_bad : GoodIn wsX9_town (wsV RX9 65 RX9 yX9_bad wsX9_bad) := goodIn_app (goodIn_of _ (by decide +kernel)) ggX9_town_X9_bad
theorem dX9_town_0 : decode cX9_town 0 = .ok (.aload_n 0, 1) := by decide +kernel
theorem dX9_town_1 : decode cX9_town 1 = .ok (.iconst 0, 1) := by decide +kernel
theorem dX9_town_2 : decode cX9_town 2 = .ok (.putfield 61, 3) := by decide +kernel
theorem dX9_town_5 : decode cX9_town 5 = .ok (.aload_n 0, 1) := by decide +kernel
theorem dX9_town_6 : decode cX9_town 6 = .ok (.iload_n 1, 1) := by decide +kernel
theorem dX9_town_7 : decode cX9_town 7 = .ok (.ifCond .lt 10, 3) := by decide +kernel
theorem dX9_town_10 : decode cX9_town 10 = .ok (.iload_n 1, 1) := by decide +kernel
theorem dX9_town_11 : decode cX9_town 11 = .ok (.sipush 4399, 3) := by decide +kernel
theorem dX9_town_14 : decode cX9_town 14 = .ok (.if_icmp .le 7, 3) := by decide +kernel
theorem dX9_town_17 : decode cX9_town 17 = .ok (.iconst 1, 1) := by decide +kernel
theorem dX9_town_18 : decode cX9_town 18 = .ok (.goto 4, 3) := by decide +kernel
theorem dX9_town_21 : decode cX9_town 21 = .ok (.iconst 0, 1) := by decide +kernel
theorem dX9_town_22 : decode cX9_town 22 = .ok (.iconst 1, 1) := by decide +kernel
theorem dX9_town_23 : decode cX9_town 23 = .ok (.invokevirtual 65, 3) := by decide +kernel
theorem dX9_town_26 : decode cX9_town 26 = .ok (.ifCond .ne 25, 3) := by decide +kernel
theorem dX9_town_29 : decode cX9_town 29 = .ok (.aload_n 0, 1) := by decide +kernel
theorem dX9_town_30 : decode cX9_town 30 = .ok (.aload_n 0, 1) := by decide +kernel
theorem dX9_town_31 : decode cX9_town 31 = .ok (.getfield 69, 3) := by decide +kernel
theorem dX9_town_34 : decode cX9_town 34 = .ok (.bipush 10, 2) := by decide +kernel
theorem dX9_town_36 : decode cX9_town 36 = .ok (.if_icmp .ne 7, 3) := by decide +kernel
theorem dX9_town_39 : decode cX9_town 39 = .ok (.iconst 1, 1) := by decide +kernel
theorem dX9_town_40 : decode cX9_town 40 = .ok (.goto 4, 3) := by decide +kernel
theorem dX9_town_43 : decode cX9_town 43 = .ok (.iconst 0, 1) := by decide +kernel
theorem dX9_town_44 : decode cX9_town 44 = .ok (.iconst 2, 1) := by decide +kernel
theorem dX9_town_45 : decode cX9_town 45 = .ok (.invokevirtual 65, 3) := by decide +kernel
theorem dX9_town_48 : decode cX9_town 48 = .ok (.ifCond .eq 5, 3) := by decide +kernel
theorem dX9_town_51 : decode cX9_town 51 = .ok (.iconst 0, 1) := by decide +kernel
theorem dX9_town_52 : decode cX9_town 52 = .ok (.ireturn, 1) := by decide +kernel
theorem dX9_town_53 : decode cX9_town 53 = .ok (.aload_n 0, 1) := by decide +kernel
theorem dX9_town_54 : decode cX9_town 54 = .ok (.getfield 9, 3) := by decide +kernel
theorem dX9_town_57 : decode cX9_town 57 = .ok (.aload_n 0, 1) := by decide +kernel
theorem dX9_town_58 : decode cX9_town 58 = .ok (.getfield 69, 3) := by decide +kernel
theorem dX9_town_61 : decode cX9_town 61 = .ok (.iload_n 1, 1) := by decide +kernel
theorem dX9_town_62 : decode cX9_town 62 = .ok (.iastore, 1) := by decide +kernel
theorem dX9_town_63 : decode cX9_town 63 = .ok (.aload_n 0, 1) := by decide +kernel
theorem dX9_town_64 : decode cX9_town 64 = .ok (.dup, 1) := by decide +kernel
theorem dX9_town_65 : decode cX9_town 65 = .ok (.getfield 69, 3) := by decide +kernel
theorem dX9_town_68 : decode cX9_town 68 = .ok (.iconst 1, 1) := by decide +kernel
theorem dX9_town_69 : decode cX9_town 69 = .ok (.iadd, 1) := by decide +kernel
theorem dX9_town_70 : decode cX9_town 70 = .ok (.putfield 69, 3) := by decide +kernel
theorem dX9_town_73 : decode cX9_town 73 = .ok (.aload_n 0, 1) := by decide +kernel
theorem dX9_town_74 : decode cX9_town 74 = .ok (.getfield 69, 3) := by decide +kernel
theorem dX9_town_77 : decode cX9_town 77 = .ok (.iconst 1, 1) := by decide +kernel
theorem dX9_town_78 : decode cX9_town 78 = .ok (.isub, 1) := by decide +kernel
theorem dX9_town_79 : decode cX9_town 79 = .ok (.ireturn, 1) := by decide +kernel
theorem dX9_isDay_0 : decode cX9_isDay 0 = .ok (.iload_n 0, 1) := by decide +kernel
theorem dX9_isDay_1 : decode cX9_isDay 1 = .ok (.ldc 72, 2) := by decide +kernel
theorem dX9_isDay_3 : decode cX9_isDay 3 = .ok (.if_icmp .lt 13, 3) := by decide +kernel
theorem dX9_isDay_6 : decode cX9_isDay 6 = .ok (.iload_n 0, 1) := by decide +kernel
theorem dX9_isDay_7 : decode cX9_isDay 7 = .ok (.ldc 73, 2) := by decide +kernel
theorem dX9_isDay_9 : decode cX9_isDay 9 = .ok (.if_icmp .gt 7, 3) := by decide +kernel
theorem dX9_isDay_12 : decode cX9_isDay 12 = .ok (.iconst 1, 1) := by decide +kernel
theorem dX9_isDay_13 : decode cX9_isDay 13 = .ok (.goto 4, 3) := by decide +kernel
theorem dX9_isDay_16 : decode cX9_isDay 16 = .ok (.iconst 0, 1) := by decide +kernel
theorem dX9_isDay_17 : decode cX9_isDay 17 = .ok (.ireturn, 1) := by decide +kernel
theorem dX9_moonOf_0 : decode cX9_moonOf 0 = .ok (.iload_n 0, 1) := by decide +kernel
theorem dX9_moonOf_1 : decode cX9_moonOf 1 = .ok (.iload_n 1, 1) := by decide +kernel
theorem dX9_moonOf_2 : decode cX9_moonOf 2 = .ok (.iadd, 1) := by decide +kernel
theorem dX9_moonOf_3 : decode cX9_moonOf 3 = .ok (.i2l, 1) := by decide +kernel
theorem dX9_moonOf_4 : decode cX9_moonOf 4 = .ok (.ldc2_w 74, 3) := by decide +kernel
theorem dX9_moonOf_7 : decode cX9_moonOf 7 = .ok (.lmul, 1) := by decide +kernel
theorem dX9_moonOf_8 : decode cX9_moonOf 8 = .ok (.ldc2_w 76, 3) := by decide +kernel
theorem dX9_moonOf_11 : decode cX9_moonOf 11 = .ok (.lrem, 1) := by decide +kernel
theorem dX9_moonOf_12 : decode cX9_moonOf 12 = .ok (.l2i, 1) := by decide +kernel
theorem dX9_moonOf_13 : decode cX9_moonOf 13 = .ok (.sipush 149, 3) := by decide +kernel
theorem dX9_moonOf_16 : decode cX9_moonOf 16 = .ok (.idiv, 1) := by decide +kernel
theorem dX9_moonOf_17 : decode cX9_moonOf 17 = .ok (.ireturn, 1) := by decide +kernel
theorem dX9_valueOf_0 : decode cX9_valueOf 0 = .ok (.iload_n 1, 1) := by decide +kernel
theorem dX9_valueOf_1 : decode cX9_valueOf 1 = .ok (.tableswitch 132 0 8 #[51, 56, 65, 75, 84, 89, 98, 106, 119], 51) := by decide +kernel
theorem dX9_valueOf_52 : decode cX9_valueOf 52 = .ok (.iload_n 0, 1) := by decide +kernel
theorem dX9_valueOf_53 : decode cX9_valueOf 53 = .ok (.ldc 78, 2) := by decide +kernel
theorem dX9_valueOf_55 : decode cX9_valueOf 55 = .ok (.idiv, 1) := by decide +kernel
theorem dX9_valueOf_56 : decode cX9_valueOf 56 = .ok (.ireturn, 1) := by decide +kernel
theorem dX9_valueOf_57 : decode cX9_valueOf 57 = .ok (.iload_n 0, 1) := by decide +kernel
theorem dX9_valueOf_58 : decode cX9_valueOf 58 = .ok (.ldc 78, 2) := by decide +kernel
theorem dX9_valueOf_60 : decode cX9_valueOf 60 = .ok (.irem, 1) := by decide +kernel
theorem dX9_valueOf_61 : decode cX9_valueOf 61 = .ok (.sipush 7200, 3) := by decide +kernel
theorem dX9_valueOf_64 : decode cX9_valueOf 64 = .ok (.idiv, 1) := by decide +kernel
theorem dX9_valueOf_65 : decode cX9_valueOf 65 = .ok (.ireturn, 1) := by decide +kernel
theorem dX9_valueOf_66 : decode cX9_valueOf 66 = .ok (.iload_n 0, 1) := by decide +kernel
theorem dX9_valueOf_67 : decode cX9_valueOf 67 = .ok (.sipush 7200, 3) := by decide +kernel
theorem dX9_valueOf_70 : decode cX9_valueOf 70 = .ok (.irem, 1) := by decide +kernel
theorem dX9_valueOf_71 : decode cX9_valueOf 71 = .ok (.sipush 360, 3) := by decide +kernel
theorem dX9_valueOf_74 : decode cX9_valueOf 74 = .ok (.idiv, 1) := by decide +kernel
theorem dX9_valueOf_75 : decode cX9_valueOf 75 = .ok (.ireturn, 1) := by decide +kernel
theorem dX9_valueOf_76 : decode cX9_valueOf 76 = .ok (.iload_n 0, 1) := by decide +kernel
theorem dX9_valueOf_77 : decode cX9_valueOf 77 = .ok (.sipush 360, 3) := by decide +kernel
theorem dX9_valueOf_80 : decode cX9_valueOf 80 = .ok (.irem, 1) := by decide +kernel
theorem dX9_valueOf_81 : decode cX9_valueOf 81 = .ok (.bipush 20, 2) := by decide +kernel
theorem dX9_valueOf_83 : decode cX9_valueOf 83 = .ok (.idiv, 1) := by decide +kernel
theorem dX9_valueOf_84 : decode cX9_valueOf 84 = .ok (.ireturn, 1) := by decide +kernel
theorem dX9_valueOf_85 : decode cX9_valueOf 85 = .ok (.iload_n 0, 1) := by decide +kernel
theorem dX9_valueOf_86 : decode cX9_valueOf 86 = .ok (.bipush 20, 2) := by decide +kernel
theorem dX9_valueOf_88 : decode cX9_valueOf 88 = .ok (.irem, 1) := by decide +kernel
theorem dX9_valueOf_89 : decode cX9_valueOf 89 = .ok (.ireturn, 1) := by decide +kernel
theorem dX9_valueOf_90 : decode cX9_valueOf 90 = .ok (.iload_n 0, 1) := by decide +kernel
theorem dX9_valueOf_91 : decode cX9_valueOf 91 = .ok (.iconst 3, 1) := by decide +kernel
theorem dX9_valueOf_92 : decode cX9_valueOf 92 = .ok (.iadd, 1) := by decide +kernel
theorem dX9_valueOf_93 : decode cX9_valueOf 93 = .ok (.bipush 13, 2) := by decide +kernel
theorem dX9_valueOf_95 : decode cX9_valueOf 95 = .ok (.irem, 1) := by decide +kernel
theorem dX9_valueOf_96 : decode cX9_valueOf 96 = .ok (.iconst 1, 1) := by decide +kernel
theorem dX9_valueOf_97 : decode cX9_valueOf 97 = .ok (.iadd, 1) := by decide +kernel
theorem dX9_valueOf_98 : decode cX9_valueOf 98 = .ok (.ireturn, 1) := by decide +kernel
theorem dX9_valueOf_99 : decode cX9_valueOf 99 = .ok (.iload_n 0, 1) := by decide +kernel
theorem dX9_valueOf_100 : decode cX9_valueOf 100 = .ok (.bipush 19, 2) := by decide +kernel
theorem dX9_valueOf_102 : decode cX9_valueOf 102 = .ok (.iadd, 1) := by decide +kernel
theorem dX9_valueOf_103 : decode cX9_valueOf 103 = .ok (.bipush 20, 2) := by decide +kernel
theorem dX9_valueOf_105 : decode cX9_valueOf 105 = .ok (.irem, 1) := by decide +kernel
theorem dX9_valueOf_106 : decode cX9_valueOf 106 = .ok (.ireturn, 1) := by decide +kernel
theorem dX9_valueOf_107 : decode cX9_valueOf 107 = .ok (.iload_n 0, 1) := by decide +kernel
theorem dX9_valueOf_108 : decode cX9_valueOf 108 = .ok (.sipush 348, 3) := by decide +kernel
theorem dX9_valueOf_111 : decode cX9_valueOf 111 = .ok (.iadd, 1) := by decide +kernel
theorem dX9_valueOf_112 : decode cX9_valueOf 112 = .ok (.sipush 365, 3) := by decide +kernel
theorem dX9_valueOf_115 : decode cX9_valueOf 115 = .ok (.irem, 1) := by decide +kernel
theorem dX9_valueOf_116 : decode cX9_valueOf 116 = .ok (.bipush 20, 2) := by decide +kernel
theorem dX9_valueOf_118 : decode cX9_valueOf 118 = .ok (.irem, 1) := by decide +kernel
theorem dX9_valueOf_119 : decode cX9_valueOf 119 = .ok (.ireturn, 1) := by decide +kernel
theorem dX9_valueOf_120 : decode cX9_valueOf 120 = .ok (.iload_n 0, 1) := by decide +kernel
theorem dX9_valueOf_121 : decode cX9_valueOf 121 = .ok (.sipush 348, 3) := by decide +kernel
theorem dX9_valueOf_124 : decode cX9_valueOf 124 = .ok (.iadd, 1) := by decide +kernel
theorem dX9_valueOf_125 : decode cX9_valueOf 125 = .ok (.sipush 365, 3) := by decide +kernel
theorem dX9_valueOf_128 : decode cX9_valueOf 128 = .ok (.irem, 1) := by decide +kernel
theorem dX9_valueOf_129 : decode cX9_valueOf 129 = .ok (.bipush 20, 2) := by decide +kernel
theorem dX9_valueOf_131 : decode cX9_valueOf 131 = .ok (.idiv, 1) := by decide +kernel
theorem dX9_valueOf_132 : decode cX9_valueOf 132 = .ok (.ireturn, 1) := by decide +kernel
theorem dX9_valueOf_133 : decode cX9_valueOf 133 = .ok (.iload_n 0, 1) := by decide +kernel
theorem dX9_valueOf_134 : decode cX9_valueOf 134 = .ok (.bipush 8, 2) := by decide +kernel
theorem dX9_valueOf_136 : decode cX9_valueOf 136 = .ok (.iadd, 1) := by decide +kernel
theorem dX9_valueOf_137 : decode cX9_valueOf 137 = .ok (.bipush 9, 2) := by decide +kernel
theorem dX9_valueOf_139 : decode cX9_valueOf 139 = .ok (.irem, 1) := by decide +kernel
theorem dX9_valueOf_140 : decode cX9_valueOf 140 = .ok (.iconst 1, 1) := by decide +kernel
theorem dX9_valueOf_141 : decode cX9_valueOf 141 = .ok (.iadd, 1) := by decide +kernel
theorem dX9_valueOf_142 : decode cX9_valueOf 142 = .ok (.ireturn, 1) := by decide +kernel
set_option maxRecDepth 20000 in
theorem ggX9_of_X9_isDay : GoodIn wsX9_of wsX9_isDay := goodIn_r _ [5, 6, 7] (by decide +kernel) (by decide +kernel)
set_option maxRecDepth 20000 in
theorem gX9_of_X9_isDay : GoodIn wsX9_of (va_wsS RX9 79 yX9_isDay wsX9_isDay) := goodIn_app (goodIn_of _ (by decide +kernel)) ggX9_of_X9_isDay
set_option maxRecDepth 20000 in
theorem ggX9_of_X9_bad : GoodIn wsX9_of wsX9_bad := goodIn_r _ [11, 1, 16, 17, 18, 19, 20, 21, 22, 23, 24, 25, 26, 27, 28, 29, 30, 31, 32, 33, 34, 35, 36, 37, 38, 39, 40, 41, 42, 43, 44, 45, 46, 47, 48] (by decide +kernel) (by decide +kernel)
set_option maxRecDepth 20000 in
theorem gX9_of_X9_bad : GoodIn wsX9_of (wsV RX9 65 RX9 yX9_bad wsX9_bad) := goodIn_app (goodIn_of _ (by decide +kernel)) ggX9_of_X9_bad
set_option maxRecDepth 20000 in
theorem ggX9_of_X9_valueOf : GoodIn wsX9_of wsX9_valueOf := goodIn_r _ [14, 15] (by decide +kernel) (by decide +kernel)
set_option maxRecDepth 20000 in
theorem gX9_of_X9_valueOf : GoodIn wsX9_of (va_wsS RX9 83 yX9_valueOf wsX9_valueOf) := goodIn_app (goodIn_of _ (by decide +kernel)) ggX9_of_X9_valueOf
theorem dX9_of_0 : decode cX9_of 0 = .ok (.aload_n 0, 1) := by decide +kernel
theorem dX9_of_1 : decode cX9_of 1 = .ok (.iconst 0, 1) := by decide +kernel
theorem dX9_of_2 : decode cX9_of 2 = .ok (.putfield 61, 3) := by decide +kernel
theorem dX9_of_5 : decode cX9_of 5 = .ok (.aload_n 0, 1) := by decide +kernel
theorem dX9_of_6 : decode cX9_of 6 = .ok (.iload_n 1, 1) := by decide +kernel
theorem dX9_of_7 : decode cX9_of 7 = .ok (.invokestatic 79, 3) := by decide +kernel
theorem dX9_of_10 : decode cX9_of 10 = .ok (.ifCond .eq 13, 3) := by decide +kernel
theorem dX9_of_13 : decode cX9_of 13 = .ok (.iload_n 2, 1) := by decide +kernel
theorem dX9_of_14 : decode cX9_of 14 = .ok (.ifCond .lt 9, 3) := by decide +kernel
theorem dX9_of_17 : decode cX9_of 17 = .ok (.iload_n 2, 1) := by decide +kernel
theorem dX9_of_18 : decode cX9_of 18 = .ok (.bipush 9, 2) := by decide +kernel
theorem dX9_of_20 : decode cX9_of 20 = .ok (.if_icmp .le 7, 3) := by decide +kernel
theorem dX9_of_23 : decode cX9_of 23 = .ok (.iconst 1, 1) := by decide +kernel
theorem dX9_of_24 : decode cX9_of 24 = .ok (.goto 4, 3) := by decide +kernel
theorem dX9_of_27 : decode cX9_of 27 = .ok (.iconst 0, 1) := by decide +kernel
theorem dX9_of_28 : decode cX9_of 28 = .ok (.iconst 1, 1) := by decide +kernel
theorem dX9_of_29 : decode cX9_of 29 = .ok (.invokevirtual 65, 3) := by decide +kernel
theorem dX9_of_32 : decode cX9_of 32 = .ok (.ifCond .eq 7, 3) := by decide +kernel
theorem dX9_of_35 : decode cX9_of 35 = .ok (.iconst 0, 1) := by decide +kernel
theorem dX9_of_36 : decode cX9_of 36 = .ok (.goto 8, 3) := by decide +kernel
theorem dX9_of_39 : decode cX9_of 39 = .ok (.iload_n 1, 1) := by decide +kernel
theorem dX9_of_40 : decode cX9_of 40 = .ok (.iload_n 2, 1) := by decide +kernel
theorem dX9_of_41 : decode cX9_of 41 = .ok (.invokestatic 83, 3) := by decide +kernel
theorem dX9_of_44 : decode cX9_of 44 = .ok (.ireturn, 1) := by decide +kernel
set_option maxRecDepth 20000 in
theorem ggX9_moon_X9_isDay : GoodIn wsX9_moon wsX9_isDay := goodIn_r _ [7, 8, 9] (by decide +kernel) (by decide +kernel)
set_option maxRecDepth 20000 in
theorem gX9_moon_X9_isDay : GoodIn wsX9_moon (va_wsS RX9 79 yX9_isDay wsX9_isDay) := goodIn_app (goodIn_of _ (by decide +kernel)) ggX9_moon_X9_isDay
set_option maxRecDepth 20000 in
theorem ggX9_moon_X9_bad : GoodIn wsX9_moon wsX9_bad := goodIn_r _ [13, 1, 19, 20, 21, 22, 23, 24, 25, 26, 27, 28, 29, 30, 31, 32, 33, 34, 35, 36, 37, 38, 39, 40, 41, 42, 43, 44, 45, 46, 47, 48, 49, 50, 51] (by decide +kernel) (by decide +kernel)
set_option maxRecDepth 20000 in
theorem gX9_moon_X9_bad : GoodIn wsX9_moon (wsV RX9 65 RX9 yX9_bad wsX9_bad) := goodIn_app (goodIn_of _ (by decide +kernel)) ggX9_moon_X9_bad
set_option maxRecDepth 20000 in
theorem ggX9_moon_X9_moonOf : GoodIn wsX9_moon wsX9_moonOf := goodIn_r _ [16, 17, 18] (by decide +kernel) (by decide +kernel)
set_option maxRecDepth 20000 in
theorem gX9_moon_X9_moonOf : GoodIn wsX9_moon (va_wsS RX9 87 yX9_moonOf wsX9_moonOf) := goodIn_app (goodIn_of _ (by decide +kernel)) ggX9_moon_X9_moonOf
theorem dX9_moon_0 : decode cX9_moon 0 = .ok (.aload_n 0, 1) := by decide +kernel
theorem dX9_moon_1 : decode cX9_moon 1 = .ok (.iconst 0, 1) := by decide +kernel
theorem dX9_moon_2 : decode cX9_moon 2 = .ok (.putfield 61, 3) := by decide +kernel
theorem dX9_moon_5 : decode cX9_moon 5 = .ok (.aload_n 0, 1) := by decide +kernel
theorem dX9_moon_6 : decode cX9_moon 6 = .ok (.iload_n 1, 1) := by decide +kernel
theorem dX9_moon_7 : decode cX9_moon 7 = .ok (.invokestatic 79, 3) := by decide +kernel
theorem dX9_moon_10 : decode cX9_moon 10 = .ok (.ifCond .ne 7, 3) := by decide +kernel
theorem dX9_moon_13 : decode cX9_moon 13 = .ok (.iconst 1, 1) := by decide +kernel
theorem dX9_moon_14 : decode cX9_moon 14 = .ok (.goto 4, 3) := by decide +kernel
theorem dX9_moon_17 : decode cX9_moon 17 = .ok (.iconst 0, 1) := by decide +kernel
theorem dX9_moon_18 : decode cX9_moon 18 = .ok (.iconst 1, 1) := by decide +kernel
theorem dX9_moon_19 : decode cX9_moon 19 = .ok (.invokevirtual 65, 3) := by decide +kernel
theorem dX9_moon_22 : decode cX9_moon 22 = .ok (.ifCond .ne 28, 3) := by decide +kernel
theorem dX9_moon_25 : decode cX9_moon 25 = .ok (.aload_n 0, 1) := by decide +kernel
theorem dX9_moon_26 : decode cX9_moon 26 = .ok (.iload_n 2, 1) := by decide +kernel
theorem dX9_moon_27 : decode cX9_moon 27 = .ok (.ifCond .lt 11, 3) := by decide +kernel
theorem dX9_moon_30 : decode cX9_moon 30 = .ok (.iload_n 2, 1) := by decide +kernel
theorem dX9_moon_31 : decode cX9_moon 31 = .ok (.aload_n 0, 1) := by decide +kernel
theorem dX9_moon_32 : decode cX9_moon 32 = .ok (.getfield 69, 3) := by decide +kernel
theorem dX9_moon_35 : decode cX9_moon 35 = .ok (.if_icmp .lt 7, 3) := by decide +kernel
theorem dX9_moon_38 : decode cX9_moon 38 = .ok (.iconst 1, 1) := by decide +kernel
theorem dX9_moon_39 : decode cX9_moon 39 = .ok (.goto 4, 3) := by decide +kernel
theorem dX9_moon_42 : decode cX9_moon 42 = .ok (.iconst 0, 1) := by decide +kernel
theorem dX9_moon_43 : decode cX9_moon 43 = .ok (.iconst 2, 1) := by decide +kernel
theorem dX9_moon_44 : decode cX9_moon 44 = .ok (.invokevirtual 65, 3) := by decide +kernel
theorem dX9_moon_47 : decode cX9_moon 47 = .ok (.ifCond .eq 5, 3) := by decide +kernel
theorem dX9_moon_50 : decode cX9_moon 50 = .ok (.iconst 0, 1) := by decide +kernel
theorem dX9_moon_51 : decode cX9_moon 51 = .ok (.ireturn, 1) := by decide +kernel
theorem dX9_moon_52 : decode cX9_moon 52 = .ok (.iload_n 1, 1) := by decide +kernel
theorem dX9_moon_53 : decode cX9_moon 53 = .ok (.aload_n 0, 1) := by decide +kernel
theorem dX9_moon_54 : decode cX9_moon 54 = .ok (.getfield 9, 3) := by decide +kernel
theorem dX9_moon_57 : decode cX9_moon 57 = .ok (.iload_n 2, 1) := by decide +kernel
theorem dX9_moon_58 : decode cX9_moon 58 = .ok (.iaload, 1) := by decide +kernel
theorem dX9_moon_59 : decode cX9_moon 59 = .ok (.invokestatic 87, 3) := by decide +kernel
theorem dX9_moon_62 : decode cX9_moon 62 = .ok (.ireturn, 1) := by decide +kernel
theorem dX9_feed_0 : decode cX9_feed 0 = .ok (.aload_n 0, 1) := by decide +kernel
theorem dX9_feed_1 : decode cX9_feed 1 = .ok (.iconst 0, 1) := by decide +kernel
theorem dX9_feed_2 : decode cX9_feed 2 = .ok (.putfield 61, 3) := by decide +kernel
theorem dX9_feed_5 : decode cX9_feed 5 = .ok (.aload_n 0, 1) := by decide +kernel
theorem dX9_feed_6 : decode cX9_feed 6 = .ok (.getfield 90, 3) := by decide +kernel
theorem dX9_feed_9 : decode cX9_feed 9 = .ok (.bipush 20, 2) := by decide +kernel
theorem dX9_feed_11 : decode cX9_feed 11 = .ok (.iadd, 1) := by decide +kernel
theorem dX9_feed_12 : decode cX9_feed 12 = .ok (.sipush 200, 3) := by decide +kernel
theorem dX9_feed_15 : decode cX9_feed 15 = .ok (.if_icmp .le 5, 3) := by decide +kernel
theorem dX9_feed_18 : decode cX9_feed 18 = .ok (.iconst (-1), 1) := by decide +kernel
theorem dX9_feed_19 : decode cX9_feed 19 = .ok (.ireturn, 1) := by decide +kernel
theorem dX9_feed_20 : decode cX9_feed 20 = .ok (.iconst 0, 1) := by decide +kernel
theorem dX9_feed_21 : decode cX9_feed 21 = .ok (.istore 6, 2) := by decide +kernel
theorem dX9_feed_23 : decode cX9_feed 23 = .ok (.iload 6, 2) := by decide +kernel
theorem dX9_feed_25 : decode cX9_feed 25 = .ok (.iconst 5, 1) := by decide +kernel
theorem dX9_feed_26 : decode cX9_feed 26 = .ok (.if_icmp .ge 93, 3) := by decide +kernel
theorem dX9_feed_29 : decode cX9_feed 29 = .ok (.iload 6, 2) := by decide +kernel
theorem dX9_feed_31 : decode cX9_feed 31 = .ok (.ifCond .ne 7, 3) := by decide +kernel
theorem dX9_feed_34 : decode cX9_feed 34 = .ok (.iload_n 1, 1) := by decide +kernel
theorem dX9_feed_35 : decode cX9_feed 35 = .ok (.goto 36, 3) := by decide +kernel
theorem dX9_feed_38 : decode cX9_feed 38 = .ok (.iload 6, 2) := by decide +kernel
theorem dX9_feed_40 : decode cX9_feed 40 = .ok (.iconst 1, 1) := by decide +kernel
theorem dX9_feed_41 : decode cX9_feed 41 = .ok (.if_icmp .ne 7, 3) := by decide +kernel
theorem dX9_feed_44 : decode cX9_feed 44 = .ok (.iload_n 2, 1) := by decide +kernel
theorem dX9_feed_45 : decode cX9_feed 45 = .ok (.goto 26, 3) := by decide +kernel
theorem dX9_feed_48 : decode cX9_feed 48 = .ok (.iload 6, 2) := by decide +kernel
theorem dX9_feed_50 : decode cX9_feed 50 = .ok (.iconst 2, 1) := by decide +kernel
theorem dX9_feed_51 : decode cX9_feed 51 = .ok (.if_icmp .ne 7, 3) := by decide +kernel
theorem dX9_feed_54 : decode cX9_feed 54 = .ok (.iload_n 3, 1) := by decide +kernel
theorem dX9_feed_55 : decode cX9_feed 55 = .ok (.goto 16, 3) := by decide +kernel
theorem dX9_feed_58 : decode cX9_feed 58 = .ok (.iload 6, 2) := by decide +kernel
theorem dX9_feed_60 : decode cX9_feed 60 = .ok (.iconst 3, 1) := by decide +kernel
theorem dX9_feed_61 : decode cX9_feed 61 = .ok (.if_icmp .ne 8, 3) := by decide +kernel
theorem dX9_feed_64 : decode cX9_feed 64 = .ok (.iload 4, 2) := by decide +kernel
theorem dX9_feed_66 : decode cX9_feed 66 = .ok (.goto 5, 3) := by decide +kernel
theorem dX9_feed_69 : decode cX9_feed 69 = .ok (.iload 5, 2) := by decide +kernel
theorem dX9_feed_71 : decode cX9_feed 71 = .ok (.istore 7, 2) := by decide +kernel
theorem dX9_feed_73 : decode cX9_feed 73 = .ok (.bipush 24, 2) := by decide +kernel
theorem dX9_feed_75 : decode cX9_feed 75 = .ok (.istore 8, 2) := by decide +kernel
theorem dX9_feed_77 : decode cX9_feed 77 = .ok (.iload 8, 2) := by decide +kernel
theorem dX9_feed_79 : decode cX9_feed 79 = .ok (.ifCond .lt 34, 3) := by decide +kernel
theorem dX9_feed_82 : decode cX9_feed 82 = .ok (.aload_n 0, 1) := by decide +kernel
theorem dX9_feed_83 : decode cX9_feed 83 = .ok (.getfield 13, 3) := by decide +kernel
theorem dX9_feed_86 : decode cX9_feed 86 = .ok (.aload_n 0, 1) := by decide +kernel
theorem dX9_feed_87 : decode cX9_feed 87 = .ok (.getfield 90, 3) := by decide +kernel
theorem dX9_feed_90 : decode cX9_feed 90 = .ok (.iload 7, 2) := by decide +kernel
theorem dX9_feed_92 : decode cX9_feed 92 = .ok (.iload 8, 2) := by decide +kernel
theorem dX9_feed_94 : decode cX9_feed 94 = .ok (.ishr, 1) := by decide +kernel
theorem dX9_feed_95 : decode cX9_feed 95 = .ok (.i2b, 1) := by decide +kernel
theorem dX9_feed_96 : decode cX9_feed 96 = .ok (.bastore, 1) := by decide +kernel
theorem dX9_feed_97 : decode cX9_feed 97 = .ok (.aload_n 0, 1) := by decide +kernel
theorem dX9_feed_98 : decode cX9_feed 98 = .ok (.dup, 1) := by decide +kernel
theorem dX9_feed_99 : decode cX9_feed 99 = .ok (.getfield 90, 3) := by decide +kernel
theorem dX9_feed_102 : decode cX9_feed 102 = .ok (.iconst 1, 1) := by decide +kernel
theorem dX9_feed_103 : decode cX9_feed 103 = .ok (.iadd, 1) := by decide +kernel
theorem dX9_feed_104 : decode cX9_feed 104 = .ok (.putfield 90, 3) := by decide +kernel
theorem dX9_feed_107 : decode cX9_feed 107 = .ok (.iinc 8 (-8), 3) := by decide +kernel
theorem dX9_feed_110 : decode cX9_feed 110 = .ok (.goto (-33), 3) := by decide +kernel
theorem dX9_feed_113 : decode cX9_feed 113 = .ok (.iinc 6 1, 3) := by decide +kernel
theorem dX9_feed_116 : decode cX9_feed 116 = .ok (.goto (-93), 3) := by decide +kernel
theorem dX9_feed_119 : decode cX9_feed 119 = .ok (.aload_n 0, 1) := by decide +kernel
theorem dX9_feed_120 : decode cX9_feed 120 = .ok (.getfield 90, 3) := by decide +kernel
theorem dX9_feed_123 : decode cX9_feed 123 = .ok (.ireturn, 1) := by decide +kernel
theorem dX9_byteAt_0 : decode cX9_byteAt 0 = .ok (.iload_n 1, 1) := by decide +kernel
theorem dX9_byteAt_1 : decode cX9_byteAt 1 = .ok (.aload_n 0, 1) := by decide +kernel
theorem dX9_byteAt_2 : decode cX9_byteAt 2 = .ok (.getfield 93, 3) := by decide +kernel
theorem dX9_byteAt_5 : decode cX9_byteAt 5 = .ok (.if_icmp .ge 16, 3) := by decide +kernel
theorem dX9_byteAt_8 : decode cX9_byteAt 8 = .ok (.aload_n 0, 1) := by decide +kernel
theorem dX9_byteAt_9 : decode cX9_byteAt 9 = .ok (.getfield 13, 3) := by decide +kernel
theorem dX9_byteAt_12 : decode cX9_byteAt 12 = .ok (.iload_n 1, 1) := by decide +kernel
theorem dX9_byteAt_13 : decode cX9_byteAt 13 = .ok (.baload, 1) := by decide +kernel
theorem dX9_byteAt_14 : decode cX9_byteAt 14 = .ok (.sipush 255, 3) := by decide +kernel
theorem dX9_byteAt_17 : decode cX9_byteAt 17 = .ok (.iand, 1) := by decide +kernel
theorem dX9_byteAt_18 : decode cX9_byteAt 18 = .ok (.goto 4, 3) := by decide +kernel
theorem dX9_byteAt_21 : decode cX9_byteAt 21 = .ok (.iconst 0, 1) := by decide +kernel
theorem dX9_byteAt_22 : decode cX9_byteAt 22 = .ok (.ireturn, 1) := by decide +kernel
set_option maxRecDepth 20000 in
theorem ggX9_blanks_X9_byteAt : GoodIn wsX9_blanks wsX9_byteAt := goodIn_r _ [7, 2, 8, 9, 10, 11, 12, 13, 14, 15, 16, 17, 18, 19, 20, 21, 22, 23, 24, 25, 26, 27, 28, 29, 30, 31, 32, 33, 34, 35, 36, 37, 38, 39, 40, 41] (by decide +kernel) (by decide +kernel)
set_option maxRecDepth 20000 in
theorem gX9_blanks_X9_byteAt : GoodIn wsX9_blanks (wsV RX9 99 RX9 yX9_byteAt wsX9_byteAt) := goodIn_app (goodIn_of _ (by decide +kernel)) ggX9_blanks_X9_byteAt
theorem dX9_blanks_0 : decode cX9_blanks 0 = .ok (.aload_n 0, 1) := by decide +kernel
theorem dX9_blanks_1 : decode cX9_blanks 1 = .ok (.getfield 96, 3) := by decide +kernel
theorem dX9_blanks_4 : decode cX9_blanks 4 = .ok (.aload_n 0, 1) := by decide +kernel
theorem dX9_blanks_5 : decode cX9_blanks 5 = .ok (.getfield 93, 3) := by decide +kernel
theorem dX9_blanks_8 : decode cX9_blanks 8 = .ok (.if_icmp .ge 29, 3) := by decide +kernel
theorem dX9_blanks_11 : decode cX9_blanks 11 = .ok (.aload_n 0, 1) := by decide +kernel
theorem dX9_blanks_12 : decode cX9_blanks 12 = .ok (.aload_n 0, 1) := by decide +kernel
theorem dX9_blanks_13 : decode cX9_blanks 13 = .ok (.getfield 96, 3) := by decide +kernel
theorem dX9_blanks_16 : decode cX9_blanks 16 = .ok (.invokevirtual 99, 3) := by decide +kernel
theorem dX9_blanks_19 : decode cX9_blanks 19 = .ok (.bipush 32, 2) := by decide +kernel
theorem dX9_blanks_21 : decode cX9_blanks 21 = .ok (.if_icmp .ne 16, 3) := by decide +kernel
theorem dX9_blanks_24 : decode cX9_blanks 24 = .ok (.aload_n 0, 1) := by decide +kernel
theorem dX9_blanks_25 : decode cX9_blanks 25 = .ok (.dup, 1) := by decide +kernel
theorem dX9_blanks_26 : decode cX9_blanks 26 = .ok (.getfield 96, 3) := by decide +kernel
theorem dX9_blanks_29 : decode cX9_blanks 29 = .ok (.iconst 1, 1) := by decide +kernel
theorem dX9_blanks_30 : decode cX9_blanks 30 = .ok (.iadd, 1) := by decide +kernel
theorem dX9_blanks_31 : decode cX9_blanks 31 = .ok (.putfield 96, 3) := by decide +kernel
theorem dX9_blanks_34 : decode cX9_blanks 34 = .ok (.goto (-34), 3) := by decide +kernel
theorem dX9_blanks_37 : decode cX9_blanks 37 = .ok (.return_, 1) := by decide +kernel
set_option maxRecDepth 20000 in
theorem ggX9_isWord_X9_blanks : GoodIn wsX9_isWord wsX9_blanks := goodIn_r _ [6, 1, 7, 8, 9, 10, 5, 11, 12, 62, 63, 64, 65, 66, 67, 68, 69, 70, 71, 72, 73, 74, 75, 76, 77, 78, 79, 80, 81, 82, 83, 84, 85, 86, 87, 88, 89, 90, 91, 92, 93, 94] (by decide +kernel) (by decide +kernel)
set_option maxRecDepth 20000 in
theorem gX9_isWord_X9_blanks : GoodIn wsX9_isWord (wsV RX9 103 RX9 yX9_blanks wsX9_blanks) := goodIn_app (goodIn_of _ (by decide +kernel)) ggX9_isWord_X9_blanks
set_option maxRecDepth 20000 in
theorem ggX9_isWord_J0_length_8abf5 : GoodIn wsX9_isWord wsJ0_length_8abf5 := goodIn_r _ [17, 18, 19, 20, 21, 16, 22, 23, 24] (by decide +kernel) (by decide +kernel)
set_option maxRecDepth 20000 in
theorem gX9_isWord_J0_length_8abf5 : GoodIn wsX9_isWord (wsV RX9 106 RJ0 yJ0_length_8abf5 wsJ0_length_8abf5) := goodIn_app (goodIn_of _ (by decide +kernel)) ggX9_isWord_J0_length_8abf5
set_option maxRecDepth 20000 in
theorem ggX9_isWord_X9_byteAt : GoodIn wsX9_isWord wsX9_byteAt := goodIn_r _ [11, 7, 12, 62, 63, 64, 65, 66, 67, 68, 69, 70, 71, 72, 73, 74, 75, 76, 77, 78, 79, 80, 81, 82, 83, 84, 85, 86, 87, 88, 89, 90, 91, 92, 93, 94] (by decide +kernel) (by decide +kernel)
set_option maxRecDepth 20000 in
theorem gX9_isWord_X9_byteAt : GoodIn wsX9_isWord (wsV RX9 99 RX9 yX9_byteAt wsX9_byteAt) := goodIn_app (goodIn_of _ (by decide +kernel)) ggX9_isWord_X9_byteAt
set_option maxRecDepth 20000 in
theorem ggX9_isWord_J0_charAt_5068e : GoodIn wsX9_isWord wsJ0_charAt_5068e := goodIn_r _ [28, 18, 29, 30, 31, 16, 32, 23, 24, 33, 34, 35, 36, 37, 38, 39, 40, 41, 42, 43, 44, 45, 46, 47, 48, 49, 50, 51, 52, 53, 54, 55, 56, 57, 58, 59, 60, 61] (by decide +kernel) (by decide +kernel)
set_option maxRecDepth 20000 in
theorem gX9_isWord_J0_charAt_5068e : GoodIn wsX9_isWord (wsV RX9 112 RJ0 yJ0_charAt_5068e wsJ0_charAt_5068e) := goodIn_app (goodIn_of _ (by decide +kernel)) ggX9_isWord_J0_charAt_5068e
theorem dX9_isWord_0 : decode cX9_isWord 0 = .ok (.aload_n 0, 1) := by decide +kernel
theorem dX9_isWord_1 : decode cX9_isWord 1 = .ok (.invokevirtual 103, 3) := by decide +kernel
theorem dX9_isWord_4 : decode cX9_isWord 4 = .ok (.iconst 0, 1) := by decide +kernel
theorem dX9_isWord_5 : decode cX9_isWord 5 = .ok (.istore_n 2, 1) := by decide +kernel
theorem dX9_isWord_6 : decode cX9_isWord 6 = .ok (.iload_n 2, 1) := by decide +kernel
theorem dX9_isWord_7 : decode cX9_isWord 7 = .ok (.aload_n 1, 1) := by decide +kernel
theorem dX9_isWord_8 : decode cX9_isWord 8 = .ok (.invokevirtual 106, 3) := by decide +kernel
theorem dX9_isWord_11 : decode cX9_isWord 11 = .ok (.if_icmp .ge 29, 3) := by decide +kernel
theorem dX9_isWord_14 : decode cX9_isWord 14 = .ok (.aload_n 0, 1) := by decide +kernel
theorem dX9_isWord_15 : decode cX9_isWord 15 = .ok (.aload_n 0, 1) := by decide +kernel
theorem dX9_isWord_16 : decode cX9_isWord 16 = .ok (.getfield 96, 3) := by decide +kernel
theorem dX9_isWord_19 : decode cX9_isWord 19 = .ok (.iload_n 2, 1) := by decide +kernel
theorem dX9_isWord_20 : decode cX9_isWord 20 = .ok (.iadd, 1) := by decide +kernel
theorem dX9_isWord_21 : decode cX9_isWord 21 = .ok (.invokevirtual 99, 3) := by decide +kernel
theorem dX9_isWord_24 : decode cX9_isWord 24 = .ok (.aload_n 1, 1) := by decide +kernel
theorem dX9_isWord_25 : decode cX9_isWord 25 = .ok (.iload_n 2, 1) := by decide +kernel
theorem dX9_isWord_26 : decode cX9_isWord 26 = .ok (.invokevirtual 112, 3) := by decide +kernel
theorem dX9_isWord_29 : decode cX9_isWord 29 = .ok (.if_icmp .eq 5, 3) := by decide +kernel
theorem dX9_isWord_32 : decode cX9_isWord 32 = .ok (.iconst 0, 1) := by decide +kernel
theorem dX9_isWord_33 : decode cX9_isWord 33 = .ok (.ireturn, 1) := by decide +kernel
theorem dX9_isWord_34 : decode cX9_isWord 34 = .ok (.iinc 2 1, 3) := by decide +kernel
theorem dX9_isWord_37 : decode cX9_isWord 37 = .ok (.goto (-31), 3) := by decide +kernel
theorem dX9_isWord_40 : decode cX9_isWord 40 = .ok (.aload_n 0, 1) := by decide +kernel
theorem dX9_isWord_41 : decode cX9_isWord 41 = .ok (.aload_n 0, 1) := by decide +kernel
theorem dX9_isWord_42 : decode cX9_isWord 42 = .ok (.getfield 96, 3) := by decide +kernel
theorem dX9_isWord_45 : decode cX9_isWord 45 = .ok (.aload_n 1, 1) := by decide +kernel
theorem dX9_isWord_46 : decode cX9_isWord 46 = .ok (.invokevirtual 106, 3) := by decide +kernel
theorem dX9_isWord_49 : decode cX9_isWord 49 = .ok (.iadd, 1) := by decide +kernel
theorem dX9_isWord_50 : decode cX9_isWord 50 = .ok (.invokevirtual 99, 3) := by decide +kernel
theorem dX9_isWord_53 : decode cX9_isWord 53 = .ok (.istore_n 2, 1) := by decide +kernel
theorem dX9_isWord_54 : decode cX9_isWord 54 = .ok (.iload_n 2, 1) := by decide +kernel
theorem dX9_isWord_55 : decode cX9_isWord 55 = .ok (.bipush 97, 2) := by decide +kernel
theorem dX9_isWord_57 : decode cX9_isWord 57 = .ok (.if_icmp .lt 9, 3) := by decide +kernel
theorem dX9_isWord_60 : decode cX9_isWord 60 = .ok (.iload_n 2, 1) := by decide +kernel
theorem dX9_isWord_61 : decode cX9_isWord 61 = .ok (.bipush 122, 2) := by decide +kernel
theorem dX9_isWord_63 : decode cX9_isWord 63 = .ok (.if_icmp .le 7, 3) := by decide +kernel
theorem dX9_isWord_66 : decode cX9_isWord 66 = .ok (.iconst 1, 1) := by decide +kernel
theorem dX9_isWord_67 : decode cX9_isWord 67 = .ok (.goto 4, 3) := by decide +kernel
theorem dX9_isWord_70 : decode cX9_isWord 70 = .ok (.iconst 0, 1) := by decide +kernel
theorem dX9_isWord_71 : decode cX9_isWord 71 = .ok (.ireturn, 1) := by decide +kernel
theorem dX9_wordOf_0 : decode cX9_wordOf 0 = .ok (.iload_n 0, 1) := by decide +kernel
theorem dX9_wordOf_1 : decode cX9_wordOf 1 = .ok (.tableswitch 73 0 9 #[55, 73, 73, 73, 73, 58, 61, 64, 67, 70], 55) := by decide +kernel
theorem dX9_wordOf_56 : decode cX9_wordOf 56 = .ok (.ldc 116, 2) := by decide +kernel
theorem dX9_wordOf_58 : decode cX9_wordOf 58 = .ok (.areturn, 1) := by decide +kernel
theorem dX9_wordOf_59 : decode cX9_wordOf 59 = .ok (.ldc 118, 2) := by decide +kernel
theorem dX9_wordOf_61 : decode cX9_wordOf 61 = .ok (.areturn, 1) := by decide +kernel
theorem dX9_wordOf_62 : decode cX9_wordOf 62 = .ok (.ldc 120, 2) := by decide +kernel
theorem dX9_wordOf_64 : decode cX9_wordOf 64 = .ok (.areturn, 1) := by decide +kernel
theorem dX9_wordOf_65 : decode cX9_wordOf 65 = .ok (.ldc 122, 2) := by decide +kernel
theorem dX9_wordOf_67 : decode cX9_wordOf 67 = .ok (.areturn, 1) := by decide +kernel
theorem dX9_wordOf_68 : decode cX9_wordOf 68 = .ok (.ldc 124, 2) := by decide +kernel
theorem dX9_wordOf_70 : decode cX9_wordOf 70 = .ok (.areturn, 1) := by decide +kernel
theorem dX9_wordOf_71 : decode cX9_wordOf 71 = .ok (.ldc 126, 2) := by decide +kernel
theorem dX9_wordOf_73 : decode cX9_wordOf 73 = .ok (.areturn, 1) := by decide +kernel
theorem dX9_wordOf_74 : decode cX9_wordOf 74 = .ok (.ldc 128, 2) := by decide +kernel
theorem dX9_wordOf_76 : decode cX9_wordOf 76 = .ok (.areturn, 1) := by decide +kernel
set_option maxRecDepth 20000 in
theorem ggX9_clauseHere_X9_wordOf : GoodIn wsX9_clauseHere wsX9_wordOf := goodIn_r _ [4] (by decide +kernel) (by decide +kernel)
set_option maxRecDepth 20000 in
theorem gX9_clauseHere_X9_wordOf : GoodIn wsX9_clauseHere (va_wsS RX9 130 yX9_wordOf wsX9_wordOf) := goodIn_app (goodIn_of _ (by decide +kernel)) ggX9_clauseHere_X9_wordOf
set_option maxRecDepth 20000 in
theorem ggX9_clauseHere_X9_isWord : GoodIn wsX9_clauseHere wsX9_isWord := goodIn_r _ [8, 9, 10, 11, 12, 3, 13, 14, 15, 16, 17, 18, 19, 20, 21, 22, 23, 24, 25, 26, 27, 28, 29, 30, 31, 32, 33, 34, 35, 36, 37, 38, 39, 40, 41, 42, 43, 44, 45, 46, 47, 48, 49, 50, 51, 52, 53, 54, 55, 56, 57, 58, 59, 60, 61, 62, 63, 64, 65, 66, 67, 68, 69, 70, 71, 72, 73, 74, 75, 76, 77, 78, 79, 80, 81, 82, 83, 84, 85, 86, 87, 88, 89, 90, 91, 92, 93, 94, 95, 96, 97, 98, 99, 100, 101] (by decide +kernel) (by decide +kernel)
set_option maxRecDepth 20000 in
theorem gX9_clauseHere_X9_isWord : GoodIn wsX9_clauseHere (wsV RX9 134 RX9 yX9_isWord wsX9_isWord) := goodIn_app (goodIn_of _ (by decide +kernel)) ggX9_clauseHere_X9_isWord
theorem dX9_clauseHere_0 : decode cX9_clauseHere 0 = .ok (.iconst 0, 1) := by decide +kernel
theorem dX9_clauseHere_1 : decode cX9_clauseHere 1 = .ok (.istore_n 1, 1) := by decide +kernel
theorem dX9_clauseHere_2 : decode cX9_clauseHere 2 = .ok (.iload_n 1, 1) := by decide +kernel
theorem dX9_clauseHere_3 : decode cX9_clauseHere 3 = .ok (.bipush 11, 2) := by decide +kernel
theorem dX9_clauseHere_5 : decode cX9_clauseHere 5 = .ok (.if_icmp .ge 31, 3) := by decide +kernel
theorem dX9_clauseHere_8 : decode cX9_clauseHere 8 = .ok (.iload_n 1, 1) := by decide +kernel
theorem dX9_clauseHere_9 : decode cX9_clauseHere 9 = .ok (.ifCond .eq 8, 3) := by decide +kernel
theorem dX9_clauseHere_12 : decode cX9_clauseHere 12 = .ok (.iload_n 1, 1) := by decide +kernel
theorem dX9_clauseHere_13 : decode cX9_clauseHere 13 = .ok (.iconst 4, 1) := by decide +kernel
theorem dX9_clauseHere_14 : decode cX9_clauseHere 14 = .ok (.if_icmp .le 16, 3) := by decide +kernel
theorem dX9_clauseHere_17 : decode cX9_clauseHere 17 = .ok (.aload_n 0, 1) := by decide +kernel
theorem dX9_clauseHere_18 : decode cX9_clauseHere 18 = .ok (.iload_n 1, 1) := by decide +kernel
theorem dX9_clauseHere_19 : decode cX9_clauseHere 19 = .ok (.invokestatic 130, 3) := by decide +kernel
theorem dX9_clauseHere_22 : decode cX9_clauseHere 22 = .ok (.invokevirtual 134, 3) := by decide +kernel
theorem dX9_clauseHere_25 : decode cX9_clauseHere 25 = .ok (.ifCond .eq 5, 3) := by decide +kernel
theorem dX9_clauseHere_28 : decode cX9_clauseHere 28 = .ok (.iload_n 1, 1) := by decide +kernel
theorem dX9_clauseHere_29 : decode cX9_clauseHere 29 = .ok (.ireturn, 1) := by decide +kernel
theorem dX9_clauseHere_30 : decode cX9_clauseHere 30 = .ok (.iinc 1 1, 3) := by decide +kernel
theorem dX9_clauseHere_33 : decode cX9_clauseHere 33 = .ok (.goto (-31), 3) := by decide +kernel
theorem dX9_clauseHere_36 : decode cX9_clauseHere 36 = .ok (.iconst (-1), 1) := by decide +kernel
theorem dX9_clauseHere_37 : decode cX9_clauseHere 37 = .ok (.ireturn, 1) := by decide +kernel
set_option maxRecDepth 20000 in
theorem ggX9_eat_X9_blanks : GoodIn wsX9_eat wsX9_blanks := goodIn_r _ [8, 2, 3, 9, 10, 11, 7, 12, 13, 14, 15, 16, 17, 18, 19, 20, 21, 22, 23, 24, 25, 26, 27, 28, 29, 30, 31, 32, 33, 34, 35, 36, 37, 38, 39, 40, 41, 42, 43, 44, 45, 46] (by decide +kernel) (by decide +kernel)
set_option maxRecDepth 20000 in
theorem gX9_eat_X9_blanks : GoodIn wsX9_eat (wsV RX9 103 RX9 yX9_blanks wsX9_blanks) := goodIn_app (goodIn_of _ (by decide +kernel)) ggX9_eat_X9_blanks
set_option maxRecDepth 20000 in
theorem ggX9_eat_X9_byteAt : GoodIn wsX9_eat wsX9_byteAt := goodIn_r _ [12, 3, 13, 14, 15, 16, 17, 18, 19, 20, 21, 22, 23, 24, 25, 26, 27, 28, 29, 30, 31, 32, 33, 34, 35, 36, 37, 38, 39, 40, 41, 42, 43, 44, 45, 46] (by decide +kernel) (by decide +kernel)
set_option maxRecDepth 20000 in
theorem gX9_eat_X9_byteAt : GoodIn wsX9_eat (wsV RX9 99 RX9 yX9_byteAt wsX9_byteAt) := goodIn_app (goodIn_of _ (by decide +kernel)) ggX9_eat_X9_byteAt
theorem dX9_eat_0 : decode cX9_eat 0 = .ok (.aload_n 0, 1) := by decide +kernel
theorem dX9_eat_1 : decode cX9_eat 1 = .ok (.invokevirtual 103, 3) := by decide +kernel
theorem dX9_eat_4 : decode cX9_eat 4 = .ok (.aload_n 0, 1) := by decide +kernel
theorem dX9_eat_5 : decode cX9_eat 5 = .ok (.getfield 138, 3) := by decide +kernel
theorem dX9_eat_8 : decode cX9_eat 8 = .ok (.ifCond .ne 30, 3) := by decide +kernel
theorem dX9_eat_11 : decode cX9_eat 11 = .ok (.aload_n 0, 1) := by decide +kernel
theorem dX9_eat_12 : decode cX9_eat 12 = .ok (.getfield 96, 3) := by decide +kernel
theorem dX9_eat_15 : decode cX9_eat 15 = .ok (.aload_n 0, 1) := by decide +kernel
theorem dX9_eat_16 : decode cX9_eat 16 = .ok (.getfield 93, 3) := by decide +kernel
theorem dX9_eat_19 : decode cX9_eat 19 = .ok (.if_icmp .ge 19, 3) := by decide +kernel
theorem dX9_eat_22 : decode cX9_eat 22 = .ok (.aload_n 0, 1) := by decide +kernel
theorem dX9_eat_23 : decode cX9_eat 23 = .ok (.aload_n 0, 1) := by decide +kernel
theorem dX9_eat_24 : decode cX9_eat 24 = .ok (.getfield 96, 3) := by decide +kernel
theorem dX9_eat_27 : decode cX9_eat 27 = .ok (.invokevirtual 99, 3) := by decide +kernel
theorem dX9_eat_30 : decode cX9_eat 30 = .ok (.iload_n 1, 1) := by decide +kernel
theorem dX9_eat_31 : decode cX9_eat 31 = .ok (.if_icmp .ne 7, 3) := by decide +kernel
theorem dX9_eat_34 : decode cX9_eat 34 = .ok (.iconst 1, 1) := by decide +kernel
theorem dX9_eat_35 : decode cX9_eat 35 = .ok (.goto 4, 3) := by decide +kernel
theorem dX9_eat_38 : decode cX9_eat 38 = .ok (.iconst 0, 1) := by decide +kernel
theorem dX9_eat_39 : decode cX9_eat 39 = .ok (.istore_n 2, 1) := by decide +kernel
theorem dX9_eat_40 : decode cX9_eat 40 = .ok (.iload_n 2, 1) := by decide +kernel
theorem dX9_eat_41 : decode cX9_eat 41 = .ok (.ifCond .eq 13, 3) := by decide +kernel
theorem dX9_eat_44 : decode cX9_eat 44 = .ok (.aload_n 0, 1) := by decide +kernel
theorem dX9_eat_45 : decode cX9_eat 45 = .ok (.dup, 1) := by decide +kernel
theorem dX9_eat_46 : decode cX9_eat 46 = .ok (.getfield 96, 3) := by decide +kernel
theorem dX9_eat_49 : decode cX9_eat 49 = .ok (.iconst 1, 1) := by decide +kernel
theorem dX9_eat_50 : decode cX9_eat 50 = .ok (.iadd, 1) := by decide +kernel
theorem dX9_eat_51 : decode cX9_eat 51 = .ok (.putfield 96, 3) := by decide +kernel
theorem dX9_eat_54 : decode cX9_eat 54 = .ok (.iload_n 2, 1) := by decide +kernel
theorem dX9_eat_55 : decode cX9_eat 55 = .ok (.ireturn, 1) := by decide +kernel
set_option maxRecDepth 20000 in
theorem ggX9_number_X9_blanks : GoodIn wsX9_number wsX9_blanks := goodIn_r _ [7, 2, 8, 9, 10, 11, 6, 12, 13, 14, 15, 16, 17, 18, 19, 20, 21, 22, 23, 24, 25, 26, 27, 28, 29, 30, 31, 32, 33, 34, 35, 36, 37, 38, 39, 40, 41, 42, 43, 44, 45, 46] (by decide +kernel) (by decide +kernel)
set_option maxRecDepth 20000 in
theorem gX9_number_X9_blanks : GoodIn wsX9_number (wsV RX9 103 RX9 yX9_blanks wsX9_blanks) := goodIn_app (goodIn_of _ (by decide +kernel)) ggX9_number_X9_blanks
set_option maxRecDepth 20000 in
theorem ggX9_number_X9_byteAt : GoodIn wsX9_number wsX9_byteAt := goodIn_r _ [12, 8, 13, 14, 15, 16, 17, 18, 19, 20, 21, 22, 23, 24, 25, 26, 27, 28, 29, 30, 31, 32, 33, 34, 35, 36, 37, 38, 39, 40, 41, 42, 43, 44, 45, 46] (by decide +kernel) (by decide +kernel)
set_option maxRecDepth 20000 in
theorem gX9_number_X9_byteAt : GoodIn wsX9_number (wsV RX9 99 RX9 yX9_byteAt wsX9_byteAt) := goodIn_app (goodIn_of _ (by decide +kernel)) ggX9_number_X9_byteAt
theorem dX9_number_0 : decode cX9_number 0 = .ok (.aload_n 0, 1) := by decide +kernel
theorem dX9_number_1 : decode cX9_number 1 = .ok (.invokevirtual 103, 3) := by decide +kernel
theorem dX9_number_4 : decode cX9_number 4 = .ok (.iconst 0, 1) := by decide +kernel
theorem dX9_number_5 : decode cX9_number 5 = .ok (.istore_n 1, 1) := by decide +kernel
theorem dX9_number_6 : decode cX9_number 6 = .ok (.iconst 0, 1) := by decide +kernel
theorem dX9_number_7 : decode cX9_number 7 = .ok (.istore_n 2, 1) := by decide +kernel
theorem dX9_number_8 : decode cX9_number 8 = .ok (.aload_n 0, 1) := by decide +kernel
theorem dX9_number_9 : decode cX9_number 9 = .ok (.getfield 138, 3) := by decide +kernel
theorem dX9_number_12 : decode cX9_number 12 = .ok (.ifCond .ne 74, 3) := by decide +kernel
theorem dX9_number_15 : decode cX9_number 15 = .ok (.aload_n 0, 1) := by decide +kernel
theorem dX9_number_16 : decode cX9_number 16 = .ok (.aload_n 0, 1) := by decide +kernel
theorem dX9_number_17 : decode cX9_number 17 = .ok (.getfield 96, 3) := by decide +kernel
theorem dX9_number_20 : decode cX9_number 20 = .ok (.invokevirtual 99, 3) := by decide +kernel
theorem dX9_number_23 : decode cX9_number 23 = .ok (.bipush 48, 2) := by decide +kernel
theorem dX9_number_25 : decode cX9_number 25 = .ok (.if_icmp .lt 61, 3) := by decide +kernel
theorem dX9_number_28 : decode cX9_number 28 = .ok (.aload_n 0, 1) := by decide +kernel
theorem dX9_number_29 : decode cX9_number 29 = .ok (.aload_n 0, 1) := by decide +kernel
theorem dX9_number_30 : decode cX9_number 30 = .ok (.getfield 96, 3) := by decide +kernel
theorem dX9_number_33 : decode cX9_number 33 = .ok (.invokevirtual 99, 3) := by decide +kernel
theorem dX9_number_36 : decode cX9_number 36 = .ok (.bipush 57, 2) := by decide +kernel
theorem dX9_number_38 : decode cX9_number 38 = .ok (.if_icmp .gt 48, 3) := by decide +kernel
theorem dX9_number_41 : decode cX9_number 41 = .ok (.iload_n 2, 1) := by decide +kernel
theorem dX9_number_42 : decode cX9_number 42 = .ok (.iconst 2, 1) := by decide +kernel
theorem dX9_number_43 : decode cX9_number 43 = .ok (.if_icmp .ne 10, 3) := by decide +kernel
theorem dX9_number_46 : decode cX9_number 46 = .ok (.aload_n 0, 1) := by decide +kernel
theorem dX9_number_47 : decode cX9_number 47 = .ok (.iconst 1, 1) := by decide +kernel
theorem dX9_number_48 : decode cX9_number 48 = .ok (.putfield 138, 3) := by decide +kernel
theorem dX9_number_51 : decode cX9_number 51 = .ok (.iconst 0, 1) := by decide +kernel
theorem dX9_number_52 : decode cX9_number 52 = .ok (.ireturn, 1) := by decide +kernel
theorem dX9_number_53 : decode cX9_number 53 = .ok (.bipush 10, 2) := by decide +kernel
theorem dX9_number_55 : decode cX9_number 55 = .ok (.iload_n 1, 1) := by decide +kernel
theorem dX9_number_56 : decode cX9_number 56 = .ok (.imul, 1) := by decide +kernel
theorem dX9_number_57 : decode cX9_number 57 = .ok (.aload_n 0, 1) := by decide +kernel
theorem dX9_number_58 : decode cX9_number 58 = .ok (.aload_n 0, 1) := by decide +kernel
theorem dX9_number_59 : decode cX9_number 59 = .ok (.getfield 96, 3) := by decide +kernel
theorem dX9_number_62 : decode cX9_number 62 = .ok (.invokevirtual 99, 3) := by decide +kernel
theorem dX9_number_65 : decode cX9_number 65 = .ok (.iadd, 1) := by decide +kernel
theorem dX9_number_66 : decode cX9_number 66 = .ok (.bipush 48, 2) := by decide +kernel
theorem dX9_number_68 : decode cX9_number 68 = .ok (.isub, 1) := by decide +kernel
theorem dX9_number_69 : decode cX9_number 69 = .ok (.istore_n 1, 1) := by decide +kernel
theorem dX9_number_70 : decode cX9_number 70 = .ok (.iinc 2 1, 3) := by decide +kernel
theorem dX9_number_73 : decode cX9_number 73 = .ok (.aload_n 0, 1) := by decide +kernel
theorem dX9_number_74 : decode cX9_number 74 = .ok (.dup, 1) := by decide +kernel
theorem dX9_number_75 : decode cX9_number 75 = .ok (.getfield 96, 3) := by decide +kernel
theorem dX9_number_78 : decode cX9_number 78 = .ok (.iconst 1, 1) := by decide +kernel
theorem dX9_number_79 : decode cX9_number 79 = .ok (.iadd, 1) := by decide +kernel
theorem dX9_number_80 : decode cX9_number 80 = .ok (.putfield 96, 3) := by decide +kernel
theorem dX9_number_83 : decode cX9_number 83 = .ok (.goto (-75), 3) := by decide +kernel
theorem dX9_number_86 : decode cX9_number 86 = .ok (.aload_n 0, 1) := by decide +kernel
theorem dX9_number_87 : decode cX9_number 87 = .ok (.aload_n 0, 1) := by decide +kernel
theorem dX9_number_88 : decode cX9_number 88 = .ok (.getfield 138, 3) := by decide +kernel
theorem dX9_number_91 : decode cX9_number 91 = .ok (.ifCond .ne 7, 3) := by decide +kernel
theorem dX9_number_94 : decode cX9_number 94 = .ok (.iload_n 2, 1) := by decide +kernel
theorem dX9_number_95 : decode cX9_number 95 = .ok (.ifCond .ne 7, 3) := by decide +kernel
theorem dX9_number_98 : decode cX9_number 98 = .ok (.iconst 1, 1) := by decide +kernel
theorem dX9_number_99 : decode cX9_number 99 = .ok (.goto 4, 3) := by decide +kernel
theorem dX9_number_102 : decode cX9_number 102 = .ok (.iconst 0, 1) := by decide +kernel
theorem dX9_number_103 : decode cX9_number 103 = .ok (.putfield 138, 3) := by decide +kernel
theorem dX9_number_106 : decode cX9_number 106 = .ok (.iload_n 1, 1) := by decide +kernel
theorem dX9_number_107 : decode cX9_number 107 = .ok (.ireturn, 1) := by decide +kernel
set_option maxRecDepth 20000 in
theorem ggX9_some_X9_eat : GoodIn wsX9_some wsX9_eat := goodIn_r _ [10, 4, 5, 11, 12, 13, 14, 9, 15, 16, 17, 18, 19, 20, 25, 26, 27, 28, 29, 30, 31, 32, 33, 34, 35, 36, 37, 38, 39, 40, 41, 42, 43, 44, 45, 46, 47, 48, 49, 50, 51, 52, 53, 54, 55, 56, 57] (by decide +kernel) (by decide +kernel)
set_option maxRecDepth 20000 in
theorem gX9_some_X9_eat : GoodIn wsX9_some (wsV RX9 149 RX9 yX9_eat wsX9_eat) := goodIn_app (goodIn_of _ (by decide +kernel)) ggX9_some_X9_eat
set_option maxRecDepth 20000 in
theorem ggX9_some_X9_number : GoodIn wsX9_some wsX9_number := goodIn_r _ [24, 4, 5, 12, 13, 14, 9, 15, 11, 16, 17, 18, 19, 20, 25, 26, 27, 28, 29, 30, 31, 32, 33, 34, 35, 36, 37, 38, 39, 40, 41, 42, 43, 44, 45, 46, 47, 48, 49, 50, 51, 52, 53, 54, 55, 56, 57] (by decide +kernel) (by decide +kernel)
set_option maxRecDepth 20000 in
theorem gX9_some_X9_number : GoodIn wsX9_some (wsV RX9 154 RX9 yX9_number wsX9_number) := goodIn_app (goodIn_of _ (by decide +kernel)) ggX9_some_X9_number
set_option maxRecDepth 20000 in
theorem ggX9_some_X9_blanks : GoodIn wsX9_some wsX9_blanks := goodIn_r _ [15, 5, 11, 16, 17, 18, 9, 19, 20, 25, 26, 27, 28, 29, 30, 31, 32, 33, 34, 35, 36, 37, 38, 39, 40, 41, 42, 43, 44, 45, 46, 47, 48, 49, 50, 51, 52, 53, 54, 55, 56, 57] (by decide +kernel) (by decide +kernel)
set_option maxRecDepth 20000 in
theorem gX9_some_X9_blanks : GoodIn wsX9_some (wsV RX9 103 RX9 yX9_blanks wsX9_blanks) := goodIn_app (goodIn_of _ (by decide +kernel)) ggX9_some_X9_blanks
theorem dX9_some_0 : decode cX9_some 0 = .ok (.aload_n 0, 1) := by decide +kernel
theorem dX9_some_1 : decode cX9_some 1 = .ok (.lconst 0, 1) := by decide +kernel
theorem dX9_some_2 : decode cX9_some 2 = .ok (.putfield 142, 3) := by decide +kernel
theorem dX9_some_5 : decode cX9_some 5 = .ok (.aload_n 0, 1) := by decide +kernel
theorem dX9_some_6 : decode cX9_some 6 = .ok (.lconst 0, 1) := by decide +kernel
theorem dX9_some_7 : decode cX9_some 7 = .ok (.putfield 146, 3) := by decide +kernel
theorem dX9_some_10 : decode cX9_some 10 = .ok (.aload_n 0, 1) := by decide +kernel
theorem dX9_some_11 : decode cX9_some 11 = .ok (.bipush 63, 2) := by decide +kernel
theorem dX9_some_13 : decode cX9_some 13 = .ok (.invokevirtual 149, 3) := by decide +kernel
theorem dX9_some_16 : decode cX9_some 16 = .ok (.ifCond .eq 18, 3) := by decide +kernel
theorem dX9_some_19 : decode cX9_some 19 = .ok (.aload_n 0, 1) := by decide +kernel
theorem dX9_some_20 : decode cX9_some 20 = .ok (.ldc2_w 152, 3) := by decide +kernel
theorem dX9_some_23 : decode cX9_some 23 = .ok (.putfield 142, 3) := by decide +kernel
theorem dX9_some_26 : decode cX9_some 26 = .ok (.aload_n 0, 1) := by decide +kernel
theorem dX9_some_27 : decode cX9_some 27 = .ok (.ldc2_w 152, 3) := by decide +kernel
theorem dX9_some_30 : decode cX9_some 30 = .ok (.putfield 146, 3) := by decide +kernel
theorem dX9_some_33 : decode cX9_some 33 = .ok (.return_, 1) := by decide +kernel
theorem dX9_some_34 : decode cX9_some 34 = .ok (.iconst 1, 1) := by decide +kernel
theorem dX9_some_35 : decode cX9_some 35 = .ok (.istore_n 1, 1) := by decide +kernel
theorem dX9_some_36 : decode cX9_some 36 = .ok (.iload_n 1, 1) := by decide +kernel
theorem dX9_some_37 : decode cX9_some 37 = .ok (.ifCond .eq 128, 3) := by decide +kernel
theorem dX9_some_40 : decode cX9_some 40 = .ok (.aload_n 0, 1) := by decide +kernel
theorem dX9_some_41 : decode cX9_some 41 = .ok (.getfield 138, 3) := by decide +kernel
theorem dX9_some_44 : decode cX9_some 44 = .ok (.ifCond .ne 121, 3) := by decide +kernel
theorem dX9_some_47 : decode cX9_some 47 = .ok (.aload_n 0, 1) := by decide +kernel
theorem dX9_some_48 : decode cX9_some 48 = .ok (.invokevirtual 154, 3) := by decide +kernel
theorem dX9_some_51 : decode cX9_some 51 = .ok (.istore_n 2, 1) := by decide +kernel
theorem dX9_some_52 : decode cX9_some 52 = .ok (.iload_n 2, 1) := by decide +kernel
theorem dX9_some_53 : decode cX9_some 53 = .ok (.istore_n 3, 1) := by decide +kernel
theorem dX9_some_54 : decode cX9_some 54 = .ok (.aload_n 0, 1) := by decide +kernel
theorem dX9_some_55 : decode cX9_some 55 = .ok (.bipush 45, 2) := by decide +kernel
theorem dX9_some_57 : decode cX9_some 57 = .ok (.invokevirtual 149, 3) := by decide +kernel
theorem dX9_some_60 : decode cX9_some 60 = .ok (.ifCond .eq 41, 3) := by decide +kernel
theorem dX9_some_63 : decode cX9_some 63 = .ok (.aload_n 0, 1) := by decide +kernel
theorem dX9_some_64 : decode cX9_some 64 = .ok (.invokevirtual 103, 3) := by decide +kernel
theorem dX9_some_67 : decode cX9_some 67 = .ok (.aload_n 0, 1) := by decide +kernel
theorem dX9_some_68 : decode cX9_some 68 = .ok (.getfield 96, 3) := by decide +kernel
theorem dX9_some_71 : decode cX9_some 71 = .ok (.istore 4, 2) := by decide +kernel
theorem dX9_some_73 : decode cX9_some 73 = .ok (.aload_n 0, 1) := by decide +kernel
theorem dX9_some_74 : decode cX9_some 74 = .ok (.invokevirtual 154, 3) := by decide +kernel
theorem dX9_some_77 : decode cX9_some 77 = .ok (.istore_n 3, 1) := by decide +kernel
theorem dX9_some_78 : decode cX9_some 78 = .ok (.aload_n 0, 1) := by decide +kernel
theorem dX9_some_79 : decode cX9_some 79 = .ok (.getfield 138, 3) := by decide +kernel
theorem dX9_some_82 : decode cX9_some 82 = .ok (.ifCond .ne 19, 3) := by decide +kernel
theorem dX9_some_85 : decode cX9_some 85 = .ok (.iload_n 3, 1) := by decide +kernel
theorem dX9_some_86 : decode cX9_some 86 = .ok (.iload_n 2, 1) := by decide +kernel
theorem dX9_some_87 : decode cX9_some 87 = .ok (.if_icmp .ge 14, 3) := by decide +kernel
theorem dX9_some_90 : decode cX9_some 90 = .ok (.aload_n 0, 1) := by decide +kernel
theorem dX9_some_91 : decode cX9_some 91 = .ok (.iconst 1, 1) := by decide +kernel
theorem dX9_some_92 : decode cX9_some 92 = .ok (.putfield 138, 3) := by decide +kernel
theorem dX9_some_95 : decode cX9_some 95 = .ok (.aload_n 0, 1) := by decide +kernel
theorem dX9_some_96 : decode cX9_some 96 = .ok (.iload 4, 2) := by decide +kernel
theorem dX9_some_98 : decode cX9_some 98 = .ok (.putfield 96, 3) := by decide +kernel
theorem dX9_some_101 : decode cX9_some 101 = .ok (.iload_n 2, 1) := by decide +kernel
theorem dX9_some_102 : decode cX9_some 102 = .ok (.istore 4, 2) := by decide +kernel
theorem dX9_some_104 : decode cX9_some 104 = .ok (.iload 4, 2) := by decide +kernel
theorem dX9_some_106 : decode cX9_some 106 = .ok (.iload_n 3, 1) := by decide +kernel
theorem dX9_some_107 : decode cX9_some 107 = .ok (.if_icmp .gt 48, 3) := by decide +kernel
theorem dX9_some_110 : decode cX9_some 110 = .ok (.iload 4, 2) := by decide +kernel
theorem dX9_some_112 : decode cX9_some 112 = .ok (.bipush 64, 2) := by decide +kernel
theorem dX9_some_114 : decode cX9_some 114 = .ok (.if_icmp .ge 19, 3) := by decide +kernel
theorem dX9_some_117 : decode cX9_some 117 = .ok (.aload_n 0, 1) := by decide +kernel
theorem dX9_some_118 : decode cX9_some 118 = .ok (.dup, 1) := by decide +kernel
theorem dX9_some_119 : decode cX9_some 119 = .ok (.getfield 142, 3) := by decide +kernel
theorem dX9_some_122 : decode cX9_some 122 = .ok (.lconst 1, 1) := by decide +kernel
theorem dX9_some_123 : decode cX9_some 123 = .ok (.iload 4, 2) := by decide +kernel
theorem dX9_some_125 : decode cX9_some 125 = .ok (.lshl, 1) := by decide +kernel
theorem dX9_some_126 : decode cX9_some 126 = .ok (.lor, 1) := by decide +kernel
theorem dX9_some_127 : decode cX9_some 127 = .ok (.putfield 142, 3) := by decide +kernel
theorem dX9_some_130 : decode cX9_some 130 = .ok (.goto 19, 3) := by decide +kernel
theorem dX9_some_133 : decode cX9_some 133 = .ok (.aload_n 0, 1) := by decide +kernel
theorem dX9_some_134 : decode cX9_some 134 = .ok (.dup, 1) := by decide +kernel
theorem dX9_some_135 : decode cX9_some 135 = .ok (.getfield 146, 3) := by decide +kernel
theorem dX9_some_138 : decode cX9_some 138 = .ok (.lconst 1, 1) := by decide +kernel
theorem dX9_some_139 : decode cX9_some 139 = .ok (.iload 4, 2) := by decide +kernel
theorem dX9_some_141 : decode cX9_some 141 = .ok (.bipush 64, 2) := by decide +kernel
theorem dX9_some_143 : decode cX9_some 143 = .ok (.isub, 1) := by decide +kernel
theorem dX9_some_144 : decode cX9_some 144 = .ok (.lshl, 1) := by decide +kernel
theorem dX9_some_145 : decode cX9_some 145 = .ok (.lor, 1) := by decide +kernel
theorem dX9_some_146 : decode cX9_some 146 = .ok (.putfield 146, 3) := by decide +kernel
theorem dX9_some_149 : decode cX9_some 149 = .ok (.iinc 4 1, 3) := by decide +kernel
theorem dX9_some_152 : decode cX9_some 152 = .ok (.goto (-48), 3) := by decide +kernel
theorem dX9_some_155 : decode cX9_some 155 = .ok (.aload_n 0, 1) := by decide +kernel
theorem dX9_some_156 : decode cX9_some 156 = .ok (.bipush 47, 2) := by decide +kernel
theorem dX9_some_158 : decode cX9_some 158 = .ok (.invokevirtual 149, 3) := by decide +kernel
theorem dX9_some_161 : decode cX9_some 161 = .ok (.istore_n 1, 1) := by decide +kernel
theorem dX9_some_162 : decode cX9_some 162 = .ok (.goto (-126), 3) := by decide +kernel
theorem dX9_some_165 : decode cX9_some 165 = .ok (.return_, 1) := by decide +kernel
set_option maxRecDepth 20000 in
theorem ggX9_allows_X9_some : GoodIn wsX9_allows wsX9_some := goodIn_r _ [9, 2, 4, 10, 11, 12, 13, 14, 15, 8, 16, 17, 18, 19, 20, 21, 22, 23, 24, 25, 26, 27, 28, 29, 30, 31, 32, 33, 34, 35, 36, 37, 38, 39, 40, 41, 42, 43, 44, 45, 46, 47, 48, 49, 50, 51, 52, 53, 54, 55, 56, 57, 58, 59, 60, 61, 62, 63] (by decide +kernel) (by decide +kernel)
set_option maxRecDepth 20000 in
theorem gX9_allows_X9_some : GoodIn wsX9_allows (wsV RX9 156 RX9 yX9_some wsX9_some) := goodIn_app (goodIn_of _ (by decide +kernel)) ggX9_allows_X9_some
theorem dX9_allows_0 : decode cX9_allows 0 = .ok (.aload_n 0, 1) := by decide +kernel
theorem dX9_allows_1 : decode cX9_allows 1 = .ok (.invokevirtual 156, 3) := by decide +kernel
theorem dX9_allows_4 : decode cX9_allows 4 = .ok (.aload_n 0, 1) := by decide +kernel
theorem dX9_allows_5 : decode cX9_allows 5 = .ok (.getfield 17, 3) := by decide +kernel
theorem dX9_allows_8 : decode cX9_allows 8 = .ok (.bipush 11, 2) := by decide +kernel
theorem dX9_allows_10 : decode cX9_allows 10 = .ok (.iload_n 1, 1) := by decide +kernel
theorem dX9_allows_11 : decode cX9_allows 11 = .ok (.imul, 1) := by decide +kernel
theorem dX9_allows_12 : decode cX9_allows 12 = .ok (.iload_n 2, 1) := by decide +kernel
theorem dX9_allows_13 : decode cX9_allows 13 = .ok (.iadd, 1) := by decide +kernel
theorem dX9_allows_14 : decode cX9_allows 14 = .ok (.dup2, 1) := by decide +kernel
theorem dX9_allows_15 : decode cX9_allows 15 = .ok (.laload, 1) := by decide +kernel
theorem dX9_allows_16 : decode cX9_allows 16 = .ok (.aload_n 0, 1) := by decide +kernel
theorem dX9_allows_17 : decode cX9_allows 17 = .ok (.getfield 142, 3) := by decide +kernel
theorem dX9_allows_20 : decode cX9_allows 20 = .ok (.land, 1) := by decide +kernel
theorem dX9_allows_21 : decode cX9_allows 21 = .ok (.lastore, 1) := by decide +kernel
theorem dX9_allows_22 : decode cX9_allows 22 = .ok (.aload_n 0, 1) := by decide +kernel
theorem dX9_allows_23 : decode cX9_allows 23 = .ok (.getfield 21, 3) := by decide +kernel
theorem dX9_allows_26 : decode cX9_allows 26 = .ok (.bipush 11, 2) := by decide +kernel
theorem dX9_allows_28 : decode cX9_allows 28 = .ok (.iload_n 1, 1) := by decide +kernel
theorem dX9_allows_29 : decode cX9_allows 29 = .ok (.imul, 1) := by decide +kernel
theorem dX9_allows_30 : decode cX9_allows 30 = .ok (.iload_n 2, 1) := by decide +kernel
theorem dX9_allows_31 : decode cX9_allows 31 = .ok (.iadd, 1) := by decide +kernel
theorem dX9_allows_32 : decode cX9_allows 32 = .ok (.dup2, 1) := by decide +kernel
theorem dX9_allows_33 : decode cX9_allows 33 = .ok (.laload, 1) := by decide +kernel
theorem dX9_allows_34 : decode cX9_allows 34 = .ok (.aload_n 0, 1) := by decide +kernel
theorem dX9_allows_35 : decode cX9_allows 35 = .ok (.getfield 146, 3) := by decide +kernel
theorem dX9_allows_38 : decode cX9_allows 38 = .ok (.land, 1) := by decide +kernel
theorem dX9_allows_39 : decode cX9_allows 39 = .ok (.lastore, 1) := by decide +kernel
theorem dX9_allows_40 : decode cX9_allows 40 = .ok (.return_, 1) := by decide +kernel
set_option maxRecDepth 20000 in
theorem ggX9_clause_X9_wordOf : GoodIn wsX9_clause wsX9_wordOf := goodIn_r _ [6] (by decide +kernel) (by decide +kernel)
set_option maxRecDepth 20000 in
theorem gX9_clause_X9_wordOf : GoodIn wsX9_clause (va_wsS RX9 130 yX9_wordOf wsX9_wordOf) := goodIn_app (goodIn_of _ (by decide +kernel)) ggX9_clause_X9_wordOf
set_option maxRecDepth 20000 in
theorem ggX9_clause_J0_length_8abf5 : GoodIn wsX9_clause wsJ0_length_8abf5 := goodIn_r _ [11, 12, 13, 14, 15, 10, 16, 17, 18] (by decide +kernel) (by decide +kernel)
set_option maxRecDepth 20000 in
theorem gX9_clause_J0_length_8abf5 : GoodIn wsX9_clause (wsV RX9 106 RJ0 yJ0_length_8abf5 wsJ0_length_8abf5) := goodIn_app (goodIn_of _ (by decide +kernel)) ggX9_clause_J0_length_8abf5
set_option maxRecDepth 20000 in
theorem ggX9_clause_X9_allows : GoodIn wsX9_clause wsX9_allows := goodIn_r _ [22, 23, 24, 25, 26, 27, 28, 29, 5, 30, 31, 2, 1, 32, 33, 34, 35, 36, 37, 38, 39, 40, 41, 42, 43, 44, 45, 46, 47, 48, 49, 50, 51, 52, 53, 54, 55, 56, 57, 58, 59, 60, 61, 62, 63, 64, 65, 66, 67, 68, 69, 70, 71, 72, 73, 74, 75, 76, 77, 78, 79, 80, 81, 82] (by decide +kernel) (by decide +kernel)
set_option maxRecDepth 20000 in
theorem gX9_clause_X9_allows : GoodIn wsX9_clause (wsV RX9 159 RX9 yX9_allows wsX9_allows) := goodIn_app (goodIn_of _ (by decide +kernel)) ggX9_clause_X9_allows
set_option maxRecDepth 20000 in
theorem ggX9_clause_X9_eat : GoodIn wsX9_clause wsX9_eat := goodIn_r _ [35, 2, 1, 36, 37, 38, 39, 5, 40, 41, 42, 43, 44, 45, 50, 51, 52, 53, 54, 55, 56, 57, 58, 59, 60, 61, 62, 63, 64, 65, 66, 67, 68, 69, 70, 71, 72, 73, 74, 75, 76, 77, 78, 79, 80, 81, 82] (by decide +kernel) (by decide +kernel)
set_option maxRecDepth 20000 in
theorem gX9_clause_X9_eat : GoodIn wsX9_clause (wsV RX9 149 RX9 yX9_eat wsX9_eat) := goodIn_app (goodIn_of _ (by decide +kernel)) ggX9_clause_X9_eat
theorem dX9_clause_0 : decode cX9_clause 0 = .ok (.aload_n 0, 1) := by decide +kernel
theorem dX9_clause_1 : decode cX9_clause 1 = .ok (.dup, 1) := by decide +kernel
theorem dX9_clause_2 : decode cX9_clause 2 = .ok (.getfield 96, 3) := by decide +kernel
theorem dX9_clause_5 : decode cX9_clause 5 = .ok (.iload_n 2, 1) := by decide +kernel
theorem dX9_clause_6 : decode cX9_clause 6 = .ok (.invokestatic 130, 3) := by decide +kernel
theorem dX9_clause_9 : decode cX9_clause 9 = .ok (.invokevirtual 106, 3) := by decide +kernel
theorem dX9_clause_12 : decode cX9_clause 12 = .ok (.iadd, 1) := by decide +kernel
theorem dX9_clause_13 : decode cX9_clause 13 = .ok (.putfield 96, 3) := by decide +kernel
theorem dX9_clause_16 : decode cX9_clause 16 = .ok (.aload_n 0, 1) := by decide +kernel
theorem dX9_clause_17 : decode cX9_clause 17 = .ok (.iload_n 1, 1) := by decide +kernel
theorem dX9_clause_18 : decode cX9_clause 18 = .ok (.iload_n 2, 1) := by decide +kernel
theorem dX9_clause_19 : decode cX9_clause 19 = .ok (.invokevirtual 159, 3) := by decide +kernel
theorem dX9_clause_22 : decode cX9_clause 22 = .ok (.iconst 1, 1) := by decide +kernel
theorem dX9_clause_23 : decode cX9_clause 23 = .ok (.istore_n 3, 1) := by decide +kernel
theorem dX9_clause_24 : decode cX9_clause 24 = .ok (.iload_n 3, 1) := by decide +kernel
theorem dX9_clause_25 : decode cX9_clause 25 = .ok (.iconst 5, 1) := by decide +kernel
theorem dX9_clause_26 : decode cX9_clause 26 = .ok (.if_icmp .ge 51, 3) := by decide +kernel
theorem dX9_clause_29 : decode cX9_clause 29 = .ok (.iload_n 2, 1) := by decide +kernel
theorem dX9_clause_30 : decode cX9_clause 30 = .ok (.ifCond .ne 47, 3) := by decide +kernel
theorem dX9_clause_33 : decode cX9_clause 33 = .ok (.aload_n 0, 1) := by decide +kernel
theorem dX9_clause_34 : decode cX9_clause 34 = .ok (.getfield 138, 3) := by decide +kernel
theorem dX9_clause_37 : decode cX9_clause 37 = .ok (.ifCond .ne 40, 3) := by decide +kernel
theorem dX9_clause_40 : decode cX9_clause 40 = .ok (.aload_n 0, 1) := by decide +kernel
theorem dX9_clause_41 : decode cX9_clause 41 = .ok (.aload_n 0, 1) := by decide +kernel
theorem dX9_clause_42 : decode cX9_clause 42 = .ok (.bipush 46, 2) := by decide +kernel
theorem dX9_clause_44 : decode cX9_clause 44 = .ok (.invokevirtual 149, 3) := by decide +kernel
theorem dX9_clause_47 : decode cX9_clause 47 = .ok (.ifCond .ne 7, 3) := by decide +kernel
theorem dX9_clause_50 : decode cX9_clause 50 = .ok (.iconst 1, 1) := by decide +kernel
theorem dX9_clause_51 : decode cX9_clause 51 = .ok (.goto 4, 3) := by decide +kernel
theorem dX9_clause_54 : decode cX9_clause 54 = .ok (.iconst 0, 1) := by decide +kernel
theorem dX9_clause_55 : decode cX9_clause 55 = .ok (.putfield 138, 3) := by decide +kernel
theorem dX9_clause_58 : decode cX9_clause 58 = .ok (.aload_n 0, 1) := by decide +kernel
theorem dX9_clause_59 : decode cX9_clause 59 = .ok (.getfield 138, 3) := by decide +kernel
theorem dX9_clause_62 : decode cX9_clause 62 = .ok (.ifCond .ne 9, 3) := by decide +kernel
theorem dX9_clause_65 : decode cX9_clause 65 = .ok (.aload_n 0, 1) := by decide +kernel
theorem dX9_clause_66 : decode cX9_clause 66 = .ok (.iload_n 1, 1) := by decide +kernel
theorem dX9_clause_67 : decode cX9_clause 67 = .ok (.iload_n 3, 1) := by decide +kernel
theorem dX9_clause_68 : decode cX9_clause 68 = .ok (.invokevirtual 159, 3) := by decide +kernel
theorem dX9_clause_71 : decode cX9_clause 71 = .ok (.iinc 3 1, 3) := by decide +kernel
theorem dX9_clause_74 : decode cX9_clause 74 = .ok (.goto (-50), 3) := by decide +kernel
theorem dX9_clause_77 : decode cX9_clause 77 = .ok (.aload_n 0, 1) := by decide +kernel
theorem dX9_clause_78 : decode cX9_clause 78 = .ok (.getfield 138, 3) := by decide +kernel
theorem dX9_clause_81 : decode cX9_clause 81 = .ok (.ifCond .ne 17, 3) := by decide +kernel
theorem dX9_clause_84 : decode cX9_clause 84 = .ok (.aload_n 0, 1) := by decide +kernel
theorem dX9_clause_85 : decode cX9_clause 85 = .ok (.bipush 59, 2) := by decide +kernel
theorem dX9_clause_87 : decode cX9_clause 87 = .ok (.invokevirtual 149, 3) := by decide +kernel
theorem dX9_clause_90 : decode cX9_clause 90 = .ok (.ifCond .ne 8, 3) := by decide +kernel
theorem dX9_clause_93 : decode cX9_clause 93 = .ok (.aload_n 0, 1) := by decide +kernel
theorem dX9_clause_94 : decode cX9_clause 94 = .ok (.iconst 1, 1) := by decide +kernel
theorem dX9_clause_95 : decode cX9_clause 95 = .ok (.putfield 138, 3) := by decide +kernel
theorem dX9_clause_98 : decode cX9_clause 98 = .ok (.return_, 1) := by decide +kernel
set_option maxRecDepth 20000 in
theorem ggX9_stone_X9_bad : GoodIn wsX9_stone wsX9_bad := goodIn_r _ [17, 1, 135, 136, 137, 138, 139, 140, 141, 142, 143, 144, 145, 146, 147, 148, 149, 150, 151, 152, 153, 154, 155, 156, 157, 158, 159, 160, 161, 162, 163, 164, 165, 166, 167] (by decide +kernel) (by decide +kernel)
set_option maxRecDepth 20000 in
theorem gX9_stone_X9_bad : GoodIn wsX9_stone (wsV RX9 65 RX9 yX9_bad wsX9_bad) := goodIn_app (goodIn_of _ (by decide +kernel)) ggX9_stone_X9_bad
set_option maxRecDepth 20000 in
theorem ggX9_stone_X9_clauseHere : GoodIn wsX9_stone wsX9_clauseHere := goodIn_r _ [21, 22, 23, 16, 24, 25, 26, 27, 28, 6, 29, 30, 31, 32, 5, 33, 34, 35, 36, 37, 38, 39, 40, 41, 42, 43, 44, 45, 46, 47, 48, 49, 50, 51, 52, 53, 54, 55, 56, 57, 58, 59, 60, 61, 62, 63, 64, 65, 66, 67, 68, 69, 70, 71, 72, 73, 74, 75, 76, 77, 78, 79, 80, 81, 82, 83, 84, 85, 86, 135, 136, 137, 138, 139, 140, 141, 142, 143, 144, 145, 146, 147, 148, 149, 150, 151, 152, 153, 154, 155, 156, 157, 158, 159, 160, 161, 162, 163, 164, 165, 166, 167] (by decide +kernel) (by decide +kernel)
set_option maxRecDepth 20000 in
theorem gX9_stone_X9_clauseHere : GoodIn wsX9_stone (wsV RX9 166 RX9 yX9_clauseHere wsX9_clauseHere) := goodIn_app (goodIn_of _ (by decide +kernel)) ggX9_stone_X9_clauseHere
set_option maxRecDepth 20000 in
theorem ggX9_stone_X9_clause : GoodIn wsX9_stone wsX9_clause := goodIn_r _ [90, 6, 7, 22, 23, 16, 24, 38, 39, 40, 41, 42, 43, 44, 45, 46, 47, 48, 49, 91, 92, 93, 94, 8, 95, 10, 96, 97, 98, 99, 100, 9, 101, 102, 103, 104, 5, 29, 30, 31, 32, 33, 34, 35, 36, 37, 105, 106, 107, 108, 135, 136, 137, 138, 139, 140, 141, 142, 143, 144, 145, 146, 147, 148, 149, 150, 151, 152, 153, 154, 155, 156, 157, 158, 159, 160, 161, 162, 163, 164, 165, 166, 167] (by decide +kernel) (by decide +kernel)
set_option maxRecDepth 20000 in
theorem gX9_stone_X9_clause : GoodIn wsX9_stone (wsV RX9 169 RX9 yX9_clause wsX9_clause) := goodIn_app (goodIn_of _ (by decide +kernel)) ggX9_stone_X9_clause
set_option maxRecDepth 20000 in
theorem ggX9_stone_X9_blanks : GoodIn wsX9_stone wsX9_blanks := goodIn_r _ [32, 6, 5, 33, 34, 35, 16, 36, 37, 135, 136, 137, 138, 139, 140, 141, 142, 143, 144, 145, 146, 147, 148, 149, 150, 151, 152, 153, 154, 155, 156, 157, 158, 159, 160, 161, 162, 163, 164, 165, 166, 167] (by decide +kernel) (by decide +kernel)
set_option maxRecDepth 20000 in
theorem gX9_stone_X9_blanks : GoodIn wsX9_stone (wsV RX9 103 RX9 yX9_blanks wsX9_blanks) := goodIn_app (goodIn_of _ (by decide +kernel)) ggX9_stone_X9_blanks
set_option maxRecDepth 20000 in
theorem ggX9_stone_X9_lists : GoodIn wsX9_stone wsX9_lists := goodIn_r _ [112, 113, 114, 115, 116, 117, 118, 119, 16, 120, 121, 11, 122, 123, 124, 125, 126, 127, 128, 129, 8, 10, 130, 131, 132, 133, 134, 135, 136, 137, 138, 139, 140, 141, 142, 143, 144, 145, 146, 147, 148, 149, 150, 151, 152, 153, 154, 155, 156, 157, 158, 159, 160, 161, 162, 163, 164, 165, 166, 167] (by decide +kernel) (by decide +kernel)
set_option maxRecDepth 20000 in
theorem gX9_stone_X9_lists : GoodIn wsX9_stone (wsV RX9 172 RX9 yX9_lists wsX9_lists) := goodIn_app (goodIn_of _ (by decide +kernel)) ggX9_stone_X9_lists
theorem dX9_stone_0 : decode cX9_stone 0 = .ok (.aload_n 0, 1) := by decide +kernel
theorem dX9_stone_1 : decode cX9_stone 1 = .ok (.iconst 0, 1) := by decide +kernel
theorem dX9_stone_2 : decode cX9_stone 2 = .ok (.putfield 61, 3) := by decide +kernel
theorem dX9_stone_5 : decode cX9_stone 5 = .ok (.aload_n 0, 1) := by decide +kernel
theorem dX9_stone_6 : decode cX9_stone 6 = .ok (.iload_n 1, 1) := by decide +kernel
theorem dX9_stone_7 : decode cX9_stone 7 = .ok (.ifCond .lt 11, 3) := by decide +kernel
theorem dX9_stone_10 : decode cX9_stone 10 = .ok (.iload_n 1, 1) := by decide +kernel
theorem dX9_stone_11 : decode cX9_stone 11 = .ok (.aload_n 0, 1) := by decide +kernel
theorem dX9_stone_12 : decode cX9_stone 12 = .ok (.getfield 69, 3) := by decide +kernel
theorem dX9_stone_15 : decode cX9_stone 15 = .ok (.if_icmp .lt 7, 3) := by decide +kernel
theorem dX9_stone_18 : decode cX9_stone 18 = .ok (.iconst 1, 1) := by decide +kernel
theorem dX9_stone_19 : decode cX9_stone 19 = .ok (.goto 4, 3) := by decide +kernel
theorem dX9_stone_22 : decode cX9_stone 22 = .ok (.iconst 0, 1) := by decide +kernel
theorem dX9_stone_23 : decode cX9_stone 23 = .ok (.iconst 1, 1) := by decide +kernel
theorem dX9_stone_24 : decode cX9_stone 24 = .ok (.invokevirtual 65, 3) := by decide +kernel
theorem dX9_stone_27 : decode cX9_stone 27 = .ok (.ifCond .ne 50, 3) := by decide +kernel
theorem dX9_stone_30 : decode cX9_stone 30 = .ok (.aload_n 0, 1) := by decide +kernel
theorem dX9_stone_31 : decode cX9_stone 31 = .ok (.iload_n 2, 1) := by decide +kernel
theorem dX9_stone_32 : decode cX9_stone 32 = .ok (.ifCond .lt 11, 3) := by decide +kernel
theorem dX9_stone_35 : decode cX9_stone 35 = .ok (.iload_n 2, 1) := by decide +kernel
theorem dX9_stone_36 : decode cX9_stone 36 = .ok (.aload_n 0, 1) := by decide +kernel
theorem dX9_stone_37 : decode cX9_stone 37 = .ok (.getfield 90, 3) := by decide +kernel
theorem dX9_stone_40 : decode cX9_stone 40 = .ok (.if_icmp .le 7, 3) := by decide +kernel
theorem dX9_stone_43 : decode cX9_stone 43 = .ok (.iconst 1, 1) := by decide +kernel
theorem dX9_stone_44 : decode cX9_stone 44 = .ok (.goto 4, 3) := by decide +kernel
theorem dX9_stone_47 : decode cX9_stone 47 = .ok (.iconst 0, 1) := by decide +kernel
theorem dX9_stone_48 : decode cX9_stone 48 = .ok (.iconst 2, 1) := by decide +kernel
theorem dX9_stone_49 : decode cX9_stone 49 = .ok (.invokevirtual 65, 3) := by decide +kernel
theorem dX9_stone_52 : decode cX9_stone 52 = .ok (.ifCond .ne 25, 3) := by decide +kernel
theorem dX9_stone_55 : decode cX9_stone 55 = .ok (.aload_n 0, 1) := by decide +kernel
theorem dX9_stone_56 : decode cX9_stone 56 = .ok (.aload_n 0, 1) := by decide +kernel
theorem dX9_stone_57 : decode cX9_stone 57 = .ok (.getfield 163, 3) := by decide +kernel
theorem dX9_stone_60 : decode cX9_stone 60 = .ok (.bipush 30, 2) := by decide +kernel
theorem dX9_stone_62 : decode cX9_stone 62 = .ok (.if_icmp .ne 7, 3) := by decide +kernel
theorem dX9_stone_65 : decode cX9_stone 65 = .ok (.iconst 1, 1) := by decide +kernel
theorem dX9_stone_66 : decode cX9_stone 66 = .ok (.goto 4, 3) := by decide +kernel
theorem dX9_stone_69 : decode cX9_stone 69 = .ok (.iconst 0, 1) := by decide +kernel
theorem dX9_stone_70 : decode cX9_stone 70 = .ok (.iconst 3, 1) := by decide +kernel
theorem dX9_stone_71 : decode cX9_stone 71 = .ok (.invokevirtual 65, 3) := by decide +kernel
theorem dX9_stone_74 : decode cX9_stone 74 = .ok (.ifCond .eq 5, 3) := by decide +kernel
theorem dX9_stone_77 : decode cX9_stone 77 = .ok (.iconst 0, 1) := by decide +kernel
theorem dX9_stone_78 : decode cX9_stone 78 = .ok (.ireturn, 1) := by decide +kernel
theorem dX9_stone_79 : decode cX9_stone 79 = .ok (.aload_n 0, 1) := by decide +kernel
theorem dX9_stone_80 : decode cX9_stone 80 = .ok (.iload_n 2, 1) := by decide +kernel
theorem dX9_stone_81 : decode cX9_stone 81 = .ok (.putfield 93, 3) := by decide +kernel
theorem dX9_stone_84 : decode cX9_stone 84 = .ok (.aload_n 0, 1) := by decide +kernel
theorem dX9_stone_85 : decode cX9_stone 85 = .ok (.iconst 0, 1) := by decide +kernel
theorem dX9_stone_86 : decode cX9_stone 86 = .ok (.putfield 90, 3) := by decide +kernel
theorem dX9_stone_89 : decode cX9_stone 89 = .ok (.aload_n 0, 1) := by decide +kernel
theorem dX9_stone_90 : decode cX9_stone 90 = .ok (.iconst 0, 1) := by decide +kernel
theorem dX9_stone_91 : decode cX9_stone 91 = .ok (.putfield 96, 3) := by decide +kernel
theorem dX9_stone_94 : decode cX9_stone 94 = .ok (.aload_n 0, 1) := by decide +kernel
theorem dX9_stone_95 : decode cX9_stone 95 = .ok (.iconst 0, 1) := by decide +kernel
theorem dX9_stone_96 : decode cX9_stone 96 = .ok (.putfield 138, 3) := by decide +kernel
theorem dX9_stone_99 : decode cX9_stone 99 = .ok (.iconst 0, 1) := by decide +kernel
theorem dX9_stone_100 : decode cX9_stone 100 = .ok (.istore_n 3, 1) := by decide +kernel
theorem dX9_stone_101 : decode cX9_stone 101 = .ok (.iload_n 3, 1) := by decide +kernel
theorem dX9_stone_102 : decode cX9_stone 102 = .ok (.bipush 11, 2) := by decide +kernel
theorem dX9_stone_104 : decode cX9_stone 104 = .ok (.if_icmp .ge 43, 3) := by decide +kernel
theorem dX9_stone_107 : decode cX9_stone 107 = .ok (.aload_n 0, 1) := by decide +kernel
theorem dX9_stone_108 : decode cX9_stone 108 = .ok (.getfield 17, 3) := by decide +kernel
theorem dX9_stone_111 : decode cX9_stone 111 = .ok (.bipush 11, 2) := by decide +kernel
theorem dX9_stone_113 : decode cX9_stone 113 = .ok (.aload_n 0, 1) := by decide +kernel
theorem dX9_stone_114 : decode cX9_stone 114 = .ok (.getfield 163, 3) := by decide +kernel
theorem dX9_stone_117 : decode cX9_stone 117 = .ok (.imul, 1) := by decide +kernel
theorem dX9_stone_118 : decode cX9_stone 118 = .ok (.iload_n 3, 1) := by decide +kernel
theorem dX9_stone_119 : decode cX9_stone 119 = .ok (.iadd, 1) := by decide +kernel
theorem dX9_stone_120 : decode cX9_stone 120 = .ok (.ldc2_w 152, 3) := by decide +kernel
theorem dX9_stone_123 : decode cX9_stone 123 = .ok (.lastore, 1) := by decide +kernel
theorem dX9_stone_124 : decode cX9_stone 124 = .ok (.aload_n 0, 1) := by decide +kernel
theorem dX9_stone_125 : decode cX9_stone 125 = .ok (.getfield 21, 3) := by decide +kernel
theorem dX9_stone_128 : decode cX9_stone 128 = .ok (.bipush 11, 2) := by decide +kernel
theorem dX9_stone_130 : decode cX9_stone 130 = .ok (.aload_n 0, 1) := by decide +kernel
theorem dX9_stone_131 : decode cX9_stone 131 = .ok (.getfield 163, 3) := by decide +kernel
theorem dX9_stone_134 : decode cX9_stone 134 = .ok (.imul, 1) := by decide +kernel
theorem dX9_stone_135 : decode cX9_stone 135 = .ok (.iload_n 3, 1) := by decide +kernel
theorem dX9_stone_136 : decode cX9_stone 136 = .ok (.iadd, 1) := by decide +kernel
theorem dX9_stone_137 : decode cX9_stone 137 = .ok (.ldc2_w 152, 3) := by decide +kernel
theorem dX9_stone_140 : decode cX9_stone 140 = .ok (.lastore, 1) := by decide +kernel
theorem dX9_stone_141 : decode cX9_stone 141 = .ok (.iinc 3 1, 3) := by decide +kernel
theorem dX9_stone_144 : decode cX9_stone 144 = .ok (.goto (-43), 3) := by decide +kernel
theorem dX9_stone_147 : decode cX9_stone 147 = .ok (.iconst 0, 1) := by decide +kernel
theorem dX9_stone_148 : decode cX9_stone 148 = .ok (.istore_n 3, 1) := by decide +kernel
theorem dX9_stone_149 : decode cX9_stone 149 = .ok (.aload_n 0, 1) := by decide +kernel
theorem dX9_stone_150 : decode cX9_stone 150 = .ok (.invokevirtual 166, 3) := by decide +kernel
theorem dX9_stone_153 : decode cX9_stone 153 = .ok (.istore 4, 2) := by decide +kernel
theorem dX9_stone_155 : decode cX9_stone 155 = .ok (.iload 4, 2) := by decide +kernel
theorem dX9_stone_157 : decode cX9_stone 157 = .ok (.ifCond .lt 69, 3) := by decide +kernel
theorem dX9_stone_160 : decode cX9_stone 160 = .ok (.aload_n 0, 1) := by decide +kernel
theorem dX9_stone_161 : decode cX9_stone 161 = .ok (.getfield 138, 3) := by decide +kernel
theorem dX9_stone_164 : decode cX9_stone 164 = .ok (.ifCond .ne 62, 3) := by decide +kernel
theorem dX9_stone_167 : decode cX9_stone 167 = .ok (.aload_n 0, 1) := by decide +kernel
theorem dX9_stone_168 : decode cX9_stone 168 = .ok (.iload_n 3, 1) := by decide +kernel
theorem dX9_stone_169 : decode cX9_stone 169 = .ok (.bipush 12, 2) := by decide +kernel
theorem dX9_stone_171 : decode cX9_stone 171 = .ok (.if_icmp .ne 7, 3) := by decide +kernel
theorem dX9_stone_174 : decode cX9_stone 174 = .ok (.iconst 1, 1) := by decide +kernel
theorem dX9_stone_175 : decode cX9_stone 175 = .ok (.goto 4, 3) := by decide +kernel
theorem dX9_stone_178 : decode cX9_stone 178 = .ok (.iconst 0, 1) := by decide +kernel
theorem dX9_stone_179 : decode cX9_stone 179 = .ok (.putfield 138, 3) := by decide +kernel
theorem dX9_stone_182 : decode cX9_stone 182 = .ok (.aload_n 0, 1) := by decide +kernel
theorem dX9_stone_183 : decode cX9_stone 183 = .ok (.getfield 138, 3) := by decide +kernel
theorem dX9_stone_186 : decode cX9_stone 186 = .ok (.ifCond .eq 11, 3) := by decide +kernel
theorem dX9_stone_189 : decode cX9_stone 189 = .ok (.bipush (-2), 2) := by decide +kernel
theorem dX9_stone_191 : decode cX9_stone 191 = .ok (.aload_n 0, 1) := by decide +kernel
theorem dX9_stone_192 : decode cX9_stone 192 = .ok (.getfield 96, 3) := by decide +kernel
theorem dX9_stone_195 : decode cX9_stone 195 = .ok (.isub, 1) := by decide +kernel
theorem dX9_stone_196 : decode cX9_stone 196 = .ok (.ireturn, 1) := by decide +kernel
theorem dX9_stone_197 : decode cX9_stone 197 = .ok (.aload_n 0, 1) := by decide +kernel
theorem dX9_stone_198 : decode cX9_stone 198 = .ok (.aload_n 0, 1) := by decide +kernel
theorem dX9_stone_199 : decode cX9_stone 199 = .ok (.getfield 163, 3) := by decide +kernel
theorem dX9_stone_202 : decode cX9_stone 202 = .ok (.iload 4, 2) := by decide +kernel
theorem dX9_stone_204 : decode cX9_stone 204 = .ok (.invokevirtual 169, 3) := by decide +kernel
theorem dX9_stone_207 : decode cX9_stone 207 = .ok (.iinc 3 1, 3) := by decide +kernel
theorem dX9_stone_210 : decode cX9_stone 210 = .ok (.aload_n 0, 1) := by decide +kernel
theorem dX9_stone_211 : decode cX9_stone 211 = .ok (.getfield 138, 3) := by decide +kernel
theorem dX9_stone_214 : decode cX9_stone 214 = .ok (.ifCond .ne (-59), 3) := by decide +kernel
theorem dX9_stone_217 : decode cX9_stone 217 = .ok (.aload_n 0, 1) := by decide +kernel
theorem dX9_stone_218 : decode cX9_stone 218 = .ok (.invokevirtual 166, 3) := by decide +kernel
theorem dX9_stone_221 : decode cX9_stone 221 = .ok (.istore 4, 2) := by decide +kernel
theorem dX9_stone_223 : decode cX9_stone 223 = .ok (.goto (-68), 3) := by decide +kernel
theorem dX9_stone_226 : decode cX9_stone 226 = .ok (.aload_n 0, 1) := by decide +kernel
theorem dX9_stone_227 : decode cX9_stone 227 = .ok (.getfield 138, 3) := by decide +kernel
theorem dX9_stone_230 : decode cX9_stone 230 = .ok (.ifCond .ne 7, 3) := by decide +kernel
theorem dX9_stone_233 : decode cX9_stone 233 = .ok (.aload_n 0, 1) := by decide +kernel
theorem dX9_stone_234 : decode cX9_stone 234 = .ok (.invokevirtual 103, 3) := by decide +kernel
theorem dX9_stone_237 : decode cX9_stone 237 = .ok (.aload_n 0, 1) := by decide +kernel
theorem dX9_stone_238 : decode cX9_stone 238 = .ok (.getfield 138, 3) := by decide +kernel
theorem dX9_stone_241 : decode cX9_stone 241 = .ok (.ifCond .ne 14, 3) := by decide +kernel
theorem dX9_stone_244 : decode cX9_stone 244 = .ok (.aload_n 0, 1) := by decide +kernel
theorem dX9_stone_245 : decode cX9_stone 245 = .ok (.getfield 96, 3) := by decide +kernel
theorem dX9_stone_248 : decode cX9_stone 248 = .ok (.aload_n 0, 1) := by decide +kernel
theorem dX9_stone_249 : decode cX9_stone 249 = .ok (.getfield 93, 3) := by decide +kernel
theorem dX9_stone_252 : decode cX9_stone 252 = .ok (.if_icmp .ge 11, 3) := by decide +kernel
theorem dX9_stone_255 : decode cX9_stone 255 = .ok (.bipush (-2), 2) := by decide +kernel
theorem dX9_stone_257 : decode cX9_stone 257 = .ok (.aload_n 0, 1) := by decide +kernel
theorem dX9_stone_258 : decode cX9_stone 258 = .ok (.getfield 96, 3) := by decide +kernel
theorem dX9_stone_261 : decode cX9_stone 261 = .ok (.isub, 1) := by decide +kernel
theorem dX9_stone_262 : decode cX9_stone 262 = .ok (.ireturn, 1) := by decide +kernel
theorem dX9_stone_263 : decode cX9_stone 263 = .ok (.aload_n 0, 1) := by decide +kernel
theorem dX9_stone_264 : decode cX9_stone 264 = .ok (.getfield 24, 3) := by decide +kernel
theorem dX9_stone_267 : decode cX9_stone 267 = .ok (.aload_n 0, 1) := by decide +kernel
theorem dX9_stone_268 : decode cX9_stone 268 = .ok (.getfield 163, 3) := by decide +kernel
theorem dX9_stone_271 : decode cX9_stone 271 = .ok (.iload_n 1, 1) := by decide +kernel
theorem dX9_stone_272 : decode cX9_stone 272 = .ok (.iastore, 1) := by decide +kernel
theorem dX9_stone_273 : decode cX9_stone 273 = .ok (.aload_n 0, 1) := by decide +kernel
theorem dX9_stone_274 : decode cX9_stone 274 = .ok (.dup, 1) := by decide +kernel
theorem dX9_stone_275 : decode cX9_stone 275 = .ok (.getfield 163, 3) := by decide +kernel
theorem dX9_stone_278 : decode cX9_stone 278 = .ok (.iconst 1, 1) := by decide +kernel
theorem dX9_stone_279 : decode cX9_stone 279 = .ok (.iadd, 1) := by decide +kernel
theorem dX9_stone_280 : decode cX9_stone 280 = .ok (.putfield 163, 3) := by decide +kernel
theorem dX9_stone_283 : decode cX9_stone 283 = .ok (.aload_n 0, 1) := by decide +kernel
theorem dX9_stone_284 : decode cX9_stone 284 = .ok (.aload_n 0, 1) := by decide +kernel
theorem dX9_stone_285 : decode cX9_stone 285 = .ok (.getfield 163, 3) := by decide +kernel
theorem dX9_stone_288 : decode cX9_stone 288 = .ok (.iconst 1, 1) := by decide +kernel
theorem dX9_stone_289 : decode cX9_stone 289 = .ok (.isub, 1) := by decide +kernel
theorem dX9_stone_290 : decode cX9_stone 290 = .ok (.invokevirtual 172, 3) := by decide +kernel
theorem dX9_stone_293 : decode cX9_stone 293 = .ok (.aload_n 0, 1) := by decide +kernel
theorem dX9_stone_294 : decode cX9_stone 294 = .ok (.iconst 0, 1) := by decide +kernel
theorem dX9_stone_295 : decode cX9_stone 295 = .ok (.putfield 176, 3) := by decide +kernel
theorem dX9_stone_298 : decode cX9_stone 298 = .ok (.aload_n 0, 1) := by decide +kernel
theorem dX9_stone_299 : decode cX9_stone 299 = .ok (.getfield 163, 3) := by decide +kernel
theorem dX9_stone_302 : decode cX9_stone 302 = .ok (.iconst 1, 1) := by decide +kernel
theorem dX9_stone_303 : decode cX9_stone 303 = .ok (.isub, 1) := by decide +kernel
theorem dX9_stone_304 : decode cX9_stone 304 = .ok (.ireturn, 1) := by decide +kernel
theorem dX9_isAllowed_0 : decode cX9_isAllowed 0 = .ok (.iload_n 3, 1) := by decide +kernel
theorem dX9_isAllowed_1 : decode cX9_isAllowed 1 = .ok (.bipush 64, 2) := by decide +kernel
theorem dX9_isAllowed_3 : decode cX9_isAllowed 3 = .ok (.if_icmp .ge 31, 3) := by decide +kernel
theorem dX9_isAllowed_6 : decode cX9_isAllowed 6 = .ok (.aload_n 0, 1) := by decide +kernel
theorem dX9_isAllowed_7 : decode cX9_isAllowed 7 = .ok (.getfield 17, 3) := by decide +kernel
theorem dX9_isAllowed_10 : decode cX9_isAllowed 10 = .ok (.bipush 11, 2) := by decide +kernel
theorem dX9_isAllowed_12 : decode cX9_isAllowed 12 = .ok (.iload_n 1, 1) := by decide +kernel
theorem dX9_isAllowed_13 : decode cX9_isAllowed 13 = .ok (.imul, 1) := by decide +kernel
theorem dX9_isAllowed_14 : decode cX9_isAllowed 14 = .ok (.iload_n 2, 1) := by decide +kernel
theorem dX9_isAllowed_15 : decode cX9_isAllowed 15 = .ok (.iadd, 1) := by decide +kernel
theorem dX9_isAllowed_16 : decode cX9_isAllowed 16 = .ok (.laload, 1) := by decide +kernel
theorem dX9_isAllowed_17 : decode cX9_isAllowed 17 = .ok (.iload_n 3, 1) := by decide +kernel
theorem dX9_isAllowed_18 : decode cX9_isAllowed 18 = .ok (.lshr, 1) := by decide +kernel
theorem dX9_isAllowed_19 : decode cX9_isAllowed 19 = .ok (.lconst 1, 1) := by decide +kernel
theorem dX9_isAllowed_20 : decode cX9_isAllowed 20 = .ok (.land, 1) := by decide +kernel
theorem dX9_isAllowed_21 : decode cX9_isAllowed 21 = .ok (.lconst 1, 1) := by decide +kernel
theorem dX9_isAllowed_22 : decode cX9_isAllowed 22 = .ok (.lcmp, 1) := by decide +kernel
theorem dX9_isAllowed_23 : decode cX9_isAllowed 23 = .ok (.ifCond .ne 7, 3) := by decide +kernel
theorem dX9_isAllowed_26 : decode cX9_isAllowed 26 = .ok (.iconst 1, 1) := by decide +kernel
theorem dX9_isAllowed_27 : decode cX9_isAllowed 27 = .ok (.goto 35, 3) := by decide +kernel
theorem dX9_isAllowed_30 : decode cX9_isAllowed 30 = .ok (.iconst 0, 1) := by decide +kernel
theorem dX9_isAllowed_31 : decode cX9_isAllowed 31 = .ok (.goto 31, 3) := by decide +kernel
theorem dX9_isAllowed_34 : decode cX9_isAllowed 34 = .ok (.aload_n 0, 1) := by decide +kernel
theorem dX9_isAllowed_35 : decode cX9_isAllowed 35 = .ok (.getfield 21, 3) := by decide +kernel
theorem dX9_isAllowed_38 : decode cX9_isAllowed 38 = .ok (.bipush 11, 2) := by decide +kernel
theorem dX9_isAllowed_40 : decode cX9_isAllowed 40 = .ok (.iload_n 1, 1) := by decide +kernel
theorem dX9_isAllowed_41 : decode cX9_isAllowed 41 = .ok (.imul, 1) := by decide +kernel
theorem dX9_isAllowed_42 : decode cX9_isAllowed 42 = .ok (.iload_n 2, 1) := by decide +kernel
theorem dX9_isAllowed_43 : decode cX9_isAllowed 43 = .ok (.iadd, 1) := by decide +kernel
theorem dX9_isAllowed_44 : decode cX9_isAllowed 44 = .ok (.laload, 1) := by decide +kernel
theorem dX9_isAllowed_45 : decode cX9_isAllowed 45 = .ok (.iload_n 3, 1) := by decide +kernel
theorem dX9_isAllowed_46 : decode cX9_isAllowed 46 = .ok (.bipush 64, 2) := by decide +kernel
theorem dX9_isAllowed_48 : decode cX9_isAllowed 48 = .ok (.isub, 1) := by decide +kernel
theorem dX9_isAllowed_49 : decode cX9_isAllowed 49 = .ok (.lshr, 1) := by decide +kernel
theorem dX9_isAllowed_50 : decode cX9_isAllowed 50 = .ok (.lconst 1, 1) := by decide +kernel
theorem dX9_isAllowed_51 : decode cX9_isAllowed 51 = .ok (.land, 1) := by decide +kernel
theorem dX9_isAllowed_52 : decode cX9_isAllowed 52 = .ok (.lconst 1, 1) := by decide +kernel
theorem dX9_isAllowed_53 : decode cX9_isAllowed 53 = .ok (.lcmp, 1) := by decide +kernel
theorem dX9_isAllowed_54 : decode cX9_isAllowed 54 = .ok (.ifCond .ne 7, 3) := by decide +kernel
theorem dX9_isAllowed_57 : decode cX9_isAllowed 57 = .ok (.iconst 1, 1) := by decide +kernel
theorem dX9_isAllowed_58 : decode cX9_isAllowed 58 = .ok (.goto 4, 3) := by decide +kernel
theorem dX9_isAllowed_61 : decode cX9_isAllowed 61 = .ok (.iconst 0, 1) := by decide +kernel
theorem dX9_isAllowed_62 : decode cX9_isAllowed 62 = .ok (.ireturn, 1) := by decide +kernel
set_option maxRecDepth 20000 in
theorem ggX9_isFit_X9_valueOf : GoodIn wsX9_isFit wsX9_valueOf := goodIn_r _ [6, 7] (by decide +kernel) (by decide +kernel)
set_option maxRecDepth 20000 in
theorem gX9_isFit_X9_valueOf : GoodIn wsX9_isFit (va_wsS RX9 83 yX9_valueOf wsX9_valueOf) := goodIn_app (goodIn_of _ (by decide +kernel)) ggX9_isFit_X9_valueOf
set_option maxRecDepth 20000 in
theorem ggX9_isFit_X9_isAllowed : GoodIn wsX9_isFit wsX9_isAllowed := goodIn_r _ [11, 12, 13, 19, 20, 21, 22, 23, 24, 25, 26, 27, 28, 29, 30, 31, 32, 33, 34, 35, 36, 37, 38, 39, 40, 41, 42, 43, 44, 45, 46, 47, 48, 49, 50, 51] (by decide +kernel) (by decide +kernel)
set_option maxRecDepth 20000 in
theorem gX9_isFit_X9_isAllowed : GoodIn wsX9_isFit (wsV RX9 179 RX9 yX9_isAllowed wsX9_isAllowed) := goodIn_app (goodIn_of _ (by decide +kernel)) ggX9_isFit_X9_isAllowed
set_option maxRecDepth 20000 in
theorem ggX9_isFit_X9_moonOf : GoodIn wsX9_isFit wsX9_moonOf := goodIn_r _ [16, 17, 18] (by decide +kernel) (by decide +kernel)
set_option maxRecDepth 20000 in
theorem gX9_isFit_X9_moonOf : GoodIn wsX9_isFit (va_wsS RX9 87 yX9_moonOf wsX9_moonOf) := goodIn_app (goodIn_of _ (by decide +kernel)) ggX9_isFit_X9_moonOf
theorem dX9_isFit_0 : decode cX9_isFit 0 = .ok (.iconst 0, 1) := by decide +kernel
theorem dX9_isFit_1 : decode cX9_isFit 1 = .ok (.istore_n 3, 1) := by decide +kernel
theorem dX9_isFit_2 : decode cX9_isFit 2 = .ok (.iload_n 3, 1) := by decide +kernel
theorem dX9_isFit_3 : decode cX9_isFit 3 = .ok (.bipush 10, 2) := by decide +kernel
theorem dX9_isFit_5 : decode cX9_isFit 5 = .ok (.if_icmp .ge 25, 3) := by decide +kernel
theorem dX9_isFit_8 : decode cX9_isFit 8 = .ok (.aload_n 0, 1) := by decide +kernel
theorem dX9_isFit_9 : decode cX9_isFit 9 = .ok (.iload_n 1, 1) := by decide +kernel
theorem dX9_isFit_10 : decode cX9_isFit 10 = .ok (.iload_n 3, 1) := by decide +kernel
theorem dX9_isFit_11 : decode cX9_isFit 11 = .ok (.iload_n 2, 1) := by decide +kernel
theorem dX9_isFit_12 : decode cX9_isFit 12 = .ok (.iload_n 3, 1) := by decide +kernel
theorem dX9_isFit_13 : decode cX9_isFit 13 = .ok (.invokestatic 83, 3) := by decide +kernel
theorem dX9_isFit_16 : decode cX9_isFit 16 = .ok (.invokevirtual 179, 3) := by decide +kernel
theorem dX9_isFit_19 : decode cX9_isFit 19 = .ok (.ifCond .ne 5, 3) := by decide +kernel
theorem dX9_isFit_22 : decode cX9_isFit 22 = .ok (.iconst 0, 1) := by decide +kernel
theorem dX9_isFit_23 : decode cX9_isFit 23 = .ok (.ireturn, 1) := by decide +kernel
theorem dX9_isFit_24 : decode cX9_isFit 24 = .ok (.iinc 3 1, 3) := by decide +kernel
theorem dX9_isFit_27 : decode cX9_isFit 27 = .ok (.goto (-25), 3) := by decide +kernel
theorem dX9_isFit_30 : decode cX9_isFit 30 = .ok (.aload_n 0, 1) := by decide +kernel
theorem dX9_isFit_31 : decode cX9_isFit 31 = .ok (.iload_n 1, 1) := by decide +kernel
theorem dX9_isFit_32 : decode cX9_isFit 32 = .ok (.bipush 10, 2) := by decide +kernel
theorem dX9_isFit_34 : decode cX9_isFit 34 = .ok (.iload_n 2, 1) := by decide +kernel
theorem dX9_isFit_35 : decode cX9_isFit 35 = .ok (.aload_n 0, 1) := by decide +kernel
theorem dX9_isFit_36 : decode cX9_isFit 36 = .ok (.getfield 9, 3) := by decide +kernel
theorem dX9_isFit_39 : decode cX9_isFit 39 = .ok (.aload_n 0, 1) := by decide +kernel
theorem dX9_isFit_40 : decode cX9_isFit 40 = .ok (.getfield 24, 3) := by decide +kernel
theorem dX9_isFit_43 : decode cX9_isFit 43 = .ok (.iload_n 1, 1) := by decide +kernel
theorem dX9_isFit_44 : decode cX9_isFit 44 = .ok (.iaload, 1) := by decide +kernel
theorem dX9_isFit_45 : decode cX9_isFit 45 = .ok (.iaload, 1) := by decide +kernel
theorem dX9_isFit_46 : decode cX9_isFit 46 = .ok (.invokestatic 87, 3) := by decide +kernel
theorem dX9_isFit_49 : decode cX9_isFit 49 = .ok (.invokevirtual 179, 3) := by decide +kernel
theorem dX9_isFit_52 : decode cX9_isFit 52 = .ok (.ireturn, 1) := by decide +kernel
set_option maxRecDepth 20000 in
theorem ggX9_lists_X9_isFit : GoodIn wsX9_lists wsX9_isFit := goodIn_r _ [9, 10, 11, 12, 13, 8, 14, 15, 16, 17, 18, 19, 20, 21, 22, 23, 24, 25, 26, 27, 28, 29, 30, 31, 32, 33, 34, 35, 36, 37, 38, 39, 40, 41, 42, 43, 44, 45, 46, 47, 48, 49, 50, 51, 52, 53, 54, 55, 56, 57, 58, 59] (by decide +kernel) (by decide +kernel)
set_option maxRecDepth 20000 in
theorem gX9_lists_X9_isFit : GoodIn wsX9_lists (wsV RX9 183 RX9 yX9_isFit wsX9_isFit) := goodIn_app (goodIn_of _ (by decide +kernel)) ggX9_lists_X9_isFit
theorem dX9_lists_0 : decode cX9_lists 0 = .ok (.aload_n 0, 1) := by decide +kernel
theorem dX9_lists_1 : decode cX9_lists 1 = .ok (.getfield 27, 3) := by decide +kernel
theorem dX9_lists_4 : decode cX9_lists 4 = .ok (.iload_n 1, 1) := by decide +kernel
theorem dX9_lists_5 : decode cX9_lists 5 = .ok (.iconst 0, 1) := by decide +kernel
theorem dX9_lists_6 : decode cX9_lists 6 = .ok (.iastore, 1) := by decide +kernel
theorem dX9_lists_7 : decode cX9_lists 7 = .ok (.ldc 72, 2) := by decide +kernel
theorem dX9_lists_9 : decode cX9_lists 9 = .ok (.istore_n 2, 1) := by decide +kernel
theorem dX9_lists_10 : decode cX9_lists 10 = .ok (.iload_n 2, 1) := by decide +kernel
theorem dX9_lists_11 : decode cX9_lists 11 = .ok (.ldc 73, 2) := by decide +kernel
theorem dX9_lists_13 : decode cX9_lists 13 = .ok (.if_icmp .gt 61, 3) := by decide +kernel
theorem dX9_lists_16 : decode cX9_lists 16 = .ok (.aload_n 0, 1) := by decide +kernel
theorem dX9_lists_17 : decode cX9_lists 17 = .ok (.iload_n 1, 1) := by decide +kernel
theorem dX9_lists_18 : decode cX9_lists 18 = .ok (.iload_n 2, 1) := by decide +kernel
theorem dX9_lists_19 : decode cX9_lists 19 = .ok (.invokevirtual 183, 3) := by decide +kernel
theorem dX9_lists_22 : decode cX9_lists 22 = .ok (.ifCond .ne 6, 3) := by decide +kernel
theorem dX9_lists_25 : decode cX9_lists 25 = .ok (.goto 43, 3) := by decide +kernel
theorem dX9_lists_28 : decode cX9_lists 28 = .ok (.aload_n 0, 1) := by decide +kernel
theorem dX9_lists_29 : decode cX9_lists 29 = .ok (.getfield 27, 3) := by decide +kernel
theorem dX9_lists_32 : decode cX9_lists 32 = .ok (.iload_n 1, 1) := by decide +kernel
theorem dX9_lists_33 : decode cX9_lists 33 = .ok (.iaload, 1) := by decide +kernel
theorem dX9_lists_34 : decode cX9_lists 34 = .ok (.sipush 300, 3) := by decide +kernel
theorem dX9_lists_37 : decode cX9_lists 37 = .ok (.if_icmp .ge 21, 3) := by decide +kernel
theorem dX9_lists_40 : decode cX9_lists 40 = .ok (.aload_n 0, 1) := by decide +kernel
theorem dX9_lists_41 : decode cX9_lists 41 = .ok (.getfield 30, 3) := by decide +kernel
theorem dX9_lists_44 : decode cX9_lists 44 = .ok (.sipush 300, 3) := by decide +kernel
theorem dX9_lists_47 : decode cX9_lists 47 = .ok (.iload_n 1, 1) := by decide +kernel
theorem dX9_lists_48 : decode cX9_lists 48 = .ok (.imul, 1) := by decide +kernel
theorem dX9_lists_49 : decode cX9_lists 49 = .ok (.aload_n 0, 1) := by decide +kernel
theorem dX9_lists_50 : decode cX9_lists 50 = .ok (.getfield 27, 3) := by decide +kernel
theorem dX9_lists_53 : decode cX9_lists 53 = .ok (.iload_n 1, 1) := by decide +kernel
theorem dX9_lists_54 : decode cX9_lists 54 = .ok (.iaload, 1) := by decide +kernel
theorem dX9_lists_55 : decode cX9_lists 55 = .ok (.iadd, 1) := by decide +kernel
theorem dX9_lists_56 : decode cX9_lists 56 = .ok (.iload_n 2, 1) := by decide +kernel
theorem dX9_lists_57 : decode cX9_lists 57 = .ok (.iastore, 1) := by decide +kernel
theorem dX9_lists_58 : decode cX9_lists 58 = .ok (.aload_n 0, 1) := by decide +kernel
theorem dX9_lists_59 : decode cX9_lists 59 = .ok (.getfield 27, 3) := by decide +kernel
theorem dX9_lists_62 : decode cX9_lists 62 = .ok (.iload_n 1, 1) := by decide +kernel
theorem dX9_lists_63 : decode cX9_lists 63 = .ok (.dup2, 1) := by decide +kernel
theorem dX9_lists_64 : decode cX9_lists 64 = .ok (.iaload, 1) := by decide +kernel
theorem dX9_lists_65 : decode cX9_lists 65 = .ok (.iconst 1, 1) := by decide +kernel
theorem dX9_lists_66 : decode cX9_lists 66 = .ok (.iadd, 1) := by decide +kernel
theorem dX9_lists_67 : decode cX9_lists 67 = .ok (.iastore, 1) := by decide +kernel
theorem dX9_lists_68 : decode cX9_lists 68 = .ok (.iinc 2 1, 3) := by decide +kernel
theorem dX9_lists_71 : decode cX9_lists 71 = .ok (.goto (-61), 3) := by decide +kernel
theorem dX9_lists_74 : decode cX9_lists 74 = .ok (.return_, 1) := by decide +kernel
theorem dX9_isStone_0 : decode cX9_isStone 0 = .ok (.aload_n 0, 1) := by decide +kernel
theorem dX9_isStone_1 : decode cX9_isStone 1 = .ok (.iload_n 1, 1) := by decide +kernel
theorem dX9_isStone_2 : decode cX9_isStone 2 = .ok (.ifCond .lt 11, 3) := by decide +kernel
theorem dX9_isStone_5 : decode cX9_isStone 5 = .ok (.iload_n 1, 1) := by decide +kernel
theorem dX9_isStone_6 : decode cX9_isStone 6 = .ok (.aload_n 0, 1) := by decide +kernel
theorem dX9_isStone_7 : decode cX9_isStone 7 = .ok (.getfield 163, 3) := by decide +kernel
theorem dX9_isStone_10 : decode cX9_isStone 10 = .ok (.if_icmp .lt 7, 3) := by decide +kernel
theorem dX9_isStone_13 : decode cX9_isStone 13 = .ok (.iconst 1, 1) := by decide +kernel
theorem dX9_isStone_14 : decode cX9_isStone 14 = .ok (.goto 4, 3) := by decide +kernel
theorem dX9_isStone_17 : decode cX9_isStone 17 = .ok (.iconst 0, 1) := by decide +kernel
theorem dX9_isStone_18 : decode cX9_isStone 18 = .ok (.putfield 61, 3) := by decide +kernel
theorem dX9_isStone_21 : decode cX9_isStone 21 = .ok (.aload_n 0, 1) := by decide +kernel
theorem dX9_isStone_22 : decode cX9_isStone 22 = .ok (.getfield 61, 3) := by decide +kernel
theorem dX9_isStone_25 : decode cX9_isStone 25 = .ok (.ifCond .ne 7, 3) := by decide +kernel
theorem dX9_isStone_28 : decode cX9_isStone 28 = .ok (.iconst 1, 1) := by decide +kernel
theorem dX9_isStone_29 : decode cX9_isStone 29 = .ok (.goto 4, 3) := by decide +kernel
theorem dX9_isStone_32 : decode cX9_isStone 32 = .ok (.iconst 0, 1) := by decide +kernel
theorem dX9_isStone_33 : decode cX9_isStone 33 = .ok (.ireturn, 1) := by decide +kernel
set_option maxRecDepth 20000 in
theorem ggX9_many_X9_isStone : GoodIn wsX9_many wsX9_isStone := goodIn_r _ [6, 7, 8, 9, 10, 11, 12, 13, 14, 15, 16, 17, 18, 19, 20, 21, 22, 23, 24, 25, 26, 27, 28, 29, 30, 31, 32, 33, 34, 35, 36, 37, 38, 39, 40, 41] (by decide +kernel) (by decide +kernel)
set_option maxRecDepth 20000 in
theorem gX9_many_X9_isStone : GoodIn wsX9_many (wsV RX9 187 RX9 yX9_isStone wsX9_isStone) := goodIn_app (goodIn_of _ (by decide +kernel)) ggX9_many_X9_isStone
theorem dX9_many_0 : decode cX9_many 0 = .ok (.aload_n 0, 1) := by decide +kernel
theorem dX9_many_1 : decode cX9_many 1 = .ok (.iload_n 1, 1) := by decide +kernel
theorem dX9_many_2 : decode cX9_many 2 = .ok (.invokevirtual 187, 3) := by decide +kernel
theorem dX9_many_5 : decode cX9_many 5 = .ok (.ifCond .eq 12, 3) := by decide +kernel
theorem dX9_many_8 : decode cX9_many 8 = .ok (.aload_n 0, 1) := by decide +kernel
theorem dX9_many_9 : decode cX9_many 9 = .ok (.getfield 27, 3) := by decide +kernel
theorem dX9_many_12 : decode cX9_many 12 = .ok (.iload_n 1, 1) := by decide +kernel
theorem dX9_many_13 : decode cX9_many 13 = .ok (.iaload, 1) := by decide +kernel
theorem dX9_many_14 : decode cX9_many 14 = .ok (.goto 4, 3) := by decide +kernel
theorem dX9_many_17 : decode cX9_many 17 = .ok (.iconst 0, 1) := by decide +kernel
theorem dX9_many_18 : decode cX9_many 18 = .ok (.ireturn, 1) := by decide +kernel
set_option maxRecDepth 20000 in
theorem ggX9_day_X9_isStone : GoodIn wsX9_day wsX9_isStone := goodIn_r _ [7, 8, 9, 10, 11, 12, 13, 14, 15, 16, 17, 18, 19, 20, 21, 22, 23, 24, 25, 26, 27, 28, 29, 30, 31, 32, 33, 34, 35, 36, 37, 38, 39, 40, 41, 42] (by decide +kernel) (by decide +kernel)
set_option maxRecDepth 20000 in
theorem gX9_day_X9_isStone : GoodIn wsX9_day (wsV RX9 187 RX9 yX9_isStone wsX9_isStone) := goodIn_app (goodIn_of _ (by decide +kernel)) ggX9_day_X9_isStone
theorem dX9_day_0 : decode cX9_day 0 = .ok (.aload_n 0, 1) := by decide +kernel
theorem dX9_day_1 : decode cX9_day 1 = .ok (.iload_n 1, 1) := by decide +kernel
theorem dX9_day_2 : decode cX9_day 2 = .ok (.invokevirtual 187, 3) := by decide +kernel
theorem dX9_day_5 : decode cX9_day 5 = .ok (.ifCond .ne 5, 3) := by decide +kernel
theorem dX9_day_8 : decode cX9_day 8 = .ok (.iconst 0, 1) := by decide +kernel
theorem dX9_day_9 : decode cX9_day 9 = .ok (.ireturn, 1) := by decide +kernel
theorem dX9_day_10 : decode cX9_day 10 = .ok (.iload_n 2, 1) := by decide +kernel
theorem dX9_day_11 : decode cX9_day 11 = .ok (.ifCond .lt 35, 3) := by decide +kernel
theorem dX9_day_14 : decode cX9_day 14 = .ok (.iload_n 2, 1) := by decide +kernel
theorem dX9_day_15 : decode cX9_day 15 = .ok (.sipush 300, 3) := by decide +kernel
theorem dX9_day_18 : decode cX9_day 18 = .ok (.if_icmp .ge 28, 3) := by decide +kernel
theorem dX9_day_21 : decode cX9_day 21 = .ok (.iload_n 2, 1) := by decide +kernel
theorem dX9_day_22 : decode cX9_day 22 = .ok (.aload_n 0, 1) := by decide +kernel
theorem dX9_day_23 : decode cX9_day 23 = .ok (.getfield 27, 3) := by decide +kernel
theorem dX9_day_26 : decode cX9_day 26 = .ok (.iload_n 1, 1) := by decide +kernel
theorem dX9_day_27 : decode cX9_day 27 = .ok (.iaload, 1) := by decide +kernel
theorem dX9_day_28 : decode cX9_day 28 = .ok (.if_icmp .ge 18, 3) := by decide +kernel
theorem dX9_day_31 : decode cX9_day 31 = .ok (.aload_n 0, 1) := by decide +kernel
theorem dX9_day_32 : decode cX9_day 32 = .ok (.getfield 30, 3) := by decide +kernel
theorem dX9_day_35 : decode cX9_day 35 = .ok (.sipush 300, 3) := by decide +kernel
theorem dX9_day_38 : decode cX9_day 38 = .ok (.iload_n 1, 1) := by decide +kernel
theorem dX9_day_39 : decode cX9_day 39 = .ok (.imul, 1) := by decide +kernel
theorem dX9_day_40 : decode cX9_day 40 = .ok (.iload_n 2, 1) := by decide +kernel
theorem dX9_day_41 : decode cX9_day 41 = .ok (.iadd, 1) := by decide +kernel
theorem dX9_day_42 : decode cX9_day 42 = .ok (.iaload, 1) := by decide +kernel
theorem dX9_day_43 : decode cX9_day 43 = .ok (.goto 4, 3) := by decide +kernel
theorem dX9_day_46 : decode cX9_day 46 = .ok (.iconst (-1), 1) := by decide +kernel
theorem dX9_day_47 : decode cX9_day 47 = .ok (.ireturn, 1) := by decide +kernel
set_option maxRecDepth 20000 in
theorem ggX9_fits_X9_isStone : GoodIn wsX9_fits wsX9_isStone := goodIn_r _ [5, 6, 7, 38, 39, 40, 41, 42, 43, 44, 45, 46, 47, 48, 49, 50, 51, 52, 53, 54, 55, 56, 57, 58, 59, 60, 61, 62, 63, 64, 65, 66, 67, 68, 69, 70] (by decide +kernel) (by decide +kernel)
set_option maxRecDepth 20000 in
theorem gX9_fits_X9_isStone : GoodIn wsX9_fits (wsV RX9 187 RX9 yX9_isStone wsX9_isStone) := goodIn_app (goodIn_of _ (by decide +kernel)) ggX9_fits_X9_isStone
set_option maxRecDepth 20000 in
theorem ggX9_fits_X9_isDay : GoodIn wsX9_fits wsX9_isDay := goodIn_r _ [10, 11, 12] (by decide +kernel) (by decide +kernel)
set_option maxRecDepth 20000 in
theorem gX9_fits_X9_isDay : GoodIn wsX9_fits (va_wsS RX9 79 yX9_isDay wsX9_isDay) := goodIn_app (goodIn_of _ (by decide +kernel)) ggX9_fits_X9_isDay
set_option maxRecDepth 20000 in
theorem ggX9_fits_X9_bad : GoodIn wsX9_fits wsX9_bad := goodIn_r _ [16, 7, 38, 39, 40, 41, 42, 43, 44, 45, 46, 47, 48, 49, 50, 51, 52, 53, 54, 55, 56, 57, 58, 59, 60, 61, 62, 63, 64, 65, 66, 67, 68, 69, 70] (by decide +kernel) (by decide +kernel)
set_option maxRecDepth 20000 in
theorem gX9_fits_X9_bad : GoodIn wsX9_fits (wsV RX9 65 RX9 yX9_bad wsX9_bad) := goodIn_app (goodIn_of _ (by decide +kernel)) ggX9_fits_X9_bad
set_option maxRecDepth 20000 in
theorem ggX9_fits_X9_isFit : GoodIn wsX9_fits wsX9_isFit := goodIn_r _ [20, 21, 22, 23, 24, 4, 25, 26, 27, 28, 29, 30, 31, 32, 33, 34, 35, 36, 37, 38, 39, 40, 41, 42, 43, 44, 45, 46, 47, 48, 49, 50, 51, 52, 53, 54, 55, 56, 57, 58, 59, 60, 61, 62, 63, 64, 65, 66, 67, 68, 69, 70] (by decide +kernel) (by decide +kernel)
set_option maxRecDepth 20000 in
theorem gX9_fits_X9_isFit : GoodIn wsX9_fits (wsV RX9 183 RX9 yX9_isFit wsX9_isFit) := goodIn_app (goodIn_of _ (by decide +kernel)) ggX9_fits_X9_isFit
theorem dX9_fits_0 : decode cX9_fits 0 = .ok (.aload_n 0, 1) := by decide +kernel
theorem dX9_fits_1 : decode cX9_fits 1 = .ok (.iload_n 1, 1) := by decide +kernel
theorem dX9_fits_2 : decode cX9_fits 2 = .ok (.invokevirtual 187, 3) := by decide +kernel
theorem dX9_fits_5 : decode cX9_fits 5 = .ok (.ifCond .eq 23, 3) := by decide +kernel
theorem dX9_fits_8 : decode cX9_fits 8 = .ok (.aload_n 0, 1) := by decide +kernel
theorem dX9_fits_9 : decode cX9_fits 9 = .ok (.iload_n 2, 1) := by decide +kernel
theorem dX9_fits_10 : decode cX9_fits 10 = .ok (.invokestatic 79, 3) := by decide +kernel
theorem dX9_fits_13 : decode cX9_fits 13 = .ok (.ifCond .ne 7, 3) := by decide +kernel
theorem dX9_fits_16 : decode cX9_fits 16 = .ok (.iconst 1, 1) := by decide +kernel
theorem dX9_fits_17 : decode cX9_fits 17 = .ok (.goto 4, 3) := by decide +kernel
theorem dX9_fits_20 : decode cX9_fits 20 = .ok (.iconst 0, 1) := by decide +kernel
theorem dX9_fits_21 : decode cX9_fits 21 = .ok (.iconst 2, 1) := by decide +kernel
theorem dX9_fits_22 : decode cX9_fits 22 = .ok (.invokevirtual 65, 3) := by decide +kernel
theorem dX9_fits_25 : decode cX9_fits 25 = .ok (.ifCond .eq 5, 3) := by decide +kernel
theorem dX9_fits_28 : decode cX9_fits 28 = .ok (.iconst 0, 1) := by decide +kernel
theorem dX9_fits_29 : decode cX9_fits 29 = .ok (.ireturn, 1) := by decide +kernel
theorem dX9_fits_30 : decode cX9_fits 30 = .ok (.aload_n 0, 1) := by decide +kernel
theorem dX9_fits_31 : decode cX9_fits 31 = .ok (.iload_n 1, 1) := by decide +kernel
theorem dX9_fits_32 : decode cX9_fits 32 = .ok (.iload_n 2, 1) := by decide +kernel
theorem dX9_fits_33 : decode cX9_fits 33 = .ok (.invokevirtual 183, 3) := by decide +kernel
theorem dX9_fits_36 : decode cX9_fits 36 = .ok (.ireturn, 1) := by decide +kernel
set_option maxRecDepth 20000 in
theorem ggX9_distance_X9_bad : GoodIn wsX9_distance wsX9_bad := goodIn_r _ [14, 1, 15, 16, 17, 18, 19, 20, 21, 22, 23, 24, 25, 26, 27, 28, 29, 30, 31, 32, 33, 34, 35, 36, 37, 38, 39, 40, 41, 42, 43, 44, 45, 46, 47] (by decide +kernel) (by decide +kernel)
set_option maxRecDepth 20000 in
theorem gX9_distance_X9_bad : GoodIn wsX9_distance (wsV RX9 65 RX9 yX9_bad wsX9_bad) := goodIn_app (goodIn_of _ (by decide +kernel)) ggX9_distance_X9_bad
theorem dX9_distance_0 : decode cX9_distance 0 = .ok (.aload_n 0, 1) := by decide +kernel
theorem dX9_distance_1 : decode cX9_distance 1 = .ok (.iconst 0, 1) := by decide +kernel
theorem dX9_distance_2 : decode cX9_distance 2 = .ok (.putfield 61, 3) := by decide +kernel
theorem dX9_distance_5 : decode cX9_distance 5 = .ok (.aload_n 0, 1) := by decide +kernel
theorem dX9_distance_6 : decode cX9_distance 6 = .ok (.iload_n 1, 1) := by decide +kernel
theorem dX9_distance_7 : decode cX9_distance 7 = .ok (.ifCond .lt 23, 3) := by decide +kernel
theorem dX9_distance_10 : decode cX9_distance 10 = .ok (.iload_n 1, 1) := by decide +kernel
theorem dX9_distance_11 : decode cX9_distance 11 = .ok (.aload_n 0, 1) := by decide +kernel
theorem dX9_distance_12 : decode cX9_distance 12 = .ok (.getfield 163, 3) := by decide +kernel
theorem dX9_distance_15 : decode cX9_distance 15 = .ok (.if_icmp .ge 15, 3) := by decide +kernel
theorem dX9_distance_18 : decode cX9_distance 18 = .ok (.iload_n 2, 1) := by decide +kernel
theorem dX9_distance_19 : decode cX9_distance 19 = .ok (.ifCond .lt 11, 3) := by decide +kernel
theorem dX9_distance_22 : decode cX9_distance 22 = .ok (.iload_n 2, 1) := by decide +kernel
theorem dX9_distance_23 : decode cX9_distance 23 = .ok (.aload_n 0, 1) := by decide +kernel
theorem dX9_distance_24 : decode cX9_distance 24 = .ok (.getfield 163, 3) := by decide +kernel
theorem dX9_distance_27 : decode cX9_distance 27 = .ok (.if_icmp .lt 7, 3) := by decide +kernel
theorem dX9_distance_30 : decode cX9_distance 30 = .ok (.iconst 1, 1) := by decide +kernel
theorem dX9_distance_31 : decode cX9_distance 31 = .ok (.goto 4, 3) := by decide +kernel
theorem dX9_distance_34 : decode cX9_distance 34 = .ok (.iconst 0, 1) := by decide +kernel
theorem dX9_distance_35 : decode cX9_distance 35 = .ok (.iconst 1, 1) := by decide +kernel
theorem dX9_distance_36 : decode cX9_distance 36 = .ok (.invokevirtual 65, 3) := by decide +kernel
theorem dX9_distance_39 : decode cX9_distance 39 = .ok (.ifCond .ne 55, 3) := by decide +kernel
theorem dX9_distance_42 : decode cX9_distance 42 = .ok (.aload_n 0, 1) := by decide +kernel
theorem dX9_distance_43 : decode cX9_distance 43 = .ok (.iload_n 1, 1) := by decide +kernel
theorem dX9_distance_44 : decode cX9_distance 44 = .ok (.iload_n 2, 1) := by decide +kernel
theorem dX9_distance_45 : decode cX9_distance 45 = .ok (.if_icmp .eq 15, 3) := by decide +kernel
theorem dX9_distance_48 : decode cX9_distance 48 = .ok (.iload_n 3, 1) := by decide +kernel
theorem dX9_distance_49 : decode cX9_distance 49 = .ok (.ldc 190, 2) := by decide +kernel
theorem dX9_distance_51 : decode cX9_distance 51 = .ok (.if_icmp .lt 9, 3) := by decide +kernel
theorem dX9_distance_54 : decode cX9_distance 54 = .ok (.iload_n 3, 1) := by decide +kernel
theorem dX9_distance_55 : decode cX9_distance 55 = .ok (.ldc 191, 2) := by decide +kernel
theorem dX9_distance_57 : decode cX9_distance 57 = .ok (.if_icmp .le 7, 3) := by decide +kernel
theorem dX9_distance_60 : decode cX9_distance 60 = .ok (.iconst 1, 1) := by decide +kernel
theorem dX9_distance_61 : decode cX9_distance 61 = .ok (.goto 4, 3) := by decide +kernel
theorem dX9_distance_64 : decode cX9_distance 64 = .ok (.iconst 0, 1) := by decide +kernel
theorem dX9_distance_65 : decode cX9_distance 65 = .ok (.iconst 2, 1) := by decide +kernel
theorem dX9_distance_66 : decode cX9_distance 66 = .ok (.invokevirtual 65, 3) := by decide +kernel
theorem dX9_distance_69 : decode cX9_distance 69 = .ok (.ifCond .ne 25, 3) := by decide +kernel
theorem dX9_distance_72 : decode cX9_distance 72 = .ok (.aload_n 0, 1) := by decide +kernel
theorem dX9_distance_73 : decode cX9_distance 73 = .ok (.aload_n 0, 1) := by decide +kernel
theorem dX9_distance_74 : decode cX9_distance 74 = .ok (.getfield 192, 3) := by decide +kernel
theorem dX9_distance_77 : decode cX9_distance 77 = .ok (.bipush 12, 2) := by decide +kernel
theorem dX9_distance_79 : decode cX9_distance 79 = .ok (.if_icmp .ne 7, 3) := by decide +kernel
theorem dX9_distance_82 : decode cX9_distance 82 = .ok (.iconst 1, 1) := by decide +kernel
theorem dX9_distance_83 : decode cX9_distance 83 = .ok (.goto 4, 3) := by decide +kernel
theorem dX9_distance_86 : decode cX9_distance 86 = .ok (.iconst 0, 1) := by decide +kernel
theorem dX9_distance_87 : decode cX9_distance 87 = .ok (.iconst 3, 1) := by decide +kernel
theorem dX9_distance_88 : decode cX9_distance 88 = .ok (.invokevirtual 65, 3) := by decide +kernel
theorem dX9_distance_91 : decode cX9_distance 91 = .ok (.ifCond .eq 5, 3) := by decide +kernel
theorem dX9_distance_94 : decode cX9_distance 94 = .ok (.iconst 0, 1) := by decide +kernel
theorem dX9_distance_95 : decode cX9_distance 95 = .ok (.ireturn, 1) := by decide +kernel
theorem dX9_distance_96 : decode cX9_distance 96 = .ok (.aload_n 0, 1) := by decide +kernel
theorem dX9_distance_97 : decode cX9_distance 97 = .ok (.getfield 33, 3) := by decide +kernel
theorem dX9_distance_100 : decode cX9_distance 100 = .ok (.aload_n 0, 1) := by decide +kernel
theorem dX9_distance_101 : decode cX9_distance 101 = .ok (.getfield 192, 3) := by decide +kernel
theorem dX9_distance_104 : decode cX9_distance 104 = .ok (.iload_n 1, 1) := by decide +kernel
theorem dX9_distance_105 : decode cX9_distance 105 = .ok (.iastore, 1) := by decide +kernel
theorem dX9_distance_106 : decode cX9_distance 106 = .ok (.aload_n 0, 1) := by decide +kernel
theorem dX9_distance_107 : decode cX9_distance 107 = .ok (.getfield 36, 3) := by decide +kernel
theorem dX9_distance_110 : decode cX9_distance 110 = .ok (.aload_n 0, 1) := by decide +kernel
theorem dX9_distance_111 : decode cX9_distance 111 = .ok (.getfield 192, 3) := by decide +kernel
theorem dX9_distance_114 : decode cX9_distance 114 = .ok (.iload_n 2, 1) := by decide +kernel
theorem dX9_distance_115 : decode cX9_distance 115 = .ok (.iastore, 1) := by decide +kernel
theorem dX9_distance_116 : decode cX9_distance 116 = .ok (.aload_n 0, 1) := by decide +kernel
theorem dX9_distance_117 : decode cX9_distance 117 = .ok (.getfield 39, 3) := by decide +kernel
theorem dX9_distance_120 : decode cX9_distance 120 = .ok (.aload_n 0, 1) := by decide +kernel
theorem dX9_distance_121 : decode cX9_distance 121 = .ok (.getfield 192, 3) := by decide +kernel
theorem dX9_distance_124 : decode cX9_distance 124 = .ok (.iload_n 3, 1) := by decide +kernel
theorem dX9_distance_125 : decode cX9_distance 125 = .ok (.iastore, 1) := by decide +kernel
theorem dX9_distance_126 : decode cX9_distance 126 = .ok (.aload_n 0, 1) := by decide +kernel
theorem dX9_distance_127 : decode cX9_distance 127 = .ok (.dup, 1) := by decide +kernel
theorem dX9_distance_128 : decode cX9_distance 128 = .ok (.getfield 192, 3) := by decide +kernel
theorem dX9_distance_131 : decode cX9_distance 131 = .ok (.iconst 1, 1) := by decide +kernel
theorem dX9_distance_132 : decode cX9_distance 132 = .ok (.iadd, 1) := by decide +kernel
theorem dX9_distance_133 : decode cX9_distance 133 = .ok (.putfield 192, 3) := by decide +kernel
theorem dX9_distance_136 : decode cX9_distance 136 = .ok (.aload_n 0, 1) := by decide +kernel
theorem dX9_distance_137 : decode cX9_distance 137 = .ok (.iconst 0, 1) := by decide +kernel
theorem dX9_distance_138 : decode cX9_distance 138 = .ok (.putfield 176, 3) := by decide +kernel
theorem dX9_distance_141 : decode cX9_distance 141 = .ok (.aload_n 0, 1) := by decide +kernel
theorem dX9_distance_142 : decode cX9_distance 142 = .ok (.getfield 192, 3) := by decide +kernel
theorem dX9_distance_145 : decode cX9_distance 145 = .ok (.iconst 1, 1) := by decide +kernel
theorem dX9_distance_146 : decode cX9_distance 146 = .ok (.isub, 1) := by decide +kernel
theorem dX9_distance_147 : decode cX9_distance 147 = .ok (.ireturn, 1) := by decide +kernel
theorem dX9_inNet_0 : decode cX9_inNet 0 = .ok (.aload_n 0, 1) := by decide +kernel
theorem dX9_inNet_1 : decode cX9_inNet 1 = .ok (.getfield 27, 3) := by decide +kernel
theorem dX9_inNet_4 : decode cX9_inNet 4 = .ok (.iload_n 1, 1) := by decide +kernel
theorem dX9_inNet_5 : decode cX9_inNet 5 = .ok (.iaload, 1) := by decide +kernel
theorem dX9_inNet_6 : decode cX9_inNet 6 = .ok (.iconst 1, 1) := by decide +kernel
theorem dX9_inNet_7 : decode cX9_inNet 7 = .ok (.if_icmp .lt 19, 3) := by decide +kernel
theorem dX9_inNet_10 : decode cX9_inNet 10 = .ok (.aload_n 0, 1) := by decide +kernel
theorem dX9_inNet_11 : decode cX9_inNet 11 = .ok (.getfield 27, 3) := by decide +kernel
theorem dX9_inNet_14 : decode cX9_inNet 14 = .ok (.iload_n 1, 1) := by decide +kernel
theorem dX9_inNet_15 : decode cX9_inNet 15 = .ok (.iaload, 1) := by decide +kernel
theorem dX9_inNet_16 : decode cX9_inNet 16 = .ok (.sipush 300, 3) := by decide +kernel
theorem dX9_inNet_19 : decode cX9_inNet 19 = .ok (.if_icmp .gt 7, 3) := by decide +kernel
theorem dX9_inNet_22 : decode cX9_inNet 22 = .ok (.iconst 1, 1) := by decide +kernel
theorem dX9_inNet_23 : decode cX9_inNet 23 = .ok (.goto 4, 3) := by decide +kernel
theorem dX9_inNet_26 : decode cX9_inNet 26 = .ok (.iconst 0, 1) := by decide +kernel
theorem dX9_inNet_27 : decode cX9_inNet 27 = .ok (.ireturn, 1) := by decide +kernel
theorem dX9_isAskedWrong_0 : decode cX9_isAskedWrong 0 = .ok (.iload_n 2, 1) := by decide +kernel
theorem dX9_isAskedWrong_1 : decode cX9_isAskedWrong 1 = .ok (.aload_n 0, 1) := by decide +kernel
theorem dX9_isAskedWrong_2 : decode cX9_isAskedWrong 2 = .ok (.getfield 195, 3) := by decide +kernel
theorem dX9_isAskedWrong_5 : decode cX9_isAskedWrong 5 = .ok (.iconst 1, 1) := by decide +kernel
theorem dX9_isAskedWrong_6 : decode cX9_isAskedWrong 6 = .ok (.isub, 1) := by decide +kernel
theorem dX9_isAskedWrong_7 : decode cX9_isAskedWrong 7 = .ok (.iload_n 1, 1) := by decide +kernel
theorem dX9_isAskedWrong_8 : decode cX9_isAskedWrong 8 = .ok (.isub, 1) := by decide +kernel
theorem dX9_isAskedWrong_9 : decode cX9_isAskedWrong 9 = .ok (.ishr, 1) := by decide +kernel
theorem dX9_isAskedWrong_10 : decode cX9_isAskedWrong 10 = .ok (.iconst 1, 1) := by decide +kernel
theorem dX9_isAskedWrong_11 : decode cX9_isAskedWrong 11 = .ok (.iand, 1) := by decide +kernel
theorem dX9_isAskedWrong_12 : decode cX9_isAskedWrong 12 = .ok (.iconst 1, 1) := by decide +kernel
theorem dX9_isAskedWrong_13 : decode cX9_isAskedWrong 13 = .ok (.if_icmp .ne 7, 3) := by decide +kernel
theorem dX9_isAskedWrong_16 : decode cX9_isAskedWrong 16 = .ok (.iconst 1, 1) := by decide +kernel
theorem dX9_isAskedWrong_17 : decode cX9_isAskedWrong 17 = .ok (.goto 4, 3) := by decide +kernel
theorem dX9_isAskedWrong_20 : decode cX9_isAskedWrong 20 = .ok (.iconst 0, 1) := by decide +kernel
theorem dX9_isAskedWrong_21 : decode cX9_isAskedWrong 21 = .ok (.ireturn, 1) := by decide +kernel
set_option maxRecDepth 20000 in
theorem ggX9_joins_X9_isAskedWrong : GoodIn wsX9_joins wsX9_isAskedWrong := goodIn_r _ [13, 4, 14, 15, 16, 17, 18, 19, 20, 21, 22, 23, 24, 25, 26, 27, 28, 29, 30, 31, 32, 33, 34, 35, 36, 37, 38, 39, 40, 41, 42, 43, 44, 45, 46] (by decide +kernel) (by decide +kernel)
set_option maxRecDepth 20000 in
theorem gX9_joins_X9_isAskedWrong : GoodIn wsX9_joins (wsV RX9 198 RX9 yX9_isAskedWrong wsX9_isAskedWrong) := goodIn_app (goodIn_of _ (by decide +kernel)) ggX9_joins_X9_isAskedWrong
theorem dX9_joins_0 : decode cX9_joins 0 = .ok (.iconst 0, 1) := by decide +kernel
theorem dX9_joins_1 : decode cX9_joins 1 = .ok (.istore_n 2, 1) := by decide +kernel
theorem dX9_joins_2 : decode cX9_joins 2 = .ok (.iload_n 2, 1) := by decide +kernel
theorem dX9_joins_3 : decode cX9_joins 3 = .ok (.aload_n 0, 1) := by decide +kernel
theorem dX9_joins_4 : decode cX9_joins 4 = .ok (.getfield 163, 3) := by decide +kernel
theorem dX9_joins_7 : decode cX9_joins 7 = .ok (.if_icmp .ge 23, 3) := by decide +kernel
theorem dX9_joins_10 : decode cX9_joins 10 = .ok (.aload_n 0, 1) := by decide +kernel
theorem dX9_joins_11 : decode cX9_joins 11 = .ok (.getfield 45, 3) := by decide +kernel
theorem dX9_joins_14 : decode cX9_joins 14 = .ok (.iload_n 2, 1) := by decide +kernel
theorem dX9_joins_15 : decode cX9_joins 15 = .ok (.iload_n 2, 1) := by decide +kernel
theorem dX9_joins_16 : decode cX9_joins 16 = .ok (.iastore, 1) := by decide +kernel
theorem dX9_joins_17 : decode cX9_joins 17 = .ok (.aload_n 0, 1) := by decide +kernel
theorem dX9_joins_18 : decode cX9_joins 18 = .ok (.getfield 48, 3) := by decide +kernel
theorem dX9_joins_21 : decode cX9_joins 21 = .ok (.iload_n 2, 1) := by decide +kernel
theorem dX9_joins_22 : decode cX9_joins 22 = .ok (.iconst 0, 1) := by decide +kernel
theorem dX9_joins_23 : decode cX9_joins 23 = .ok (.iastore, 1) := by decide +kernel
theorem dX9_joins_24 : decode cX9_joins 24 = .ok (.iinc 2 1, 3) := by decide +kernel
theorem dX9_joins_27 : decode cX9_joins 27 = .ok (.goto (-25), 3) := by decide +kernel
theorem dX9_joins_30 : decode cX9_joins 30 = .ok (.iconst 0, 1) := by decide +kernel
theorem dX9_joins_31 : decode cX9_joins 31 = .ok (.istore_n 2, 1) := by decide +kernel
theorem dX9_joins_32 : decode cX9_joins 32 = .ok (.iload_n 2, 1) := by decide +kernel
theorem dX9_joins_33 : decode cX9_joins 33 = .ok (.aload_n 0, 1) := by decide +kernel
theorem dX9_joins_34 : decode cX9_joins 34 = .ok (.getfield 195, 3) := by decide +kernel
theorem dX9_joins_37 : decode cX9_joins 37 = .ok (.if_icmp .ge 160, 3) := by decide +kernel
theorem dX9_joins_40 : decode cX9_joins 40 = .ok (.aload_n 0, 1) := by decide +kernel
theorem dX9_joins_41 : decode cX9_joins 41 = .ok (.iload_n 2, 1) := by decide +kernel
theorem dX9_joins_42 : decode cX9_joins 42 = .ok (.iload_n 1, 1) := by decide +kernel
theorem dX9_joins_43 : decode cX9_joins 43 = .ok (.invokevirtual 198, 3) := by decide +kernel
theorem dX9_joins_46 : decode cX9_joins 46 = .ok (.ifCond .eq 6, 3) := by decide +kernel
theorem dX9_joins_49 : decode cX9_joins 49 = .ok (.goto 142, 3) := by decide +kernel
theorem dX9_joins_52 : decode cX9_joins 52 = .ok (.aload_n 0, 1) := by decide +kernel
theorem dX9_joins_53 : decode cX9_joins 53 = .ok (.getfield 42, 3) := by decide +kernel
theorem dX9_joins_56 : decode cX9_joins 56 = .ok (.iload_n 2, 1) := by decide +kernel
theorem dX9_joins_57 : decode cX9_joins 57 = .ok (.iaload, 1) := by decide +kernel
theorem dX9_joins_58 : decode cX9_joins 58 = .ok (.istore_n 3, 1) := by decide +kernel
theorem dX9_joins_59 : decode cX9_joins 59 = .ok (.aload_n 0, 1) := by decide +kernel
theorem dX9_joins_60 : decode cX9_joins 60 = .ok (.getfield 33, 3) := by decide +kernel
theorem dX9_joins_63 : decode cX9_joins 63 = .ok (.iload_n 3, 1) := by decide +kernel
theorem dX9_joins_64 : decode cX9_joins 64 = .ok (.iaload, 1) := by decide +kernel
theorem dX9_joins_65 : decode cX9_joins 65 = .ok (.istore 4, 2) := by decide +kernel
theorem dX9_joins_67 : decode cX9_joins 67 = .ok (.aload_n 0, 1) := by decide +kernel
theorem dX9_joins_68 : decode cX9_joins 68 = .ok (.getfield 36, 3) := by decide +kernel
theorem dX9_joins_71 : decode cX9_joins 71 = .ok (.iload_n 3, 1) := by decide +kernel
theorem dX9_joins_72 : decode cX9_joins 72 = .ok (.iaload, 1) := by decide +kernel
theorem dX9_joins_73 : decode cX9_joins 73 = .ok (.istore 5, 2) := by decide +kernel
theorem dX9_joins_75 : decode cX9_joins 75 = .ok (.aload_n 0, 1) := by decide +kernel
theorem dX9_joins_76 : decode cX9_joins 76 = .ok (.getfield 48, 3) := by decide +kernel
theorem dX9_joins_79 : decode cX9_joins 79 = .ok (.iload 4, 2) := by decide +kernel
theorem dX9_joins_81 : decode cX9_joins 81 = .ok (.iaload, 1) := by decide +kernel
theorem dX9_joins_82 : decode cX9_joins 82 = .ok (.aload_n 0, 1) := by decide +kernel
theorem dX9_joins_83 : decode cX9_joins 83 = .ok (.getfield 39, 3) := by decide +kernel
theorem dX9_joins_86 : decode cX9_joins 86 = .ok (.iload_n 3, 1) := by decide +kernel
theorem dX9_joins_87 : decode cX9_joins 87 = .ok (.iaload, 1) := by decide +kernel
theorem dX9_joins_88 : decode cX9_joins 88 = .ok (.iadd, 1) := by decide +kernel
theorem dX9_joins_89 : decode cX9_joins 89 = .ok (.aload_n 0, 1) := by decide +kernel
theorem dX9_joins_90 : decode cX9_joins 90 = .ok (.getfield 48, 3) := by decide +kernel
theorem dX9_joins_93 : decode cX9_joins 93 = .ok (.iload 5, 2) := by decide +kernel
theorem dX9_joins_95 : decode cX9_joins 95 = .ok (.iaload, 1) := by decide +kernel
theorem dX9_joins_96 : decode cX9_joins 96 = .ok (.isub, 1) := by decide +kernel
theorem dX9_joins_97 : decode cX9_joins 97 = .ok (.istore 6, 2) := by decide +kernel
theorem dX9_joins_99 : decode cX9_joins 99 = .ok (.aload_n 0, 1) := by decide +kernel
theorem dX9_joins_100 : decode cX9_joins 100 = .ok (.getfield 45, 3) := by decide +kernel
theorem dX9_joins_103 : decode cX9_joins 103 = .ok (.iload 4, 2) := by decide +kernel
theorem dX9_joins_105 : decode cX9_joins 105 = .ok (.iaload, 1) := by decide +kernel
theorem dX9_joins_106 : decode cX9_joins 106 = .ok (.aload_n 0, 1) := by decide +kernel
theorem dX9_joins_107 : decode cX9_joins 107 = .ok (.getfield 45, 3) := by decide +kernel
theorem dX9_joins_110 : decode cX9_joins 110 = .ok (.iload 5, 2) := by decide +kernel
theorem dX9_joins_112 : decode cX9_joins 112 = .ok (.iaload, 1) := by decide +kernel
theorem dX9_joins_113 : decode cX9_joins 113 = .ok (.if_icmp .ne 10, 3) := by decide +kernel
theorem dX9_joins_116 : decode cX9_joins 116 = .ok (.iload 6, 2) := by decide +kernel
theorem dX9_joins_118 : decode cX9_joins 118 = .ok (.ifCond .eq 73, 3) := by decide +kernel
theorem dX9_joins_121 : decode cX9_joins 121 = .ok (.iconst 0, 1) := by decide +kernel
theorem dX9_joins_122 : decode cX9_joins 122 = .ok (.ireturn, 1) := by decide +kernel
theorem dX9_joins_123 : decode cX9_joins 123 = .ok (.aload_n 0, 1) := by decide +kernel
theorem dX9_joins_124 : decode cX9_joins 124 = .ok (.getfield 45, 3) := by decide +kernel
theorem dX9_joins_127 : decode cX9_joins 127 = .ok (.iload 5, 2) := by decide +kernel
theorem dX9_joins_129 : decode cX9_joins 129 = .ok (.iaload, 1) := by decide +kernel
theorem dX9_joins_130 : decode cX9_joins 130 = .ok (.istore 7, 2) := by decide +kernel
theorem dX9_joins_132 : decode cX9_joins 132 = .ok (.iconst 0, 1) := by decide +kernel
theorem dX9_joins_133 : decode cX9_joins 133 = .ok (.istore 8, 2) := by decide +kernel
theorem dX9_joins_135 : decode cX9_joins 135 = .ok (.iload 8, 2) := by decide +kernel
theorem dX9_joins_137 : decode cX9_joins 137 = .ok (.aload_n 0, 1) := by decide +kernel
theorem dX9_joins_138 : decode cX9_joins 138 = .ok (.getfield 163, 3) := by decide +kernel
theorem dX9_joins_141 : decode cX9_joins 141 = .ok (.if_icmp .ge 50, 3) := by decide +kernel
theorem dX9_joins_144 : decode cX9_joins 144 = .ok (.aload_n 0, 1) := by decide +kernel
theorem dX9_joins_145 : decode cX9_joins 145 = .ok (.getfield 45, 3) := by decide +kernel
theorem dX9_joins_148 : decode cX9_joins 148 = .ok (.iload 8, 2) := by decide +kernel
theorem dX9_joins_150 : decode cX9_joins 150 = .ok (.iaload, 1) := by decide +kernel
theorem dX9_joins_151 : decode cX9_joins 151 = .ok (.iload 7, 2) := by decide +kernel
theorem dX9_joins_153 : decode cX9_joins 153 = .ok (.if_icmp .eq 6, 3) := by decide +kernel
theorem dX9_joins_156 : decode cX9_joins 156 = .ok (.goto 29, 3) := by decide +kernel
theorem dX9_joins_159 : decode cX9_joins 159 = .ok (.aload_n 0, 1) := by decide +kernel
theorem dX9_joins_160 : decode cX9_joins 160 = .ok (.getfield 45, 3) := by decide +kernel
theorem dX9_joins_163 : decode cX9_joins 163 = .ok (.iload 8, 2) := by decide +kernel
theorem dX9_joins_165 : decode cX9_joins 165 = .ok (.aload_n 0, 1) := by decide +kernel
theorem dX9_joins_166 : decode cX9_joins 166 = .ok (.getfield 45, 3) := by decide +kernel
theorem dX9_joins_169 : decode cX9_joins 169 = .ok (.iload 4, 2) := by decide +kernel
theorem dX9_joins_171 : decode cX9_joins 171 = .ok (.iaload, 1) := by decide +kernel
theorem dX9_joins_172 : decode cX9_joins 172 = .ok (.iastore, 1) := by decide +kernel
theorem dX9_joins_173 : decode cX9_joins 173 = .ok (.aload_n 0, 1) := by decide +kernel
theorem dX9_joins_174 : decode cX9_joins 174 = .ok (.getfield 48, 3) := by decide +kernel
theorem dX9_joins_177 : decode cX9_joins 177 = .ok (.iload 8, 2) := by decide +kernel
theorem dX9_joins_179 : decode cX9_joins 179 = .ok (.dup2, 1) := by decide +kernel
theorem dX9_joins_180 : decode cX9_joins 180 = .ok (.iaload, 1) := by decide +kernel
theorem dX9_joins_181 : decode cX9_joins 181 = .ok (.iload 6, 2) := by decide +kernel
theorem dX9_joins_183 : decode cX9_joins 183 = .ok (.iadd, 1) := by decide +kernel
theorem dX9_joins_184 : decode cX9_joins 184 = .ok (.iastore, 1) := by decide +kernel
theorem dX9_joins_185 : decode cX9_joins 185 = .ok (.iinc 8 1, 3) := by decide +kernel
theorem dX9_joins_188 : decode cX9_joins 188 = .ok (.goto (-53), 3) := by decide +kernel
theorem dX9_joins_191 : decode cX9_joins 191 = .ok (.iinc 2 1, 3) := by decide +kernel
theorem dX9_joins_194 : decode cX9_joins 194 = .ok (.goto (-162), 3) := by decide +kernel
theorem dX9_joins_197 : decode cX9_joins 197 = .ok (.iconst 1, 1) := by decide +kernel
theorem dX9_joins_198 : decode cX9_joins 198 = .ok (.ireturn, 1) := by decide +kernel
theorem dX9_hasDay_0 : decode cX9_hasDay 0 = .ok (.iconst 0, 1) := by decide +kernel
theorem dX9_hasDay_1 : decode cX9_hasDay 1 = .ok (.istore_n 3, 1) := by decide +kernel
theorem dX9_hasDay_2 : decode cX9_hasDay 2 = .ok (.aload_n 0, 1) := by decide +kernel
theorem dX9_hasDay_3 : decode cX9_hasDay 3 = .ok (.getfield 27, 3) := by decide +kernel
theorem dX9_hasDay_6 : decode cX9_hasDay 6 = .ok (.iload_n 1, 1) := by decide +kernel
theorem dX9_hasDay_7 : decode cX9_hasDay 7 = .ok (.iaload, 1) := by decide +kernel
theorem dX9_hasDay_8 : decode cX9_hasDay 8 = .ok (.iconst 1, 1) := by decide +kernel
theorem dX9_hasDay_9 : decode cX9_hasDay 9 = .ok (.isub, 1) := by decide +kernel
theorem dX9_hasDay_10 : decode cX9_hasDay 10 = .ok (.istore 4, 2) := by decide +kernel
theorem dX9_hasDay_12 : decode cX9_hasDay 12 = .ok (.iload_n 3, 1) := by decide +kernel
theorem dX9_hasDay_13 : decode cX9_hasDay 13 = .ok (.iload 4, 2) := by decide +kernel
theorem dX9_hasDay_15 : decode cX9_hasDay 15 = .ok (.if_icmp .ge 43, 3) := by decide +kernel
theorem dX9_hasDay_18 : decode cX9_hasDay 18 = .ok (.iload_n 3, 1) := by decide +kernel
theorem dX9_hasDay_19 : decode cX9_hasDay 19 = .ok (.iload 4, 2) := by decide +kernel
theorem dX9_hasDay_21 : decode cX9_hasDay 21 = .ok (.iadd, 1) := by decide +kernel
theorem dX9_hasDay_22 : decode cX9_hasDay 22 = .ok (.iconst 2, 1) := by decide +kernel
theorem dX9_hasDay_23 : decode cX9_hasDay 23 = .ok (.idiv, 1) := by decide +kernel
theorem dX9_hasDay_24 : decode cX9_hasDay 24 = .ok (.istore 5, 2) := by decide +kernel
theorem dX9_hasDay_26 : decode cX9_hasDay 26 = .ok (.aload_n 0, 1) := by decide +kernel
theorem dX9_hasDay_27 : decode cX9_hasDay 27 = .ok (.getfield 30, 3) := by decide +kernel
theorem dX9_hasDay_30 : decode cX9_hasDay 30 = .ok (.sipush 300, 3) := by decide +kernel
theorem dX9_hasDay_33 : decode cX9_hasDay 33 = .ok (.iload_n 1, 1) := by decide +kernel
theorem dX9_hasDay_34 : decode cX9_hasDay 34 = .ok (.imul, 1) := by decide +kernel
theorem dX9_hasDay_35 : decode cX9_hasDay 35 = .ok (.iload 5, 2) := by decide +kernel
theorem dX9_hasDay_37 : decode cX9_hasDay 37 = .ok (.iadd, 1) := by decide +kernel
theorem dX9_hasDay_38 : decode cX9_hasDay 38 = .ok (.iaload, 1) := by decide +kernel
theorem dX9_hasDay_39 : decode cX9_hasDay 39 = .ok (.iload_n 2, 1) := by decide +kernel
theorem dX9_hasDay_40 : decode cX9_hasDay 40 = .ok (.if_icmp .ge 11, 3) := by decide +kernel
theorem dX9_hasDay_43 : decode cX9_hasDay 43 = .ok (.iload 5, 2) := by decide +kernel
theorem dX9_hasDay_45 : decode cX9_hasDay 45 = .ok (.iconst 1, 1) := by decide +kernel
theorem dX9_hasDay_46 : decode cX9_hasDay 46 = .ok (.iadd, 1) := by decide +kernel
theorem dX9_hasDay_47 : decode cX9_hasDay 47 = .ok (.istore_n 3, 1) := by decide +kernel
theorem dX9_hasDay_48 : decode cX9_hasDay 48 = .ok (.goto 7, 3) := by decide +kernel
theorem dX9_hasDay_51 : decode cX9_hasDay 51 = .ok (.iload 5, 2) := by decide +kernel
theorem dX9_hasDay_53 : decode cX9_hasDay 53 = .ok (.istore 4, 2) := by decide +kernel
theorem dX9_hasDay_55 : decode cX9_hasDay 55 = .ok (.goto (-43), 3) := by decide +kernel
theorem dX9_hasDay_58 : decode cX9_hasDay 58 = .ok (.aload_n 0, 1) := by decide +kernel
theorem dX9_hasDay_59 : decode cX9_hasDay 59 = .ok (.getfield 30, 3) := by decide +kernel
theorem dX9_hasDay_62 : decode cX9_hasDay 62 = .ok (.sipush 300, 3) := by decide +kernel
theorem dX9_hasDay_65 : decode cX9_hasDay 65 = .ok (.iload_n 1, 1) := by decide +kernel
theorem dX9_hasDay_66 : decode cX9_hasDay 66 = .ok (.imul, 1) := by decide +kernel
theorem dX9_hasDay_67 : decode cX9_hasDay 67 = .ok (.iload_n 3, 1) := by decide +kernel
theorem dX9_hasDay_68 : decode cX9_hasDay 68 = .ok (.iadd, 1) := by decide +kernel
theorem dX9_hasDay_69 : decode cX9_hasDay 69 = .ok (.iaload, 1) := by decide +kernel
theorem dX9_hasDay_70 : decode cX9_hasDay 70 = .ok (.iload_n 2, 1) := by decide +kernel
theorem dX9_hasDay_71 : decode cX9_hasDay 71 = .ok (.if_icmp .ne 7, 3) := by decide +kernel
theorem dX9_hasDay_74 : decode cX9_hasDay 74 = .ok (.iconst 1, 1) := by decide +kernel
theorem dX9_hasDay_75 : decode cX9_hasDay 75 = .ok (.goto 4, 3) := by decide +kernel
theorem dX9_hasDay_78 : decode cX9_hasDay 78 = .ok (.iconst 0, 1) := by decide +kernel
theorem dX9_hasDay_79 : decode cX9_hasDay 79 = .ok (.ireturn, 1) := by decide +kernel
set_option maxRecDepth 20000 in
theorem ggX9_isGood_X9_inNet : GoodIn wsX9_isGood wsX9_inNet := goodIn_r _ [8, 9, 15, 16, 17, 18, 19, 20, 21, 22, 23, 24, 25, 26, 27, 28, 29, 30, 31, 32, 33, 34, 35, 36, 37, 38, 39, 40, 41, 42, 43, 44, 45, 46, 47] (by decide +kernel) (by decide +kernel)
set_option maxRecDepth 20000 in
theorem gX9_isGood_X9_inNet : GoodIn wsX9_isGood (wsV RX9 201 RX9 yX9_inNet wsX9_inNet) := goodIn_app (goodIn_of _ (by decide +kernel)) ggX9_isGood_X9_inNet
set_option maxRecDepth 20000 in
theorem ggX9_isGood_X9_hasDay : GoodIn wsX9_isGood wsX9_hasDay := goodIn_r _ [13, 9, 14, 15, 16, 17, 18, 19, 20, 21, 22, 23, 24, 25, 26, 27, 28, 29, 30, 31, 32, 33, 34, 35, 36, 37, 38, 39, 40, 41, 42, 43, 44, 45, 46, 47] (by decide +kernel) (by decide +kernel)
set_option maxRecDepth 20000 in
theorem gX9_isGood_X9_hasDay : GoodIn wsX9_isGood (wsV RX9 204 RX9 yX9_hasDay wsX9_hasDay) := goodIn_app (goodIn_of _ (by decide +kernel)) ggX9_isGood_X9_hasDay
theorem dX9_isGood_0 : decode cX9_isGood 0 = .ok (.iconst 0, 1) := by decide +kernel
theorem dX9_isGood_1 : decode cX9_isGood 1 = .ok (.istore_n 3, 1) := by decide +kernel
theorem dX9_isGood_2 : decode cX9_isGood 2 = .ok (.iload_n 3, 1) := by decide +kernel
theorem dX9_isGood_3 : decode cX9_isGood 3 = .ok (.aload_n 0, 1) := by decide +kernel
theorem dX9_isGood_4 : decode cX9_isGood 4 = .ok (.getfield 163, 3) := by decide +kernel
theorem dX9_isGood_7 : decode cX9_isGood 7 = .ok (.if_icmp .ge 57, 3) := by decide +kernel
theorem dX9_isGood_10 : decode cX9_isGood 10 = .ok (.aload_n 0, 1) := by decide +kernel
theorem dX9_isGood_11 : decode cX9_isGood 11 = .ok (.getfield 45, 3) := by decide +kernel
theorem dX9_isGood_14 : decode cX9_isGood 14 = .ok (.iload_n 3, 1) := by decide +kernel
theorem dX9_isGood_15 : decode cX9_isGood 15 = .ok (.iaload, 1) := by decide +kernel
theorem dX9_isGood_16 : decode cX9_isGood 16 = .ok (.aload_n 0, 1) := by decide +kernel
theorem dX9_isGood_17 : decode cX9_isGood 17 = .ok (.getfield 45, 3) := by decide +kernel
theorem dX9_isGood_20 : decode cX9_isGood 20 = .ok (.iload_n 1, 1) := by decide +kernel
theorem dX9_isGood_21 : decode cX9_isGood 21 = .ok (.iaload, 1) := by decide +kernel
theorem dX9_isGood_22 : decode cX9_isGood 22 = .ok (.if_icmp .ne 36, 3) := by decide +kernel
theorem dX9_isGood_25 : decode cX9_isGood 25 = .ok (.aload_n 0, 1) := by decide +kernel
theorem dX9_isGood_26 : decode cX9_isGood 26 = .ok (.iload_n 3, 1) := by decide +kernel
theorem dX9_isGood_27 : decode cX9_isGood 27 = .ok (.invokevirtual 201, 3) := by decide +kernel
theorem dX9_isGood_30 : decode cX9_isGood 30 = .ok (.ifCond .eq 28, 3) := by decide +kernel
theorem dX9_isGood_33 : decode cX9_isGood 33 = .ok (.aload_n 0, 1) := by decide +kernel
theorem dX9_isGood_34 : decode cX9_isGood 34 = .ok (.iload_n 3, 1) := by decide +kernel
theorem dX9_isGood_35 : decode cX9_isGood 35 = .ok (.iload_n 2, 1) := by decide +kernel
theorem dX9_isGood_36 : decode cX9_isGood 36 = .ok (.aload_n 0, 1) := by decide +kernel
theorem dX9_isGood_37 : decode cX9_isGood 37 = .ok (.getfield 48, 3) := by decide +kernel
theorem dX9_isGood_40 : decode cX9_isGood 40 = .ok (.iload_n 1, 1) := by decide +kernel
theorem dX9_isGood_41 : decode cX9_isGood 41 = .ok (.iaload, 1) := by decide +kernel
theorem dX9_isGood_42 : decode cX9_isGood 42 = .ok (.isub, 1) := by decide +kernel
theorem dX9_isGood_43 : decode cX9_isGood 43 = .ok (.aload_n 0, 1) := by decide +kernel
theorem dX9_isGood_44 : decode cX9_isGood 44 = .ok (.getfield 48, 3) := by decide +kernel
theorem dX9_isGood_47 : decode cX9_isGood 47 = .ok (.iload_n 3, 1) := by decide +kernel
theorem dX9_isGood_48 : decode cX9_isGood 48 = .ok (.iaload, 1) := by decide +kernel
theorem dX9_isGood_49 : decode cX9_isGood 49 = .ok (.iadd, 1) := by decide +kernel
theorem dX9_isGood_50 : decode cX9_isGood 50 = .ok (.invokevirtual 204, 3) := by decide +kernel
theorem dX9_isGood_53 : decode cX9_isGood 53 = .ok (.ifCond .ne 5, 3) := by decide +kernel
theorem dX9_isGood_56 : decode cX9_isGood 56 = .ok (.iconst 0, 1) := by decide +kernel
theorem dX9_isGood_57 : decode cX9_isGood 57 = .ok (.ireturn, 1) := by decide +kernel
theorem dX9_isGood_58 : decode cX9_isGood 58 = .ok (.iinc 3 1, 3) := by decide +kernel
theorem dX9_isGood_61 : decode cX9_isGood 61 = .ok (.goto (-59), 3) := by decide +kernel
theorem dX9_isGood_64 : decode cX9_isGood 64 = .ok (.iconst 1, 1) := by decide +kernel
theorem dX9_isGood_65 : decode cX9_isGood 65 = .ok (.ireturn, 1) := by decide +kernel
set_option maxRecDepth 20000 in
theorem ggX9_canBe_X9_joins : GoodIn wsX9_canBe wsX9_joins := goodIn_r _ [8, 1, 9, 10, 11, 12, 13, 14, 15, 16, 17, 18, 7, 19, 32, 33, 34, 35, 36, 37, 38, 39, 40, 41, 42, 43, 44, 45, 46, 47, 48, 49, 50, 51, 52, 53, 54, 55, 56, 57, 58, 59, 60, 61, 62, 63, 64] (by decide +kernel) (by decide +kernel)
set_option maxRecDepth 20000 in
theorem gX9_canBe_X9_joins : GoodIn wsX9_canBe (wsV RX9 207 RX9 yX9_joins wsX9_joins) := goodIn_app (goodIn_of _ (by decide +kernel)) ggX9_canBe_X9_joins
set_option maxRecDepth 20000 in
theorem ggX9_canBe_X9_inNet : GoodIn wsX9_canBe wsX9_inNet := goodIn_r _ [23, 2, 32, 33, 34, 35, 36, 37, 38, 39, 40, 41, 42, 43, 44, 45, 46, 47, 48, 49, 50, 51, 52, 53, 54, 55, 56, 57, 58, 59, 60, 61, 62, 63, 64] (by decide +kernel) (by decide +kernel)
set_option maxRecDepth 20000 in
theorem gX9_canBe_X9_inNet : GoodIn wsX9_canBe (wsV RX9 201 RX9 yX9_inNet wsX9_inNet) := goodIn_app (goodIn_of _ (by decide +kernel)) ggX9_canBe_X9_inNet
set_option maxRecDepth 20000 in
theorem ggX9_canBe_X9_isGood : GoodIn wsX9_canBe wsX9_isGood := goodIn_r _ [27, 1, 9, 10, 20, 21, 22, 7, 23, 2, 28, 29, 30, 31, 3, 32, 33, 34, 35, 36, 37, 38, 39, 40, 41, 42, 43, 44, 45, 46, 47, 48, 49, 50, 51, 52, 53, 54, 55, 56, 57, 58, 59, 60, 61, 62, 63, 64] (by decide +kernel) (by decide +kernel)
set_option maxRecDepth 20000 in
theorem gX9_canBe_X9_isGood : GoodIn wsX9_canBe (wsV RX9 210 RX9 yX9_isGood wsX9_isGood) := goodIn_app (goodIn_of _ (by decide +kernel)) ggX9_canBe_X9_isGood
theorem dX9_canBe_0 : decode cX9_canBe 0 = .ok (.aload_n 0, 1) := by decide +kernel
theorem dX9_canBe_1 : decode cX9_canBe 1 = .ok (.iload_n 1, 1) := by decide +kernel
theorem dX9_canBe_2 : decode cX9_canBe 2 = .ok (.invokevirtual 207, 3) := by decide +kernel
theorem dX9_canBe_5 : decode cX9_canBe 5 = .ok (.ifCond .ne 5, 3) := by decide +kernel
theorem dX9_canBe_8 : decode cX9_canBe 8 = .ok (.iconst 0, 1) := by decide +kernel
theorem dX9_canBe_9 : decode cX9_canBe 9 = .ok (.ireturn, 1) := by decide +kernel
theorem dX9_canBe_10 : decode cX9_canBe 10 = .ok (.iconst 0, 1) := by decide +kernel
theorem dX9_canBe_11 : decode cX9_canBe 11 = .ok (.istore_n 2, 1) := by decide +kernel
theorem dX9_canBe_12 : decode cX9_canBe 12 = .ok (.iload_n 2, 1) := by decide +kernel
theorem dX9_canBe_13 : decode cX9_canBe 13 = .ok (.aload_n 0, 1) := by decide +kernel
theorem dX9_canBe_14 : decode cX9_canBe 14 = .ok (.getfield 163, 3) := by decide +kernel
theorem dX9_canBe_17 : decode cX9_canBe 17 = .ok (.if_icmp .ge 71, 3) := by decide +kernel
theorem dX9_canBe_20 : decode cX9_canBe 20 = .ok (.aload_n 0, 1) := by decide +kernel
theorem dX9_canBe_21 : decode cX9_canBe 21 = .ok (.iload_n 2, 1) := by decide +kernel
theorem dX9_canBe_22 : decode cX9_canBe 22 = .ok (.invokevirtual 201, 3) := by decide +kernel
theorem dX9_canBe_25 : decode cX9_canBe 25 = .ok (.ifCond .ne 6, 3) := by decide +kernel
theorem dX9_canBe_28 : decode cX9_canBe 28 = .ok (.goto 54, 3) := by decide +kernel
theorem dX9_canBe_31 : decode cX9_canBe 31 = .ok (.iconst 0, 1) := by decide +kernel
theorem dX9_canBe_32 : decode cX9_canBe 32 = .ok (.istore_n 3, 1) := by decide +kernel
theorem dX9_canBe_33 : decode cX9_canBe 33 = .ok (.iconst 0, 1) := by decide +kernel
theorem dX9_canBe_34 : decode cX9_canBe 34 = .ok (.istore 4, 2) := by decide +kernel
theorem dX9_canBe_36 : decode cX9_canBe 36 = .ok (.iload 4, 2) := by decide +kernel
theorem dX9_canBe_38 : decode cX9_canBe 38 = .ok (.aload_n 0, 1) := by decide +kernel
theorem dX9_canBe_39 : decode cX9_canBe 39 = .ok (.getfield 27, 3) := by decide +kernel
theorem dX9_canBe_42 : decode cX9_canBe 42 = .ok (.iload_n 2, 1) := by decide +kernel
theorem dX9_canBe_43 : decode cX9_canBe 43 = .ok (.iaload, 1) := by decide +kernel
theorem dX9_canBe_44 : decode cX9_canBe 44 = .ok (.if_icmp .ge 32, 3) := by decide +kernel
theorem dX9_canBe_47 : decode cX9_canBe 47 = .ok (.iload_n 3, 1) := by decide +kernel
theorem dX9_canBe_48 : decode cX9_canBe 48 = .ok (.ifCond .ne 28, 3) := by decide +kernel
theorem dX9_canBe_51 : decode cX9_canBe 51 = .ok (.aload_n 0, 1) := by decide +kernel
theorem dX9_canBe_52 : decode cX9_canBe 52 = .ok (.iload_n 2, 1) := by decide +kernel
theorem dX9_canBe_53 : decode cX9_canBe 53 = .ok (.aload_n 0, 1) := by decide +kernel
theorem dX9_canBe_54 : decode cX9_canBe 54 = .ok (.getfield 30, 3) := by decide +kernel
theorem dX9_canBe_57 : decode cX9_canBe 57 = .ok (.sipush 300, 3) := by decide +kernel
theorem dX9_canBe_60 : decode cX9_canBe 60 = .ok (.iload_n 2, 1) := by decide +kernel
theorem dX9_canBe_61 : decode cX9_canBe 61 = .ok (.imul, 1) := by decide +kernel
theorem dX9_canBe_62 : decode cX9_canBe 62 = .ok (.iload 4, 2) := by decide +kernel
theorem dX9_canBe_64 : decode cX9_canBe 64 = .ok (.iadd, 1) := by decide +kernel
theorem dX9_canBe_65 : decode cX9_canBe 65 = .ok (.iaload, 1) := by decide +kernel
theorem dX9_canBe_66 : decode cX9_canBe 66 = .ok (.invokevirtual 210, 3) := by decide +kernel
theorem dX9_canBe_69 : decode cX9_canBe 69 = .ok (.istore_n 3, 1) := by decide +kernel
theorem dX9_canBe_70 : decode cX9_canBe 70 = .ok (.iinc 4 1, 3) := by decide +kernel
theorem dX9_canBe_73 : decode cX9_canBe 73 = .ok (.goto (-37), 3) := by decide +kernel
theorem dX9_canBe_76 : decode cX9_canBe 76 = .ok (.iload_n 3, 1) := by decide +kernel
theorem dX9_canBe_77 : decode cX9_canBe 77 = .ok (.ifCond .ne 5, 3) := by decide +kernel
theorem dX9_canBe_80 : decode cX9_canBe 80 = .ok (.iconst 0, 1) := by decide +kernel
theorem dX9_canBe_81 : decode cX9_canBe 81 = .ok (.ireturn, 1) := by decide +kernel
theorem dX9_canBe_82 : decode cX9_canBe 82 = .ok (.iinc 2 1, 3) := by decide +kernel
theorem dX9_canBe_85 : decode cX9_canBe 85 = .ok (.goto (-73), 3) := by decide +kernel
theorem dX9_canBe_88 : decode cX9_canBe 88 = .ok (.iconst 1, 1) := by decide +kernel
theorem dX9_canBe_89 : decode cX9_canBe 89 = .ok (.ireturn, 1) := by decide +kernel
theorem dX9_bits_0 : decode cX9_bits 0 = .ok (.iconst 0, 1) := by decide +kernel
theorem dX9_bits_1 : decode cX9_bits 1 = .ok (.istore_n 1, 1) := by decide +kernel
theorem dX9_bits_2 : decode cX9_bits 2 = .ok (.iconst 0, 1) := by decide +kernel
theorem dX9_bits_3 : decode cX9_bits 3 = .ok (.istore_n 2, 1) := by decide +kernel
theorem dX9_bits_4 : decode cX9_bits 4 = .ok (.iload_n 2, 1) := by decide +kernel
theorem dX9_bits_5 : decode cX9_bits 5 = .ok (.bipush 12, 2) := by decide +kernel
theorem dX9_bits_7 : decode cX9_bits 7 = .ok (.if_icmp .ge 17, 3) := by decide +kernel
theorem dX9_bits_10 : decode cX9_bits 10 = .ok (.iload_n 1, 1) := by decide +kernel
theorem dX9_bits_11 : decode cX9_bits 11 = .ok (.iload_n 0, 1) := by decide +kernel
theorem dX9_bits_12 : decode cX9_bits 12 = .ok (.iload_n 2, 1) := by decide +kernel
theorem dX9_bits_13 : decode cX9_bits 13 = .ok (.ishr, 1) := by decide +kernel
theorem dX9_bits_14 : decode cX9_bits 14 = .ok (.iconst 1, 1) := by decide +kernel
theorem dX9_bits_15 : decode cX9_bits 15 = .ok (.iand, 1) := by decide +kernel
theorem dX9_bits_16 : decode cX9_bits 16 = .ok (.iadd, 1) := by decide +kernel
theorem dX9_bits_17 : decode cX9_bits 17 = .ok (.istore_n 1, 1) := by decide +kernel
theorem dX9_bits_18 : decode cX9_bits 18 = .ok (.iinc 2 1, 3) := by decide +kernel
theorem dX9_bits_21 : decode cX9_bits 21 = .ok (.goto (-17), 3) := by decide +kernel
theorem dX9_bits_24 : decode cX9_bits 24 = .ok (.iload_n 1, 1) := by decide +kernel
theorem dX9_bits_25 : decode cX9_bits 25 = .ok (.ireturn, 1) := by decide +kernel
set_option maxRecDepth 20000 in
theorem ggX9_solves_X9_inNet : GoodIn wsX9_solves wsX9_inNet := goodIn_r _ [16, 10, 43, 44, 45, 46, 47, 48, 49, 50, 51, 52, 53, 54, 55, 56, 57, 58, 59, 60, 61, 62, 63, 64, 65, 66, 67, 68, 69, 70, 71, 72, 73, 74, 75] (by decide +kernel) (by decide +kernel)
set_option maxRecDepth 20000 in
theorem gX9_solves_X9_inNet : GoodIn wsX9_solves (wsV RX9 201 RX9 yX9_inNet wsX9_inNet) := goodIn_app (goodIn_of _ (by decide +kernel)) ggX9_solves_X9_inNet
set_option maxRecDepth 20000 in
theorem ggX9_solves_X9_bits : GoodIn wsX9_solves wsX9_bits := goodIn_r _ [19] (by decide +kernel) (by decide +kernel)
set_option maxRecDepth 20000 in
theorem gX9_solves_X9_bits : GoodIn wsX9_solves (va_wsS RX9 216 yX9_bits wsX9_bits) := goodIn_app (goodIn_of _ (by decide +kernel)) ggX9_solves_X9_bits
set_option maxRecDepth 20000 in
theorem ggX9_solves_X9_canBe : GoodIn wsX9_solves wsX9_canBe := goodIn_r _ [23, 8, 10, 11, 24, 25, 26, 15, 27, 28, 29, 2, 6, 4, 5, 30, 31, 32, 33, 34, 12, 13, 14, 16, 35, 36, 37, 38, 39, 40, 41, 42, 43, 44, 45, 46, 47, 48, 49, 50, 51, 52, 53, 54, 55, 56, 57, 58, 59, 60, 61, 62, 63, 64, 65, 66, 67, 68, 69, 70, 71, 72, 73, 74, 75] (by decide +kernel) (by decide +kernel)
set_option maxRecDepth 20000 in
theorem gX9_solves_X9_canBe : GoodIn wsX9_solves (wsV RX9 219 RX9 yX9_canBe wsX9_canBe) := goodIn_app (goodIn_of _ (by decide +kernel)) ggX9_solves_X9_canBe
set_option maxRecDepth 20000 in
theorem ggX9_solves_X9_joins : GoodIn wsX9_solves wsX9_joins := goodIn_r _ [27, 8, 28, 29, 2, 6, 4, 5, 30, 31, 32, 33, 15, 34, 43, 44, 45, 46, 47, 48, 49, 50, 51, 52, 53, 54, 55, 56, 57, 58, 59, 60, 61, 62, 63, 64, 65, 66, 67, 68, 69, 70, 71, 72, 73, 74, 75] (by decide +kernel) (by decide +kernel)
set_option maxRecDepth 20000 in
theorem gX9_solves_X9_joins : GoodIn wsX9_solves (wsV RX9 207 RX9 yX9_joins wsX9_joins) := goodIn_app (goodIn_of _ (by decide +kernel)) ggX9_solves_X9_joins
set_option maxRecDepth 20000 in
theorem ggX9_solves_X9_isGood : GoodIn wsX9_solves wsX9_isGood := goodIn_r _ [38, 8, 28, 29, 12, 13, 14, 15, 16, 10, 39, 40, 41, 42, 11, 43, 44, 45, 46, 47, 48, 49, 50, 51, 52, 53, 54, 55, 56, 57, 58, 59, 60, 61, 62, 63, 64, 65, 66, 67, 68, 69, 70, 71, 72, 73, 74, 75] (by decide +kernel) (by decide +kernel)
set_option maxRecDepth 20000 in
theorem gX9_solves_X9_isGood : GoodIn wsX9_solves (wsV RX9 210 RX9 yX9_isGood wsX9_isGood) := goodIn_app (goodIn_of _ (by decide +kernel)) ggX9_solves_X9_isGood
theorem dX9_solves_0 : decode cX9_solves 0 = .ok (.aload_n 0, 1) := by decide +kernel
theorem dX9_solves_1 : decode cX9_solves 1 = .ok (.getfield 176, 3) := by decide +kernel
theorem dX9_solves_4 : decode cX9_solves 4 = .ok (.ifCond .eq 4, 3) := by decide +kernel
theorem dX9_solves_7 : decode cX9_solves 7 = .ok (.return_, 1) := by decide +kernel
theorem dX9_solves_8 : decode cX9_solves 8 = .ok (.aload_n 0, 1) := by decide +kernel
theorem dX9_solves_9 : decode cX9_solves 9 = .ok (.iconst 1, 1) := by decide +kernel
theorem dX9_solves_10 : decode cX9_solves 10 = .ok (.putfield 176, 3) := by decide +kernel
theorem dX9_solves_13 : decode cX9_solves 13 = .ok (.aload_n 0, 1) := by decide +kernel
theorem dX9_solves_14 : decode cX9_solves 14 = .ok (.iconst 0, 1) := by decide +kernel
theorem dX9_solves_15 : decode cX9_solves 15 = .ok (.putfield 195, 3) := by decide +kernel
theorem dX9_solves_18 : decode cX9_solves 18 = .ok (.iconst 0, 1) := by decide +kernel
theorem dX9_solves_19 : decode cX9_solves 19 = .ok (.istore_n 1, 1) := by decide +kernel
theorem dX9_solves_20 : decode cX9_solves 20 = .ok (.iload_n 1, 1) := by decide +kernel
theorem dX9_solves_21 : decode cX9_solves 21 = .ok (.aload_n 0, 1) := by decide +kernel
theorem dX9_solves_22 : decode cX9_solves 22 = .ok (.getfield 192, 3) := by decide +kernel
theorem dX9_solves_25 : decode cX9_solves 25 = .ok (.if_icmp .ge 58, 3) := by decide +kernel
theorem dX9_solves_28 : decode cX9_solves 28 = .ok (.aload_n 0, 1) := by decide +kernel
theorem dX9_solves_29 : decode cX9_solves 29 = .ok (.aload_n 0, 1) := by decide +kernel
theorem dX9_solves_30 : decode cX9_solves 30 = .ok (.getfield 33, 3) := by decide +kernel
theorem dX9_solves_33 : decode cX9_solves 33 = .ok (.iload_n 1, 1) := by decide +kernel
theorem dX9_solves_34 : decode cX9_solves 34 = .ok (.iaload, 1) := by decide +kernel
theorem dX9_solves_35 : decode cX9_solves 35 = .ok (.invokevirtual 201, 3) := by decide +kernel
theorem dX9_solves_38 : decode cX9_solves 38 = .ok (.ifCond .eq 39, 3) := by decide +kernel
theorem dX9_solves_41 : decode cX9_solves 41 = .ok (.aload_n 0, 1) := by decide +kernel
theorem dX9_solves_42 : decode cX9_solves 42 = .ok (.aload_n 0, 1) := by decide +kernel
theorem dX9_solves_43 : decode cX9_solves 43 = .ok (.getfield 36, 3) := by decide +kernel
theorem dX9_solves_46 : decode cX9_solves 46 = .ok (.iload_n 1, 1) := by decide +kernel
theorem dX9_solves_47 : decode cX9_solves 47 = .ok (.iaload, 1) := by decide +kernel
theorem dX9_solves_48 : decode cX9_solves 48 = .ok (.invokevirtual 201, 3) := by decide +kernel
theorem dX9_solves_51 : decode cX9_solves 51 = .ok (.ifCond .ne 6, 3) := by decide +kernel
theorem dX9_solves_54 : decode cX9_solves 54 = .ok (.goto 23, 3) := by decide +kernel
theorem dX9_solves_57 : decode cX9_solves 57 = .ok (.aload_n 0, 1) := by decide +kernel
theorem dX9_solves_58 : decode cX9_solves 58 = .ok (.getfield 42, 3) := by decide +kernel
theorem dX9_solves_61 : decode cX9_solves 61 = .ok (.aload_n 0, 1) := by decide +kernel
theorem dX9_solves_62 : decode cX9_solves 62 = .ok (.getfield 195, 3) := by decide +kernel
theorem dX9_solves_65 : decode cX9_solves 65 = .ok (.iload_n 1, 1) := by decide +kernel
theorem dX9_solves_66 : decode cX9_solves 66 = .ok (.iastore, 1) := by decide +kernel
theorem dX9_solves_67 : decode cX9_solves 67 = .ok (.aload_n 0, 1) := by decide +kernel
theorem dX9_solves_68 : decode cX9_solves 68 = .ok (.dup, 1) := by decide +kernel
theorem dX9_solves_69 : decode cX9_solves 69 = .ok (.getfield 195, 3) := by decide +kernel
theorem dX9_solves_72 : decode cX9_solves 72 = .ok (.iconst 1, 1) := by decide +kernel
theorem dX9_solves_73 : decode cX9_solves 73 = .ok (.iadd, 1) := by decide +kernel
theorem dX9_solves_74 : decode cX9_solves 74 = .ok (.putfield 195, 3) := by decide +kernel
theorem dX9_solves_77 : decode cX9_solves 77 = .ok (.iinc 1 1, 3) := by decide +kernel
theorem dX9_solves_80 : decode cX9_solves 80 = .ok (.goto (-60), 3) := by decide +kernel
theorem dX9_solves_83 : decode cX9_solves 83 = .ok (.aload_n 0, 1) := by decide +kernel
theorem dX9_solves_84 : decode cX9_solves 84 = .ok (.iconst (-1), 1) := by decide +kernel
theorem dX9_solves_85 : decode cX9_solves 85 = .ok (.putfield 213, 3) := by decide +kernel
theorem dX9_solves_88 : decode cX9_solves 88 = .ok (.iconst 0, 1) := by decide +kernel
theorem dX9_solves_89 : decode cX9_solves 89 = .ok (.istore_n 1, 1) := by decide +kernel
theorem dX9_solves_90 : decode cX9_solves 90 = .ok (.iload_n 1, 1) := by decide +kernel
theorem dX9_solves_91 : decode cX9_solves 91 = .ok (.aload_n 0, 1) := by decide +kernel
theorem dX9_solves_92 : decode cX9_solves 92 = .ok (.getfield 195, 3) := by decide +kernel
theorem dX9_solves_95 : decode cX9_solves 95 = .ok (.if_icmp .gt 62, 3) := by decide +kernel
theorem dX9_solves_98 : decode cX9_solves 98 = .ok (.aload_n 0, 1) := by decide +kernel
theorem dX9_solves_99 : decode cX9_solves 99 = .ok (.getfield 213, 3) := by decide +kernel
theorem dX9_solves_102 : decode cX9_solves 102 = .ok (.ifCond .ge 55, 3) := by decide +kernel
theorem dX9_solves_105 : decode cX9_solves 105 = .ok (.iconst 0, 1) := by decide +kernel
theorem dX9_solves_106 : decode cX9_solves 106 = .ok (.istore_n 2, 1) := by decide +kernel
theorem dX9_solves_107 : decode cX9_solves 107 = .ok (.iload_n 2, 1) := by decide +kernel
theorem dX9_solves_108 : decode cX9_solves 108 = .ok (.iconst 1, 1) := by decide +kernel
theorem dX9_solves_109 : decode cX9_solves 109 = .ok (.aload_n 0, 1) := by decide +kernel
theorem dX9_solves_110 : decode cX9_solves 110 = .ok (.getfield 195, 3) := by decide +kernel
theorem dX9_solves_113 : decode cX9_solves 113 = .ok (.ishl, 1) := by decide +kernel
theorem dX9_solves_114 : decode cX9_solves 114 = .ok (.if_icmp .ge 37, 3) := by decide +kernel
theorem dX9_solves_117 : decode cX9_solves 117 = .ok (.aload_n 0, 1) := by decide +kernel
theorem dX9_solves_118 : decode cX9_solves 118 = .ok (.getfield 213, 3) := by decide +kernel
theorem dX9_solves_121 : decode cX9_solves 121 = .ok (.ifCond .ge 30, 3) := by decide +kernel
theorem dX9_solves_124 : decode cX9_solves 124 = .ok (.iload_n 2, 1) := by decide +kernel
theorem dX9_solves_125 : decode cX9_solves 125 = .ok (.invokestatic 216, 3) := by decide +kernel
theorem dX9_solves_128 : decode cX9_solves 128 = .ok (.iload_n 1, 1) := by decide +kernel
theorem dX9_solves_129 : decode cX9_solves 129 = .ok (.if_icmp .ne 16, 3) := by decide +kernel
theorem dX9_solves_132 : decode cX9_solves 132 = .ok (.aload_n 0, 1) := by decide +kernel
theorem dX9_solves_133 : decode cX9_solves 133 = .ok (.iload_n 2, 1) := by decide +kernel
theorem dX9_solves_134 : decode cX9_solves 134 = .ok (.invokevirtual 219, 3) := by decide +kernel
theorem dX9_solves_137 : decode cX9_solves 137 = .ok (.ifCond .eq 8, 3) := by decide +kernel
theorem dX9_solves_140 : decode cX9_solves 140 = .ok (.aload_n 0, 1) := by decide +kernel
theorem dX9_solves_141 : decode cX9_solves 141 = .ok (.iload_n 2, 1) := by decide +kernel
theorem dX9_solves_142 : decode cX9_solves 142 = .ok (.putfield 213, 3) := by decide +kernel
theorem dX9_solves_145 : decode cX9_solves 145 = .ok (.iinc 2 1, 3) := by decide +kernel
theorem dX9_solves_148 : decode cX9_solves 148 = .ok (.goto (-41), 3) := by decide +kernel
theorem dX9_solves_151 : decode cX9_solves 151 = .ok (.iinc 1 1, 3) := by decide +kernel
theorem dX9_solves_154 : decode cX9_solves 154 = .ok (.goto (-64), 3) := by decide +kernel
theorem dX9_solves_157 : decode cX9_solves 157 = .ok (.aload_n 0, 1) := by decide +kernel
theorem dX9_solves_158 : decode cX9_solves 158 = .ok (.aload_n 0, 1) := by decide +kernel
theorem dX9_solves_159 : decode cX9_solves 159 = .ok (.getfield 213, 3) := by decide +kernel
theorem dX9_solves_162 : decode cX9_solves 162 = .ok (.invokevirtual 207, 3) := by decide +kernel
theorem dX9_solves_165 : decode cX9_solves 165 = .ok (.istore_n 1, 1) := by decide +kernel
theorem dX9_solves_166 : decode cX9_solves 166 = .ok (.iconst 0, 1) := by decide +kernel
theorem dX9_solves_167 : decode cX9_solves 167 = .ok (.istore_n 2, 1) := by decide +kernel
theorem dX9_solves_168 : decode cX9_solves 168 = .ok (.iload_n 2, 1) := by decide +kernel
theorem dX9_solves_169 : decode cX9_solves 169 = .ok (.aload_n 0, 1) := by decide +kernel
theorem dX9_solves_170 : decode cX9_solves 170 = .ok (.getfield 163, 3) := by decide +kernel
theorem dX9_solves_173 : decode cX9_solves 173 = .ok (.if_icmp .ge 83, 3) := by decide +kernel
theorem dX9_solves_176 : decode cX9_solves 176 = .ok (.iconst 0, 1) := by decide +kernel
theorem dX9_solves_177 : decode cX9_solves 177 = .ok (.istore_n 3, 1) := by decide +kernel
theorem dX9_solves_178 : decode cX9_solves 178 = .ok (.iload_n 3, 1) := by decide +kernel
theorem dX9_solves_179 : decode cX9_solves 179 = .ok (.sipush 300, 3) := by decide +kernel
theorem dX9_solves_182 : decode cX9_solves 182 = .ok (.if_icmp .ge 68, 3) := by decide +kernel
theorem dX9_solves_185 : decode cX9_solves 185 = .ok (.aload_n 0, 1) := by decide +kernel
theorem dX9_solves_186 : decode cX9_solves 186 = .ok (.getfield 51, 3) := by decide +kernel
theorem dX9_solves_189 : decode cX9_solves 189 = .ok (.sipush 300, 3) := by decide +kernel
theorem dX9_solves_192 : decode cX9_solves 192 = .ok (.iload_n 2, 1) := by decide +kernel
theorem dX9_solves_193 : decode cX9_solves 193 = .ok (.imul, 1) := by decide +kernel
theorem dX9_solves_194 : decode cX9_solves 194 = .ok (.iload_n 3, 1) := by decide +kernel
theorem dX9_solves_195 : decode cX9_solves 195 = .ok (.iadd, 1) := by decide +kernel
theorem dX9_solves_196 : decode cX9_solves 196 = .ok (.iload_n 1, 1) := by decide +kernel
theorem dX9_solves_197 : decode cX9_solves 197 = .ok (.ifCond .eq 45, 3) := by decide +kernel
theorem dX9_solves_200 : decode cX9_solves 200 = .ok (.aload_n 0, 1) := by decide +kernel
theorem dX9_solves_201 : decode cX9_solves 201 = .ok (.iload_n 2, 1) := by decide +kernel
theorem dX9_solves_202 : decode cX9_solves 202 = .ok (.invokevirtual 201, 3) := by decide +kernel
theorem dX9_solves_205 : decode cX9_solves 205 = .ok (.ifCond .eq 37, 3) := by decide +kernel
theorem dX9_solves_208 : decode cX9_solves 208 = .ok (.iload_n 3, 1) := by decide +kernel
theorem dX9_solves_209 : decode cX9_solves 209 = .ok (.aload_n 0, 1) := by decide +kernel
theorem dX9_solves_210 : decode cX9_solves 210 = .ok (.getfield 27, 3) := by decide +kernel
theorem dX9_solves_213 : decode cX9_solves 213 = .ok (.iload_n 2, 1) := by decide +kernel
theorem dX9_solves_214 : decode cX9_solves 214 = .ok (.iaload, 1) := by decide +kernel
theorem dX9_solves_215 : decode cX9_solves 215 = .ok (.if_icmp .ge 27, 3) := by decide +kernel
theorem dX9_solves_218 : decode cX9_solves 218 = .ok (.aload_n 0, 1) := by decide +kernel
theorem dX9_solves_219 : decode cX9_solves 219 = .ok (.iload_n 2, 1) := by decide +kernel
theorem dX9_solves_220 : decode cX9_solves 220 = .ok (.aload_n 0, 1) := by decide +kernel
theorem dX9_solves_221 : decode cX9_solves 221 = .ok (.getfield 30, 3) := by decide +kernel
theorem dX9_solves_224 : decode cX9_solves 224 = .ok (.sipush 300, 3) := by decide +kernel
theorem dX9_solves_227 : decode cX9_solves 227 = .ok (.iload_n 2, 1) := by decide +kernel
theorem dX9_solves_228 : decode cX9_solves 228 = .ok (.imul, 1) := by decide +kernel
theorem dX9_solves_229 : decode cX9_solves 229 = .ok (.iload_n 3, 1) := by decide +kernel
theorem dX9_solves_230 : decode cX9_solves 230 = .ok (.iadd, 1) := by decide +kernel
theorem dX9_solves_231 : decode cX9_solves 231 = .ok (.iaload, 1) := by decide +kernel
theorem dX9_solves_232 : decode cX9_solves 232 = .ok (.invokevirtual 210, 3) := by decide +kernel
theorem dX9_solves_235 : decode cX9_solves 235 = .ok (.ifCond .eq 7, 3) := by decide +kernel
theorem dX9_solves_238 : decode cX9_solves 238 = .ok (.iconst 1, 1) := by decide +kernel
theorem dX9_solves_239 : decode cX9_solves 239 = .ok (.goto 4, 3) := by decide +kernel
theorem dX9_solves_242 : decode cX9_solves 242 = .ok (.iconst 0, 1) := by decide +kernel
theorem dX9_solves_243 : decode cX9_solves 243 = .ok (.bastore, 1) := by decide +kernel
theorem dX9_solves_244 : decode cX9_solves 244 = .ok (.iinc 3 1, 3) := by decide +kernel
theorem dX9_solves_247 : decode cX9_solves 247 = .ok (.goto (-69), 3) := by decide +kernel
theorem dX9_solves_250 : decode cX9_solves 250 = .ok (.iinc 2 1, 3) := by decide +kernel
theorem dX9_solves_253 : decode cX9_solves 253 = .ok (.goto (-85), 3) := by decide +kernel
theorem dX9_solves_256 : decode cX9_solves 256 = .ok (.return_, 1) := by decide +kernel
set_option maxRecDepth 20000 in
theorem ggX9_least_X9_solves : GoodIn wsX9_least wsX9_solves := goodIn_r _ [7, 8, 9, 10, 11, 12, 13, 2, 14, 15, 16, 17, 18, 19, 20, 6, 21, 22, 23, 24, 25, 26, 27, 28, 29, 30, 31, 32, 33, 34, 35, 36, 37, 38, 39, 40, 41, 42, 43, 44, 45, 46, 47, 48, 49, 50, 51, 52, 53, 54, 55, 56, 57, 58, 59, 60, 61, 62, 63, 64, 65, 66, 67, 68, 69, 70, 71, 72, 73, 74, 75, 76, 77, 78, 79, 80] (by decide +kernel) (by decide +kernel)
set_option maxRecDepth 20000 in
theorem gX9_least_X9_solves : GoodIn wsX9_least (wsV RX9 222 RX9 yX9_solves wsX9_solves) := goodIn_app (goodIn_of _ (by decide +kernel)) ggX9_least_X9_solves
set_option maxRecDepth 20000 in
theorem ggX9_least_X9_bits : GoodIn wsX9_least wsX9_bits := goodIn_r _ [24] (by decide +kernel) (by decide +kernel)
set_option maxRecDepth 20000 in
theorem gX9_least_X9_bits : GoodIn wsX9_least (va_wsS RX9 216 yX9_bits wsX9_bits) := goodIn_app (goodIn_of _ (by decide +kernel)) ggX9_least_X9_bits
theorem dX9_least_0 : decode cX9_least 0 = .ok (.aload_n 0, 1) := by decide +kernel
theorem dX9_least_1 : decode cX9_least 1 = .ok (.iconst 0, 1) := by decide +kernel
theorem dX9_least_2 : decode cX9_least 2 = .ok (.putfield 61, 3) := by decide +kernel
theorem dX9_least_5 : decode cX9_least 5 = .ok (.aload_n 0, 1) := by decide +kernel
theorem dX9_least_6 : decode cX9_least 6 = .ok (.invokevirtual 222, 3) := by decide +kernel
theorem dX9_least_9 : decode cX9_least 9 = .ok (.aload_n 0, 1) := by decide +kernel
theorem dX9_least_10 : decode cX9_least 10 = .ok (.getfield 213, 3) := by decide +kernel
theorem dX9_least_13 : decode cX9_least 13 = .ok (.invokestatic 216, 3) := by decide +kernel
theorem dX9_least_16 : decode cX9_least 16 = .ok (.ireturn, 1) := by decide +kernel
set_option maxRecDepth 20000 in
theorem ggX9_wrong_X9_solves : GoodIn wsX9_wrong wsX9_solves := goodIn_r _ [9, 10, 2, 11, 12, 13, 4, 3, 14, 15, 16, 17, 18, 19, 20, 8, 21, 22, 23, 24, 25, 26, 27, 28, 29, 30, 31, 32, 33, 34, 35, 36, 37, 38, 39, 40, 41, 42, 43, 44, 45, 46, 47, 48, 49, 50, 51, 52, 53, 54, 55, 56, 57, 58, 59, 60, 61, 62, 63, 64, 65, 66, 67, 68, 69, 70, 71, 72, 73, 74, 75, 76, 77, 78, 79, 80] (by decide +kernel) (by decide +kernel)
set_option maxRecDepth 20000 in
theorem gX9_wrong_X9_solves : GoodIn wsX9_wrong (wsV RX9 222 RX9 yX9_solves wsX9_solves) := goodIn_app (goodIn_of _ (by decide +kernel)) ggX9_wrong_X9_solves
set_option maxRecDepth 20000 in
theorem ggX9_wrong_X9_isAskedWrong : GoodIn wsX9_wrong wsX9_isAskedWrong := goodIn_r _ [39, 2, 48, 49, 50, 51, 52, 53, 54, 55, 56, 57, 58, 59, 60, 61, 62, 63, 64, 65, 66, 67, 68, 69, 70, 71, 72, 73, 74, 75, 76, 77, 78, 79, 80] (by decide +kernel) (by decide +kernel)
set_option maxRecDepth 20000 in
theorem gX9_wrong_X9_isAskedWrong : GoodIn wsX9_wrong (wsV RX9 198 RX9 yX9_isAskedWrong wsX9_isAskedWrong) := goodIn_app (goodIn_of _ (by decide +kernel)) ggX9_wrong_X9_isAskedWrong
theorem dX9_wrong_0 : decode cX9_wrong 0 = .ok (.aload_n 0, 1) := by decide +kernel
theorem dX9_wrong_1 : decode cX9_wrong 1 = .ok (.iconst 0, 1) := by decide +kernel
theorem dX9_wrong_2 : decode cX9_wrong 2 = .ok (.putfield 61, 3) := by decide +kernel
theorem dX9_wrong_5 : decode cX9_wrong 5 = .ok (.aload_n 0, 1) := by decide +kernel
theorem dX9_wrong_6 : decode cX9_wrong 6 = .ok (.invokevirtual 222, 3) := by decide +kernel
theorem dX9_wrong_9 : decode cX9_wrong 9 = .ok (.iload_n 1, 1) := by decide +kernel
theorem dX9_wrong_10 : decode cX9_wrong 10 = .ok (.istore_n 2, 1) := by decide +kernel
theorem dX9_wrong_11 : decode cX9_wrong 11 = .ok (.iconst 0, 1) := by decide +kernel
theorem dX9_wrong_12 : decode cX9_wrong 12 = .ok (.istore_n 3, 1) := by decide +kernel
theorem dX9_wrong_13 : decode cX9_wrong 13 = .ok (.iload_n 3, 1) := by decide +kernel
theorem dX9_wrong_14 : decode cX9_wrong 14 = .ok (.aload_n 0, 1) := by decide +kernel
theorem dX9_wrong_15 : decode cX9_wrong 15 = .ok (.getfield 195, 3) := by decide +kernel
theorem dX9_wrong_18 : decode cX9_wrong 18 = .ok (.if_icmp .ge 42, 3) := by decide +kernel
theorem dX9_wrong_21 : decode cX9_wrong 21 = .ok (.iload_n 1, 1) := by decide +kernel
theorem dX9_wrong_22 : decode cX9_wrong 22 = .ok (.ifCond .lt 38, 3) := by decide +kernel
theorem dX9_wrong_25 : decode cX9_wrong 25 = .ok (.aload_n 0, 1) := by decide +kernel
theorem dX9_wrong_26 : decode cX9_wrong 26 = .ok (.iload_n 3, 1) := by decide +kernel
theorem dX9_wrong_27 : decode cX9_wrong 27 = .ok (.aload_n 0, 1) := by decide +kernel
theorem dX9_wrong_28 : decode cX9_wrong 28 = .ok (.getfield 213, 3) := by decide +kernel
theorem dX9_wrong_31 : decode cX9_wrong 31 = .ok (.invokevirtual 198, 3) := by decide +kernel
theorem dX9_wrong_34 : decode cX9_wrong 34 = .ok (.ifCond .ne 6, 3) := by decide +kernel
theorem dX9_wrong_37 : decode cX9_wrong 37 = .ok (.goto 17, 3) := by decide +kernel
theorem dX9_wrong_40 : decode cX9_wrong 40 = .ok (.iload_n 2, 1) := by decide +kernel
theorem dX9_wrong_41 : decode cX9_wrong 41 = .ok (.ifCond .ne 10, 3) := by decide +kernel
theorem dX9_wrong_44 : decode cX9_wrong 44 = .ok (.aload_n 0, 1) := by decide +kernel
theorem dX9_wrong_45 : decode cX9_wrong 45 = .ok (.getfield 42, 3) := by decide +kernel
theorem dX9_wrong_48 : decode cX9_wrong 48 = .ok (.iload_n 3, 1) := by decide +kernel
theorem dX9_wrong_49 : decode cX9_wrong 49 = .ok (.iaload, 1) := by decide +kernel
theorem dX9_wrong_50 : decode cX9_wrong 50 = .ok (.ireturn, 1) := by decide +kernel
theorem dX9_wrong_51 : decode cX9_wrong 51 = .ok (.iinc 2 (-1), 3) := by decide +kernel
theorem dX9_wrong_54 : decode cX9_wrong 54 = .ok (.iinc 3 1, 3) := by decide +kernel
theorem dX9_wrong_57 : decode cX9_wrong 57 = .ok (.goto (-44), 3) := by decide +kernel
theorem dX9_wrong_60 : decode cX9_wrong 60 = .ok (.iconst (-1), 1) := by decide +kernel
theorem dX9_wrong_61 : decode cX9_wrong 61 = .ok (.ireturn, 1) := by decide +kernel
set_option maxRecDepth 20000 in
theorem ggX9_settled_X9_isStone : GoodIn wsX9_settled wsX9_isStone := goodIn_r _ [6, 7, 8, 52, 53, 54, 55, 56, 57, 58, 59, 60, 61, 62, 63, 64, 65, 66, 67, 68, 69, 70, 71, 72, 73, 74, 75, 76, 77, 78, 79, 80, 81, 82, 83, 84] (by decide +kernel) (by decide +kernel)
set_option maxRecDepth 20000 in
theorem gX9_settled_X9_isStone : GoodIn wsX9_settled (wsV RX9 187 RX9 yX9_isStone wsX9_isStone) := goodIn_app (goodIn_of _ (by decide +kernel)) ggX9_settled_X9_isStone
set_option maxRecDepth 20000 in
theorem ggX9_settled_X9_inNet : GoodIn wsX9_settled wsX9_inNet := goodIn_r _ [12, 13, 52, 53, 54, 55, 56, 57, 58, 59, 60, 61, 62, 63, 64, 65, 66, 67, 68, 69, 70, 71, 72, 73, 74, 75, 76, 77, 78, 79, 80, 81, 82, 83, 84] (by decide +kernel) (by decide +kernel)
set_option maxRecDepth 20000 in
theorem gX9_settled_X9_inNet : GoodIn wsX9_settled (wsV RX9 201 RX9 yX9_inNet wsX9_inNet) := goodIn_app (goodIn_of _ (by decide +kernel)) ggX9_settled_X9_inNet
set_option maxRecDepth 20000 in
theorem ggX9_settled_X9_solves : GoodIn wsX9_settled wsX9_solves := goodIn_r _ [17, 18, 19, 20, 21, 22, 23, 24, 7, 1, 13, 25, 9, 10, 11, 5, 12, 26, 27, 28, 29, 30, 31, 32, 33, 34, 35, 36, 37, 38, 39, 40, 41, 42, 43, 44, 45, 46, 47, 48, 49, 50, 51, 52, 53, 54, 55, 56, 57, 58, 59, 60, 61, 62, 63, 64, 65, 66, 67, 68, 69, 70, 71, 72, 73, 74, 75, 76, 77, 78, 79, 80, 81, 82, 83, 84] (by decide +kernel) (by decide +kernel)
set_option maxRecDepth 20000 in
theorem gX9_settled_X9_solves : GoodIn wsX9_settled (wsV RX9 222 RX9 yX9_solves wsX9_solves) := goodIn_app (goodIn_of _ (by decide +kernel)) ggX9_settled_X9_solves
theorem dX9_settled_0 : decode cX9_settled 0 = .ok (.aload_n 0, 1) := by decide +kernel
theorem dX9_settled_1 : decode cX9_settled 1 = .ok (.iload_n 1, 1) := by decide +kernel
theorem dX9_settled_2 : decode cX9_settled 2 = .ok (.invokevirtual 187, 3) := by decide +kernel
theorem dX9_settled_5 : decode cX9_settled 5 = .ok (.ifCond .ne 5, 3) := by decide +kernel
theorem dX9_settled_8 : decode cX9_settled 8 = .ok (.iconst 0, 1) := by decide +kernel
theorem dX9_settled_9 : decode cX9_settled 9 = .ok (.ireturn, 1) := by decide +kernel
theorem dX9_settled_10 : decode cX9_settled 10 = .ok (.aload_n 0, 1) := by decide +kernel
theorem dX9_settled_11 : decode cX9_settled 11 = .ok (.iload_n 1, 1) := by decide +kernel
theorem dX9_settled_12 : decode cX9_settled 12 = .ok (.invokevirtual 201, 3) := by decide +kernel
theorem dX9_settled_15 : decode cX9_settled 15 = .ok (.ifCond .ne 5, 3) := by decide +kernel
theorem dX9_settled_18 : decode cX9_settled 18 = .ok (.iconst (-1), 1) := by decide +kernel
theorem dX9_settled_19 : decode cX9_settled 19 = .ok (.ireturn, 1) := by decide +kernel
theorem dX9_settled_20 : decode cX9_settled 20 = .ok (.aload_n 0, 1) := by decide +kernel
theorem dX9_settled_21 : decode cX9_settled 21 = .ok (.invokevirtual 222, 3) := by decide +kernel
theorem dX9_settled_24 : decode cX9_settled 24 = .ok (.iconst 0, 1) := by decide +kernel
theorem dX9_settled_25 : decode cX9_settled 25 = .ok (.istore_n 2, 1) := by decide +kernel
theorem dX9_settled_26 : decode cX9_settled 26 = .ok (.iconst 0, 1) := by decide +kernel
theorem dX9_settled_27 : decode cX9_settled 27 = .ok (.istore_n 3, 1) := by decide +kernel
theorem dX9_settled_28 : decode cX9_settled 28 = .ok (.iload_n 3, 1) := by decide +kernel
theorem dX9_settled_29 : decode cX9_settled 29 = .ok (.sipush 300, 3) := by decide +kernel
theorem dX9_settled_32 : decode cX9_settled 32 = .ok (.if_icmp .ge 32, 3) := by decide +kernel
theorem dX9_settled_35 : decode cX9_settled 35 = .ok (.iload_n 2, 1) := by decide +kernel
theorem dX9_settled_36 : decode cX9_settled 36 = .ok (.aload_n 0, 1) := by decide +kernel
theorem dX9_settled_37 : decode cX9_settled 37 = .ok (.getfield 51, 3) := by decide +kernel
theorem dX9_settled_40 : decode cX9_settled 40 = .ok (.sipush 300, 3) := by decide +kernel
theorem dX9_settled_43 : decode cX9_settled 43 = .ok (.iload_n 1, 1) := by decide +kernel
theorem dX9_settled_44 : decode cX9_settled 44 = .ok (.imul, 1) := by decide +kernel
theorem dX9_settled_45 : decode cX9_settled 45 = .ok (.iload_n 3, 1) := by decide +kernel
theorem dX9_settled_46 : decode cX9_settled 46 = .ok (.iadd, 1) := by decide +kernel
theorem dX9_settled_47 : decode cX9_settled 47 = .ok (.baload, 1) := by decide +kernel
theorem dX9_settled_48 : decode cX9_settled 48 = .ok (.ifCond .eq 7, 3) := by decide +kernel
theorem dX9_settled_51 : decode cX9_settled 51 = .ok (.iconst 1, 1) := by decide +kernel
theorem dX9_settled_52 : decode cX9_settled 52 = .ok (.goto 4, 3) := by decide +kernel
theorem dX9_settled_55 : decode cX9_settled 55 = .ok (.iconst 0, 1) := by decide +kernel
theorem dX9_settled_56 : decode cX9_settled 56 = .ok (.iadd, 1) := by decide +kernel
theorem dX9_settled_57 : decode cX9_settled 57 = .ok (.istore_n 2, 1) := by decide +kernel
theorem dX9_settled_58 : decode cX9_settled 58 = .ok (.iinc 3 1, 3) := by decide +kernel
theorem dX9_settled_61 : decode cX9_settled 61 = .ok (.goto (-33), 3) := by decide +kernel
theorem dX9_settled_64 : decode cX9_settled 64 = .ok (.iload_n 2, 1) := by decide +kernel
theorem dX9_settled_65 : decode cX9_settled 65 = .ok (.ireturn, 1) := by decide +kernel
set_option maxRecDepth 20000 in
theorem ggX9_settledDay_X9_isStone : GoodIn wsX9_settledDay wsX9_isStone := goodIn_r _ [7, 8, 9, 52, 53, 54, 55, 56, 57, 58, 59, 60, 61, 62, 63, 64, 65, 66, 67, 68, 69, 70, 71, 72, 73, 74, 75, 76, 77, 78, 79, 80, 81, 82, 83, 84] (by decide +kernel) (by decide +kernel)
set_option maxRecDepth 20000 in
theorem gX9_settledDay_X9_isStone : GoodIn wsX9_settledDay (wsV RX9 187 RX9 yX9_isStone wsX9_isStone) := goodIn_app (goodIn_of _ (by decide +kernel)) ggX9_settledDay_X9_isStone
set_option maxRecDepth 20000 in
theorem ggX9_settledDay_X9_inNet : GoodIn wsX9_settledDay wsX9_inNet := goodIn_r _ [13, 14, 52, 53, 54, 55, 56, 57, 58, 59, 60, 61, 62, 63, 64, 65, 66, 67, 68, 69, 70, 71, 72, 73, 74, 75, 76, 77, 78, 79, 80, 81, 82, 83, 84] (by decide +kernel) (by decide +kernel)
set_option maxRecDepth 20000 in
theorem gX9_settledDay_X9_inNet : GoodIn wsX9_settledDay (wsV RX9 201 RX9 yX9_inNet wsX9_inNet) := goodIn_app (goodIn_of _ (by decide +kernel)) ggX9_settledDay_X9_inNet
set_option maxRecDepth 20000 in
theorem ggX9_settledDay_X9_solves : GoodIn wsX9_settledDay wsX9_solves := goodIn_r _ [18, 19, 20, 21, 22, 23, 24, 25, 8, 1, 14, 2, 10, 11, 12, 6, 13, 26, 27, 28, 29, 30, 31, 32, 33, 34, 35, 36, 37, 38, 39, 40, 41, 42, 43, 44, 45, 46, 47, 48, 49, 50, 51, 52, 53, 54, 55, 56, 57, 58, 59, 60, 61, 62, 63, 64, 65, 66, 67, 68, 69, 70, 71, 72, 73, 74, 75, 76, 77, 78, 79, 80, 81, 82, 83, 84] (by decide +kernel) (by decide +kernel)
set_option maxRecDepth 20000 in
theorem gX9_settledDay_X9_solves : GoodIn wsX9_settledDay (wsV RX9 222 RX9 yX9_solves wsX9_solves) := goodIn_app (goodIn_of _ (by decide +kernel)) ggX9_settledDay_X9_solves
theorem dX9_settledDay_0 : decode cX9_settledDay 0 = .ok (.aload_n 0, 1) := by decide +kernel
theorem dX9_settledDay_1 : decode cX9_settledDay 1 = .ok (.iload_n 1, 1) := by decide +kernel
theorem dX9_settledDay_2 : decode cX9_settledDay 2 = .ok (.invokevirtual 187, 3) := by decide +kernel
theorem dX9_settledDay_5 : decode cX9_settledDay 5 = .ok (.ifCond .ne 5, 3) := by decide +kernel
theorem dX9_settledDay_8 : decode cX9_settledDay 8 = .ok (.iconst 0, 1) := by decide +kernel
theorem dX9_settledDay_9 : decode cX9_settledDay 9 = .ok (.ireturn, 1) := by decide +kernel
theorem dX9_settledDay_10 : decode cX9_settledDay 10 = .ok (.aload_n 0, 1) := by decide +kernel
theorem dX9_settledDay_11 : decode cX9_settledDay 11 = .ok (.iload_n 1, 1) := by decide +kernel
theorem dX9_settledDay_12 : decode cX9_settledDay 12 = .ok (.invokevirtual 201, 3) := by decide +kernel
theorem dX9_settledDay_15 : decode cX9_settledDay 15 = .ok (.ifCond .ne 5, 3) := by decide +kernel
theorem dX9_settledDay_18 : decode cX9_settledDay 18 = .ok (.iconst (-1), 1) := by decide +kernel
theorem dX9_settledDay_19 : decode cX9_settledDay 19 = .ok (.ireturn, 1) := by decide +kernel
theorem dX9_settledDay_20 : decode cX9_settledDay 20 = .ok (.aload_n 0, 1) := by decide +kernel
theorem dX9_settledDay_21 : decode cX9_settledDay 21 = .ok (.invokevirtual 222, 3) := by decide +kernel
theorem dX9_settledDay_24 : decode cX9_settledDay 24 = .ok (.iload_n 2, 1) := by decide +kernel
theorem dX9_settledDay_25 : decode cX9_settledDay 25 = .ok (.istore_n 3, 1) := by decide +kernel
theorem dX9_settledDay_26 : decode cX9_settledDay 26 = .ok (.iconst 0, 1) := by decide +kernel
theorem dX9_settledDay_27 : decode cX9_settledDay 27 = .ok (.istore 4, 2) := by decide +kernel
theorem dX9_settledDay_29 : decode cX9_settledDay 29 = .ok (.iload 4, 2) := by decide +kernel
theorem dX9_settledDay_31 : decode cX9_settledDay 31 = .ok (.sipush 300, 3) := by decide +kernel
theorem dX9_settledDay_34 : decode cX9_settledDay 34 = .ok (.if_icmp .ge 53, 3) := by decide +kernel
theorem dX9_settledDay_37 : decode cX9_settledDay 37 = .ok (.iload_n 2, 1) := by decide +kernel
theorem dX9_settledDay_38 : decode cX9_settledDay 38 = .ok (.ifCond .lt 49, 3) := by decide +kernel
theorem dX9_settledDay_41 : decode cX9_settledDay 41 = .ok (.aload_n 0, 1) := by decide +kernel
theorem dX9_settledDay_42 : decode cX9_settledDay 42 = .ok (.getfield 51, 3) := by decide +kernel
theorem dX9_settledDay_45 : decode cX9_settledDay 45 = .ok (.sipush 300, 3) := by decide +kernel
theorem dX9_settledDay_48 : decode cX9_settledDay 48 = .ok (.iload_n 1, 1) := by decide +kernel
theorem dX9_settledDay_49 : decode cX9_settledDay 49 = .ok (.imul, 1) := by decide +kernel
theorem dX9_settledDay_50 : decode cX9_settledDay 50 = .ok (.iload 4, 2) := by decide +kernel
theorem dX9_settledDay_52 : decode cX9_settledDay 52 = .ok (.iadd, 1) := by decide +kernel
theorem dX9_settledDay_53 : decode cX9_settledDay 53 = .ok (.baload, 1) := by decide +kernel
theorem dX9_settledDay_54 : decode cX9_settledDay 54 = .ok (.ifCond .ne 6, 3) := by decide +kernel
theorem dX9_settledDay_57 : decode cX9_settledDay 57 = .ok (.goto 24, 3) := by decide +kernel
theorem dX9_settledDay_60 : decode cX9_settledDay 60 = .ok (.iload_n 3, 1) := by decide +kernel
theorem dX9_settledDay_61 : decode cX9_settledDay 61 = .ok (.ifCond .ne 17, 3) := by decide +kernel
theorem dX9_settledDay_64 : decode cX9_settledDay 64 = .ok (.aload_n 0, 1) := by decide +kernel
theorem dX9_settledDay_65 : decode cX9_settledDay 65 = .ok (.getfield 30, 3) := by decide +kernel
theorem dX9_settledDay_68 : decode cX9_settledDay 68 = .ok (.sipush 300, 3) := by decide +kernel
theorem dX9_settledDay_71 : decode cX9_settledDay 71 = .ok (.iload_n 1, 1) := by decide +kernel
theorem dX9_settledDay_72 : decode cX9_settledDay 72 = .ok (.imul, 1) := by decide +kernel
theorem dX9_settledDay_73 : decode cX9_settledDay 73 = .ok (.iload 4, 2) := by decide +kernel
theorem dX9_settledDay_75 : decode cX9_settledDay 75 = .ok (.iadd, 1) := by decide +kernel
theorem dX9_settledDay_76 : decode cX9_settledDay 76 = .ok (.iaload, 1) := by decide +kernel
theorem dX9_settledDay_77 : decode cX9_settledDay 77 = .ok (.ireturn, 1) := by decide +kernel
theorem dX9_settledDay_78 : decode cX9_settledDay 78 = .ok (.iinc 3 (-1), 3) := by decide +kernel
theorem dX9_settledDay_81 : decode cX9_settledDay 81 = .ok (.iinc 4 1, 3) := by decide +kernel
theorem dX9_settledDay_84 : decode cX9_settledDay 84 = .ok (.goto (-55), 3) := by decide +kernel
theorem dX9_settledDay_87 : decode cX9_settledDay 87 = .ok (.iconst (-1), 1) := by decide +kernel
theorem dX9_settledDay_88 : decode cX9_settledDay 88 = .ok (.ireturn, 1) := by decide +kernel
set_option maxRecDepth 20000 in
theorem ggX9_eclipse_X9_bad : GoodIn wsX9_eclipse wsX9_bad := goodIn_r _ [9, 1, 10, 11, 12, 13, 14, 15, 16, 17, 18, 19, 20, 21, 22, 23, 24, 25, 26, 27, 28, 29, 30, 31, 32, 33, 34, 35, 36, 37, 38, 39, 40, 41, 42] (by decide +kernel) (by decide +kernel)
set_option maxRecDepth 20000 in
theorem gX9_eclipse_X9_bad : GoodIn wsX9_eclipse (wsV RX9 65 RX9 yX9_bad wsX9_bad) := goodIn_app (goodIn_of _ (by decide +kernel)) ggX9_eclipse_X9_bad
theorem dX9_eclipse_0 : decode cX9_eclipse 0 = .ok (.aload_n 0, 1) := by decide +kernel
theorem dX9_eclipse_1 : decode cX9_eclipse 1 = .ok (.iconst 0, 1) := by decide +kernel
theorem dX9_eclipse_2 : decode cX9_eclipse 2 = .ok (.putfield 61, 3) := by decide +kernel
theorem dX9_eclipse_5 : decode cX9_eclipse 5 = .ok (.aload_n 0, 1) := by decide +kernel
theorem dX9_eclipse_6 : decode cX9_eclipse 6 = .ok (.iload_n 1, 1) := by decide +kernel
theorem dX9_eclipse_7 : decode cX9_eclipse 7 = .ok (.ifCond .lt 9, 3) := by decide +kernel
theorem dX9_eclipse_10 : decode cX9_eclipse 10 = .ok (.iload_n 1, 1) := by decide +kernel
theorem dX9_eclipse_11 : decode cX9_eclipse 11 = .ok (.ldc 225, 2) := by decide +kernel
theorem dX9_eclipse_13 : decode cX9_eclipse 13 = .ok (.if_icmp .le 7, 3) := by decide +kernel
theorem dX9_eclipse_16 : decode cX9_eclipse 16 = .ok (.iconst 1, 1) := by decide +kernel
theorem dX9_eclipse_17 : decode cX9_eclipse 17 = .ok (.goto 4, 3) := by decide +kernel
theorem dX9_eclipse_20 : decode cX9_eclipse 20 = .ok (.iconst 0, 1) := by decide +kernel
theorem dX9_eclipse_21 : decode cX9_eclipse 21 = .ok (.iconst 1, 1) := by decide +kernel
theorem dX9_eclipse_22 : decode cX9_eclipse 22 = .ok (.invokevirtual 65, 3) := by decide +kernel
theorem dX9_eclipse_25 : decode cX9_eclipse 25 = .ok (.ifCond .eq 5, 3) := by decide +kernel
theorem dX9_eclipse_28 : decode cX9_eclipse 28 = .ok (.iconst 0, 1) := by decide +kernel
theorem dX9_eclipse_29 : decode cX9_eclipse 29 = .ok (.ireturn, 1) := by decide +kernel
theorem dX9_eclipse_30 : decode cX9_eclipse 30 = .ok (.iconst 0, 1) := by decide +kernel
theorem dX9_eclipse_31 : decode cX9_eclipse 31 = .ok (.istore_n 2, 1) := by decide +kernel
theorem dX9_eclipse_32 : decode cX9_eclipse 32 = .ok (.iload_n 2, 1) := by decide +kernel
theorem dX9_eclipse_33 : decode cX9_eclipse 33 = .ok (.aload_n 0, 1) := by decide +kernel
theorem dX9_eclipse_34 : decode cX9_eclipse 34 = .ok (.getfield 226, 3) := by decide +kernel
theorem dX9_eclipse_37 : decode cX9_eclipse 37 = .ok (.if_icmp .ge 21, 3) := by decide +kernel
theorem dX9_eclipse_40 : decode cX9_eclipse 40 = .ok (.aload_n 0, 1) := by decide +kernel
theorem dX9_eclipse_41 : decode cX9_eclipse 41 = .ok (.getfield 55, 3) := by decide +kernel
theorem dX9_eclipse_44 : decode cX9_eclipse 44 = .ok (.iload_n 2, 1) := by decide +kernel
theorem dX9_eclipse_45 : decode cX9_eclipse 45 = .ok (.iaload, 1) := by decide +kernel
theorem dX9_eclipse_46 : decode cX9_eclipse 46 = .ok (.iload_n 1, 1) := by decide +kernel
theorem dX9_eclipse_47 : decode cX9_eclipse 47 = .ok (.if_icmp .ne 5, 3) := by decide +kernel
theorem dX9_eclipse_50 : decode cX9_eclipse 50 = .ok (.iconst (-1), 1) := by decide +kernel
theorem dX9_eclipse_51 : decode cX9_eclipse 51 = .ok (.ireturn, 1) := by decide +kernel
theorem dX9_eclipse_52 : decode cX9_eclipse 52 = .ok (.iinc 2 1, 3) := by decide +kernel
theorem dX9_eclipse_55 : decode cX9_eclipse 55 = .ok (.goto (-23), 3) := by decide +kernel
theorem dX9_eclipse_58 : decode cX9_eclipse 58 = .ok (.aload_n 0, 1) := by decide +kernel
theorem dX9_eclipse_59 : decode cX9_eclipse 59 = .ok (.getfield 226, 3) := by decide +kernel
theorem dX9_eclipse_62 : decode cX9_eclipse 62 = .ok (.bipush 40, 2) := by decide +kernel
theorem dX9_eclipse_64 : decode cX9_eclipse 64 = .ok (.if_icmp .ne 6, 3) := by decide +kernel
theorem dX9_eclipse_67 : decode cX9_eclipse 67 = .ok (.bipush (-2), 2) := by decide +kernel
theorem dX9_eclipse_69 : decode cX9_eclipse 69 = .ok (.ireturn, 1) := by decide +kernel
theorem dX9_eclipse_70 : decode cX9_eclipse 70 = .ok (.aload_n 0, 1) := by decide +kernel
theorem dX9_eclipse_71 : decode cX9_eclipse 71 = .ok (.getfield 55, 3) := by decide +kernel
theorem dX9_eclipse_74 : decode cX9_eclipse 74 = .ok (.aload_n 0, 1) := by decide +kernel
theorem dX9_eclipse_75 : decode cX9_eclipse 75 = .ok (.getfield 226, 3) := by decide +kernel
theorem dX9_eclipse_78 : decode cX9_eclipse 78 = .ok (.iload_n 1, 1) := by decide +kernel
theorem dX9_eclipse_79 : decode cX9_eclipse 79 = .ok (.iastore, 1) := by decide +kernel
theorem dX9_eclipse_80 : decode cX9_eclipse 80 = .ok (.aload_n 0, 1) := by decide +kernel
theorem dX9_eclipse_81 : decode cX9_eclipse 81 = .ok (.dup, 1) := by decide +kernel
theorem dX9_eclipse_82 : decode cX9_eclipse 82 = .ok (.getfield 226, 3) := by decide +kernel
theorem dX9_eclipse_85 : decode cX9_eclipse 85 = .ok (.iconst 1, 1) := by decide +kernel
theorem dX9_eclipse_86 : decode cX9_eclipse 86 = .ok (.iadd, 1) := by decide +kernel
theorem dX9_eclipse_87 : decode cX9_eclipse 87 = .ok (.putfield 226, 3) := by decide +kernel
theorem dX9_eclipse_90 : decode cX9_eclipse 90 = .ok (.aload_n 0, 1) := by decide +kernel
theorem dX9_eclipse_91 : decode cX9_eclipse 91 = .ok (.getfield 226, 3) := by decide +kernel
theorem dX9_eclipse_94 : decode cX9_eclipse 94 = .ok (.ireturn, 1) := by decide +kernel
set_option maxRecDepth 20000 in
theorem ggX9_names_X9_isStone : GoodIn wsX9_names wsX9_isStone := goodIn_r _ [7, 8, 9, 14, 15, 16, 17, 18, 19, 20, 21, 22, 23, 24, 25, 26, 27, 28, 29, 30, 31, 32, 33, 34, 35, 36, 37, 38, 39, 40, 41, 42, 43, 44, 45, 46] (by decide +kernel) (by decide +kernel)
set_option maxRecDepth 20000 in
theorem gX9_names_X9_isStone : GoodIn wsX9_names (wsV RX9 187 RX9 yX9_isStone wsX9_isStone) := goodIn_app (goodIn_of _ (by decide +kernel)) ggX9_names_X9_isStone
set_option maxRecDepth 20000 in
theorem ggX9_names_X9_bad : GoodIn wsX9_names wsX9_bad := goodIn_r _ [13, 9, 14, 15, 16, 17, 18, 19, 20, 21, 22, 23, 24, 25, 26, 27, 28, 29, 30, 31, 32, 33, 34, 35, 36, 37, 38, 39, 40, 41, 42, 43, 44, 45, 46] (by decide +kernel) (by decide +kernel)
set_option maxRecDepth 20000 in
theorem gX9_names_X9_bad : GoodIn wsX9_names (wsV RX9 65 RX9 yX9_bad wsX9_bad) := goodIn_app (goodIn_of _ (by decide +kernel)) ggX9_names_X9_bad
theorem dX9_names_0 : decode cX9_names 0 = .ok (.aload_n 0, 1) := by decide +kernel
theorem dX9_names_1 : decode cX9_names 1 = .ok (.iload_n 1, 1) := by decide +kernel
theorem dX9_names_2 : decode cX9_names 2 = .ok (.invokevirtual 187, 3) := by decide +kernel
theorem dX9_names_5 : decode cX9_names 5 = .ok (.ifCond .eq 26, 3) := by decide +kernel
theorem dX9_names_8 : decode cX9_names 8 = .ok (.aload_n 0, 1) := by decide +kernel
theorem dX9_names_9 : decode cX9_names 9 = .ok (.aload_n 0, 1) := by decide +kernel
theorem dX9_names_10 : decode cX9_names 10 = .ok (.getfield 27, 3) := by decide +kernel
theorem dX9_names_13 : decode cX9_names 13 = .ok (.iload_n 1, 1) := by decide +kernel
theorem dX9_names_14 : decode cX9_names 14 = .ok (.iaload, 1) := by decide +kernel
theorem dX9_names_15 : decode cX9_names 15 = .ok (.iconst 1, 1) := by decide +kernel
theorem dX9_names_16 : decode cX9_names 16 = .ok (.if_icmp .eq 7, 3) := by decide +kernel
theorem dX9_names_19 : decode cX9_names 19 = .ok (.iconst 1, 1) := by decide +kernel
theorem dX9_names_20 : decode cX9_names 20 = .ok (.goto 4, 3) := by decide +kernel
theorem dX9_names_23 : decode cX9_names 23 = .ok (.iconst 0, 1) := by decide +kernel
theorem dX9_names_24 : decode cX9_names 24 = .ok (.iconst 2, 1) := by decide +kernel
theorem dX9_names_25 : decode cX9_names 25 = .ok (.invokevirtual 65, 3) := by decide +kernel
theorem dX9_names_28 : decode cX9_names 28 = .ok (.ifCond .eq 5, 3) := by decide +kernel
theorem dX9_names_31 : decode cX9_names 31 = .ok (.iconst 0, 1) := by decide +kernel
theorem dX9_names_32 : decode cX9_names 32 = .ok (.ireturn, 1) := by decide +kernel
theorem dX9_names_33 : decode cX9_names 33 = .ok (.aload_n 0, 1) := by decide +kernel
theorem dX9_names_34 : decode cX9_names 34 = .ok (.getfield 58, 3) := by decide +kernel
theorem dX9_names_37 : decode cX9_names 37 = .ok (.iload_n 1, 1) := by decide +kernel
theorem dX9_names_38 : decode cX9_names 38 = .ok (.baload, 1) := by decide +kernel
theorem dX9_names_39 : decode cX9_names 39 = .ok (.istore_n 3, 1) := by decide +kernel
theorem dX9_names_40 : decode cX9_names 40 = .ok (.aload_n 0, 1) := by decide +kernel
theorem dX9_names_41 : decode cX9_names 41 = .ok (.getfield 58, 3) := by decide +kernel
theorem dX9_names_44 : decode cX9_names 44 = .ok (.iload_n 1, 1) := by decide +kernel
theorem dX9_names_45 : decode cX9_names 45 = .ok (.iload_n 2, 1) := by decide +kernel
theorem dX9_names_46 : decode cX9_names 46 = .ok (.bastore, 1) := by decide +kernel
theorem dX9_names_47 : decode cX9_names 47 = .ok (.iload_n 3, 1) := by decide +kernel
theorem dX9_names_48 : decode cX9_names 48 = .ok (.ireturn, 1) := by decide +kernel
theorem dX9_named_0 : decode cX9_named 0 = .ok (.iconst 0, 1) := by decide +kernel
theorem dX9_named_1 : decode cX9_named 1 = .ok (.istore_n 1, 1) := by decide +kernel
theorem dX9_named_2 : decode cX9_named 2 = .ok (.iconst 0, 1) := by decide +kernel
theorem dX9_named_3 : decode cX9_named 3 = .ok (.istore_n 2, 1) := by decide +kernel
theorem dX9_named_4 : decode cX9_named 4 = .ok (.iload_n 2, 1) := by decide +kernel
theorem dX9_named_5 : decode cX9_named 5 = .ok (.aload_n 0, 1) := by decide +kernel
theorem dX9_named_6 : decode cX9_named 6 = .ok (.getfield 163, 3) := by decide +kernel
theorem dX9_named_9 : decode cX9_named 9 = .ok (.if_icmp .ge 26, 3) := by decide +kernel
theorem dX9_named_12 : decode cX9_named 12 = .ok (.iload_n 1, 1) := by decide +kernel
theorem dX9_named_13 : decode cX9_named 13 = .ok (.aload_n 0, 1) := by decide +kernel
theorem dX9_named_14 : decode cX9_named 14 = .ok (.getfield 58, 3) := by decide +kernel
theorem dX9_named_17 : decode cX9_named 17 = .ok (.iload_n 2, 1) := by decide +kernel
theorem dX9_named_18 : decode cX9_named 18 = .ok (.baload, 1) := by decide +kernel
theorem dX9_named_19 : decode cX9_named 19 = .ok (.ifCond .eq 7, 3) := by decide +kernel
theorem dX9_named_22 : decode cX9_named 22 = .ok (.iconst 1, 1) := by decide +kernel
theorem dX9_named_23 : decode cX9_named 23 = .ok (.goto 4, 3) := by decide +kernel
theorem dX9_named_26 : decode cX9_named 26 = .ok (.iconst 0, 1) := by decide +kernel
theorem dX9_named_27 : decode cX9_named 27 = .ok (.iadd, 1) := by decide +kernel
theorem dX9_named_28 : decode cX9_named 28 = .ok (.istore_n 1, 1) := by decide +kernel
theorem dX9_named_29 : decode cX9_named 29 = .ok (.iinc 2 1, 3) := by decide +kernel
theorem dX9_named_32 : decode cX9_named 32 = .ok (.goto (-28), 3) := by decide +kernel
theorem dX9_named_35 : decode cX9_named 35 = .ok (.iload_n 1, 1) := by decide +kernel
theorem dX9_named_36 : decode cX9_named 36 = .ok (.ireturn, 1) := by decide +kernel
theorem dX9_tries_0 : decode cX9_tries 0 = .ok (.iconst 0, 1) := by decide +kernel
theorem dX9_tries_1 : decode cX9_tries 1 = .ok (.istore_n 3, 1) := by decide +kernel
theorem dX9_tries_2 : decode cX9_tries 2 = .ok (.lconst 0, 1) := by decide +kernel
theorem dX9_tries_3 : decode cX9_tries 3 = .ok (.lstore 4, 2) := by decide +kernel
theorem dX9_tries_5 : decode cX9_tries 5 = .ok (.iconst 0, 1) := by decide +kernel
theorem dX9_tries_6 : decode cX9_tries 6 = .ok (.istore 6, 2) := by decide +kernel
theorem dX9_tries_8 : decode cX9_tries 8 = .ok (.iload 6, 2) := by decide +kernel
theorem dX9_tries_10 : decode cX9_tries 10 = .ok (.aload_n 0, 1) := by decide +kernel
theorem dX9_tries_11 : decode cX9_tries 11 = .ok (.getfield 163, 3) := by decide +kernel
theorem dX9_tries_14 : decode cX9_tries 14 = .ok (.if_icmp .ge 132, 3) := by decide +kernel
theorem dX9_tries_17 : decode cX9_tries 17 = .ok (.aload_n 0, 1) := by decide +kernel
theorem dX9_tries_18 : decode cX9_tries 18 = .ok (.getfield 58, 3) := by decide +kernel
theorem dX9_tries_21 : decode cX9_tries 21 = .ok (.iload 6, 2) := by decide +kernel
theorem dX9_tries_23 : decode cX9_tries 23 = .ok (.baload, 1) := by decide +kernel
theorem dX9_tries_24 : decode cX9_tries 24 = .ok (.ifCond .ne 6, 3) := by decide +kernel
theorem dX9_tries_27 : decode cX9_tries 27 = .ok (.goto 113, 3) := by decide +kernel
theorem dX9_tries_30 : decode cX9_tries 30 = .ok (.aload_n 0, 1) := by decide +kernel
theorem dX9_tries_31 : decode cX9_tries 31 = .ok (.getfield 30, 3) := by decide +kernel
theorem dX9_tries_34 : decode cX9_tries 34 = .ok (.sipush 300, 3) := by decide +kernel
theorem dX9_tries_37 : decode cX9_tries 37 = .ok (.iload 6, 2) := by decide +kernel
theorem dX9_tries_39 : decode cX9_tries 39 = .ok (.imul, 1) := by decide +kernel
theorem dX9_tries_40 : decode cX9_tries 40 = .ok (.iaload, 1) := by decide +kernel
theorem dX9_tries_41 : decode cX9_tries 41 = .ok (.iload_n 1, 1) := by decide +kernel
theorem dX9_tries_42 : decode cX9_tries 42 = .ok (.iadd, 1) := by decide +kernel
theorem dX9_tries_43 : decode cX9_tries 43 = .ok (.istore 7, 2) := by decide +kernel
theorem dX9_tries_45 : decode cX9_tries 45 = .ok (.ldc 231, 2) := by decide +kernel
theorem dX9_tries_47 : decode cX9_tries 47 = .ok (.istore 8, 2) := by decide +kernel
theorem dX9_tries_49 : decode cX9_tries 49 = .ok (.iconst 0, 1) := by decide +kernel
theorem dX9_tries_50 : decode cX9_tries 50 = .ok (.istore 9, 2) := by decide +kernel
theorem dX9_tries_52 : decode cX9_tries 52 = .ok (.iload 9, 2) := by decide +kernel
theorem dX9_tries_54 : decode cX9_tries 54 = .ok (.aload_n 0, 1) := by decide +kernel
theorem dX9_tries_55 : decode cX9_tries 55 = .ok (.getfield 226, 3) := by decide +kernel
theorem dX9_tries_58 : decode cX9_tries 58 = .ok (.if_icmp .ge 62, 3) := by decide +kernel
theorem dX9_tries_61 : decode cX9_tries 61 = .ok (.iload 7, 2) := by decide +kernel
theorem dX9_tries_63 : decode cX9_tries 63 = .ok (.aload_n 0, 1) := by decide +kernel
theorem dX9_tries_64 : decode cX9_tries 64 = .ok (.getfield 55, 3) := by decide +kernel
theorem dX9_tries_67 : decode cX9_tries 67 = .ok (.iload 9, 2) := by decide +kernel
theorem dX9_tries_69 : decode cX9_tries 69 = .ok (.iaload, 1) := by decide +kernel
theorem dX9_tries_70 : decode cX9_tries 70 = .ok (.if_icmp .ge 16, 3) := by decide +kernel
theorem dX9_tries_73 : decode cX9_tries 73 = .ok (.aload_n 0, 1) := by decide +kernel
theorem dX9_tries_74 : decode cX9_tries 74 = .ok (.getfield 55, 3) := by decide +kernel
theorem dX9_tries_77 : decode cX9_tries 77 = .ok (.iload 9, 2) := by decide +kernel
theorem dX9_tries_79 : decode cX9_tries 79 = .ok (.iaload, 1) := by decide +kernel
theorem dX9_tries_80 : decode cX9_tries 80 = .ok (.iload 7, 2) := by decide +kernel
theorem dX9_tries_82 : decode cX9_tries 82 = .ok (.isub, 1) := by decide +kernel
theorem dX9_tries_83 : decode cX9_tries 83 = .ok (.goto 13, 3) := by decide +kernel
theorem dX9_tries_86 : decode cX9_tries 86 = .ok (.iload 7, 2) := by decide +kernel
theorem dX9_tries_88 : decode cX9_tries 88 = .ok (.aload_n 0, 1) := by decide +kernel
theorem dX9_tries_89 : decode cX9_tries 89 = .ok (.getfield 55, 3) := by decide +kernel
theorem dX9_tries_92 : decode cX9_tries 92 = .ok (.iload 9, 2) := by decide +kernel
theorem dX9_tries_94 : decode cX9_tries 94 = .ok (.iaload, 1) := by decide +kernel
theorem dX9_tries_95 : decode cX9_tries 95 = .ok (.isub, 1) := by decide +kernel
theorem dX9_tries_96 : decode cX9_tries 96 = .ok (.istore 10, 2) := by decide +kernel
theorem dX9_tries_98 : decode cX9_tries 98 = .ok (.iload 10, 2) := by decide +kernel
theorem dX9_tries_100 : decode cX9_tries 100 = .ok (.iload 8, 2) := by decide +kernel
theorem dX9_tries_102 : decode cX9_tries 102 = .ok (.if_icmp .ge 8, 3) := by decide +kernel
theorem dX9_tries_105 : decode cX9_tries 105 = .ok (.iload 10, 2) := by decide +kernel
theorem dX9_tries_107 : decode cX9_tries 107 = .ok (.goto 5, 3) := by decide +kernel
theorem dX9_tries_110 : decode cX9_tries 110 = .ok (.iload 8, 2) := by decide +kernel
theorem dX9_tries_112 : decode cX9_tries 112 = .ok (.istore 8, 2) := by decide +kernel
theorem dX9_tries_114 : decode cX9_tries 114 = .ok (.iinc 9 1, 3) := by decide +kernel
theorem dX9_tries_117 : decode cX9_tries 117 = .ok (.goto (-65), 3) := by decide +kernel
theorem dX9_tries_120 : decode cX9_tries 120 = .ok (.iload 8, 2) := by decide +kernel
theorem dX9_tries_122 : decode cX9_tries 122 = .ok (.iload_n 2, 1) := by decide +kernel
theorem dX9_tries_123 : decode cX9_tries 123 = .ok (.if_icmp .le 6, 3) := by decide +kernel
theorem dX9_tries_126 : decode cX9_tries 126 = .ok (.goto 14, 3) := by decide +kernel
theorem dX9_tries_129 : decode cX9_tries 129 = .ok (.iinc 3 1, 3) := by decide +kernel
theorem dX9_tries_132 : decode cX9_tries 132 = .ok (.lload 4, 2) := by decide +kernel
theorem dX9_tries_134 : decode cX9_tries 134 = .ok (.iload 8, 2) := by decide +kernel
theorem dX9_tries_136 : decode cX9_tries 136 = .ok (.i2l, 1) := by decide +kernel
theorem dX9_tries_137 : decode cX9_tries 137 = .ok (.ladd, 1) := by decide +kernel
theorem dX9_tries_138 : decode cX9_tries 138 = .ok (.lstore 4, 2) := by decide +kernel
theorem dX9_tries_140 : decode cX9_tries 140 = .ok (.iinc 6 1, 3) := by decide +kernel
theorem dX9_tries_143 : decode cX9_tries 143 = .ok (.goto (-135), 3) := by decide +kernel
theorem dX9_tries_146 : decode cX9_tries 146 = .ok (.iload_n 3, 1) := by decide +kernel
theorem dX9_tries_147 : decode cX9_tries 147 = .ok (.aload_n 0, 1) := by decide +kernel
theorem dX9_tries_148 : decode cX9_tries 148 = .ok (.getfield 232, 3) := by decide +kernel
theorem dX9_tries_151 : decode cX9_tries 151 = .ok (.if_icmp .gt 39, 3) := by decide +kernel
theorem dX9_tries_154 : decode cX9_tries 154 = .ok (.iload_n 3, 1) := by decide +kernel
theorem dX9_tries_155 : decode cX9_tries 155 = .ok (.aload_n 0, 1) := by decide +kernel
theorem dX9_tries_156 : decode cX9_tries 156 = .ok (.getfield 232, 3) := by decide +kernel
theorem dX9_tries_159 : decode cX9_tries 159 = .ok (.if_icmp .ne 35, 3) := by decide +kernel
theorem dX9_tries_162 : decode cX9_tries 162 = .ok (.lload 4, 2) := by decide +kernel
theorem dX9_tries_164 : decode cX9_tries 164 = .ok (.aload_n 0, 1) := by decide +kernel
theorem dX9_tries_165 : decode cX9_tries 165 = .ok (.getfield 235, 3) := by decide +kernel
theorem dX9_tries_168 : decode cX9_tries 168 = .ok (.lcmp, 1) := by decide +kernel
theorem dX9_tries_169 : decode cX9_tries 169 = .ok (.ifCond .lt 21, 3) := by decide +kernel
theorem dX9_tries_172 : decode cX9_tries 172 = .ok (.lload 4, 2) := by decide +kernel
theorem dX9_tries_174 : decode cX9_tries 174 = .ok (.aload_n 0, 1) := by decide +kernel
theorem dX9_tries_175 : decode cX9_tries 175 = .ok (.getfield 235, 3) := by decide +kernel
theorem dX9_tries_178 : decode cX9_tries 178 = .ok (.lcmp, 1) := by decide +kernel
theorem dX9_tries_179 : decode cX9_tries 179 = .ok (.ifCond .ne 15, 3) := by decide +kernel
theorem dX9_tries_182 : decode cX9_tries 182 = .ok (.iload_n 1, 1) := by decide +kernel
theorem dX9_tries_183 : decode cX9_tries 183 = .ok (.aload_n 0, 1) := by decide +kernel
theorem dX9_tries_184 : decode cX9_tries 184 = .ok (.getfield 238, 3) := by decide +kernel
theorem dX9_tries_187 : decode cX9_tries 187 = .ok (.if_icmp .ge 7, 3) := by decide +kernel
theorem dX9_tries_190 : decode cX9_tries 190 = .ok (.iconst 1, 1) := by decide +kernel
theorem dX9_tries_191 : decode cX9_tries 191 = .ok (.goto 4, 3) := by decide +kernel
theorem dX9_tries_194 : decode cX9_tries 194 = .ok (.iconst 0, 1) := by decide +kernel
theorem dX9_tries_195 : decode cX9_tries 195 = .ok (.istore 6, 2) := by decide +kernel
theorem dX9_tries_197 : decode cX9_tries 197 = .ok (.iload 6, 2) := by decide +kernel
theorem dX9_tries_199 : decode cX9_tries 199 = .ok (.ifCond .ne 4, 3) := by decide +kernel
theorem dX9_tries_202 : decode cX9_tries 202 = .ok (.return_, 1) := by decide +kernel
theorem dX9_tries_203 : decode cX9_tries 203 = .ok (.aload_n 0, 1) := by decide +kernel
theorem dX9_tries_204 : decode cX9_tries 204 = .ok (.iload_n 3, 1) := by decide +kernel
theorem dX9_tries_205 : decode cX9_tries 205 = .ok (.putfield 232, 3) := by decide +kernel
theorem dX9_tries_208 : decode cX9_tries 208 = .ok (.aload_n 0, 1) := by decide +kernel
theorem dX9_tries_209 : decode cX9_tries 209 = .ok (.lload 4, 2) := by decide +kernel
theorem dX9_tries_211 : decode cX9_tries 211 = .ok (.putfield 235, 3) := by decide +kernel
theorem dX9_tries_214 : decode cX9_tries 214 = .ok (.aload_n 0, 1) := by decide +kernel
theorem dX9_tries_215 : decode cX9_tries 215 = .ok (.iload_n 1, 1) := by decide +kernel
theorem dX9_tries_216 : decode cX9_tries 216 = .ok (.putfield 238, 3) := by decide +kernel
theorem dX9_tries_219 : decode cX9_tries 219 = .ok (.return_, 1) := by decide +kernel
set_option maxRecDepth 20000 in
theorem ggX9_starts_X9_tries : GoodIn wsX9_starts wsX9_tries := goodIn_r _ [14, 5, 6, 9, 3, 7, 8, 1, 2, 4, 15, 16, 17, 18, 19, 20, 21, 22, 23, 24, 25, 26, 27, 28, 29, 30, 31, 32, 33, 34, 35, 36, 37, 38, 39, 40, 41, 42, 43, 44, 45, 46, 47] (by decide +kernel) (by decide +kernel)
set_option maxRecDepth 20000 in
theorem gX9_starts_X9_tries : GoodIn wsX9_starts (wsV RX9 241 RX9 yX9_tries wsX9_tries) := goodIn_app (goodIn_of _ (by decide +kernel)) ggX9_starts_X9_tries
theorem dX9_starts_0 : decode cX9_starts 0 = .ok (.aload_n 0, 1) := by decide +kernel
theorem dX9_starts_1 : decode cX9_starts 1 = .ok (.iconst 0, 1) := by decide +kernel
theorem dX9_starts_2 : decode cX9_starts 2 = .ok (.putfield 232, 3) := by decide +kernel
theorem dX9_starts_5 : decode cX9_starts 5 = .ok (.aload_n 0, 1) := by decide +kernel
theorem dX9_starts_6 : decode cX9_starts 6 = .ok (.lconst 0, 1) := by decide +kernel
theorem dX9_starts_7 : decode cX9_starts 7 = .ok (.putfield 235, 3) := by decide +kernel
theorem dX9_starts_10 : decode cX9_starts 10 = .ok (.aload_n 0, 1) := by decide +kernel
theorem dX9_starts_11 : decode cX9_starts 11 = .ok (.ldc 231, 2) := by decide +kernel
theorem dX9_starts_13 : decode cX9_starts 13 = .ok (.putfield 238, 3) := by decide +kernel
theorem dX9_starts_16 : decode cX9_starts 16 = .ok (.iconst 0, 1) := by decide +kernel
theorem dX9_starts_17 : decode cX9_starts 17 = .ok (.istore_n 2, 1) := by decide +kernel
theorem dX9_starts_18 : decode cX9_starts 18 = .ok (.iload_n 2, 1) := by decide +kernel
theorem dX9_starts_19 : decode cX9_starts 19 = .ok (.aload_n 0, 1) := by decide +kernel
theorem dX9_starts_20 : decode cX9_starts 20 = .ok (.getfield 163, 3) := by decide +kernel
theorem dX9_starts_23 : decode cX9_starts 23 = .ok (.if_icmp .ge 92, 3) := by decide +kernel
theorem dX9_starts_26 : decode cX9_starts 26 = .ok (.aload_n 0, 1) := by decide +kernel
theorem dX9_starts_27 : decode cX9_starts 27 = .ok (.getfield 58, 3) := by decide +kernel
theorem dX9_starts_30 : decode cX9_starts 30 = .ok (.iload_n 2, 1) := by decide +kernel
theorem dX9_starts_31 : decode cX9_starts 31 = .ok (.baload, 1) := by decide +kernel
theorem dX9_starts_32 : decode cX9_starts 32 = .ok (.ifCond .ne 6, 3) := by decide +kernel
theorem dX9_starts_35 : decode cX9_starts 35 = .ok (.goto 74, 3) := by decide +kernel
theorem dX9_starts_38 : decode cX9_starts 38 = .ok (.iconst 0, 1) := by decide +kernel
theorem dX9_starts_39 : decode cX9_starts 39 = .ok (.istore_n 3, 1) := by decide +kernel
theorem dX9_starts_40 : decode cX9_starts 40 = .ok (.iload_n 3, 1) := by decide +kernel
theorem dX9_starts_41 : decode cX9_starts 41 = .ok (.aload_n 0, 1) := by decide +kernel
theorem dX9_starts_42 : decode cX9_starts 42 = .ok (.getfield 226, 3) := by decide +kernel
theorem dX9_starts_45 : decode cX9_starts 45 = .ok (.if_icmp .ge 64, 3) := by decide +kernel
theorem dX9_starts_48 : decode cX9_starts 48 = .ok (.aload_n 0, 1) := by decide +kernel
theorem dX9_starts_49 : decode cX9_starts 49 = .ok (.getfield 55, 3) := by decide +kernel
theorem dX9_starts_52 : decode cX9_starts 52 = .ok (.iload_n 3, 1) := by decide +kernel
theorem dX9_starts_53 : decode cX9_starts 53 = .ok (.iaload, 1) := by decide +kernel
theorem dX9_starts_54 : decode cX9_starts 54 = .ok (.aload_n 0, 1) := by decide +kernel
theorem dX9_starts_55 : decode cX9_starts 55 = .ok (.getfield 30, 3) := by decide +kernel
theorem dX9_starts_58 : decode cX9_starts 58 = .ok (.sipush 300, 3) := by decide +kernel
theorem dX9_starts_61 : decode cX9_starts 61 = .ok (.iload_n 2, 1) := by decide +kernel
theorem dX9_starts_62 : decode cX9_starts 62 = .ok (.imul, 1) := by decide +kernel
theorem dX9_starts_63 : decode cX9_starts 63 = .ok (.iaload, 1) := by decide +kernel
theorem dX9_starts_64 : decode cX9_starts 64 = .ok (.isub, 1) := by decide +kernel
theorem dX9_starts_65 : decode cX9_starts 65 = .ok (.istore 4, 2) := by decide +kernel
theorem dX9_starts_67 : decode cX9_starts 67 = .ok (.aload_n 0, 1) := by decide +kernel
theorem dX9_starts_68 : decode cX9_starts 68 = .ok (.iload 4, 2) := by decide +kernel
theorem dX9_starts_70 : decode cX9_starts 70 = .ok (.iload_n 1, 1) := by decide +kernel
theorem dX9_starts_71 : decode cX9_starts 71 = .ok (.invokevirtual 241, 3) := by decide +kernel
theorem dX9_starts_74 : decode cX9_starts 74 = .ok (.aload_n 0, 1) := by decide +kernel
theorem dX9_starts_75 : decode cX9_starts 75 = .ok (.iload 4, 2) := by decide +kernel
theorem dX9_starts_77 : decode cX9_starts 77 = .ok (.iload_n 1, 1) := by decide +kernel
theorem dX9_starts_78 : decode cX9_starts 78 = .ok (.isub, 1) := by decide +kernel
theorem dX9_starts_79 : decode cX9_starts 79 = .ok (.iload_n 1, 1) := by decide +kernel
theorem dX9_starts_80 : decode cX9_starts 80 = .ok (.invokevirtual 241, 3) := by decide +kernel
theorem dX9_starts_83 : decode cX9_starts 83 = .ok (.aload_n 0, 1) := by decide +kernel
theorem dX9_starts_84 : decode cX9_starts 84 = .ok (.iload 4, 2) := by decide +kernel
theorem dX9_starts_86 : decode cX9_starts 86 = .ok (.iload_n 1, 1) := by decide +kernel
theorem dX9_starts_87 : decode cX9_starts 87 = .ok (.iadd, 1) := by decide +kernel
theorem dX9_starts_88 : decode cX9_starts 88 = .ok (.iload_n 1, 1) := by decide +kernel
theorem dX9_starts_89 : decode cX9_starts 89 = .ok (.invokevirtual 241, 3) := by decide +kernel
theorem dX9_starts_92 : decode cX9_starts 92 = .ok (.aload_n 0, 1) := by decide +kernel
theorem dX9_starts_93 : decode cX9_starts 93 = .ok (.iload 4, 2) := by decide +kernel
theorem dX9_starts_95 : decode cX9_starts 95 = .ok (.iload_n 1, 1) := by decide +kernel
theorem dX9_starts_96 : decode cX9_starts 96 = .ok (.iadd, 1) := by decide +kernel
theorem dX9_starts_97 : decode cX9_starts 97 = .ok (.iconst 1, 1) := by decide +kernel
theorem dX9_starts_98 : decode cX9_starts 98 = .ok (.iadd, 1) := by decide +kernel
theorem dX9_starts_99 : decode cX9_starts 99 = .ok (.iload_n 1, 1) := by decide +kernel
theorem dX9_starts_100 : decode cX9_starts 100 = .ok (.invokevirtual 241, 3) := by decide +kernel
theorem dX9_starts_103 : decode cX9_starts 103 = .ok (.iinc 3 1, 3) := by decide +kernel
theorem dX9_starts_106 : decode cX9_starts 106 = .ok (.goto (-66), 3) := by decide +kernel
theorem dX9_starts_109 : decode cX9_starts 109 = .ok (.iinc 2 1, 3) := by decide +kernel
theorem dX9_starts_112 : decode cX9_starts 112 = .ok (.goto (-94), 3) := by decide +kernel
theorem dX9_starts_115 : decode cX9_starts 115 = .ok (.return_, 1) := by decide +kernel
set_option maxRecDepth 20000 in
theorem ggX9_isAsked_X9_bad : GoodIn wsX9_isAsked wsX9_bad := goodIn_r _ [7, 1, 14, 15, 16, 17, 18, 19, 20, 21, 22, 23, 24, 25, 26, 27, 28, 29, 30, 31, 32, 33, 34, 35, 36, 37, 38, 39, 40, 41, 42, 43, 44, 45, 46] (by decide +kernel) (by decide +kernel)
set_option maxRecDepth 20000 in
theorem gX9_isAsked_X9_bad : GoodIn wsX9_isAsked (wsV RX9 65 RX9 yX9_bad wsX9_bad) := goodIn_app (goodIn_of _ (by decide +kernel)) ggX9_isAsked_X9_bad
set_option maxRecDepth 20000 in
theorem ggX9_isAsked_X9_named : GoodIn wsX9_isAsked wsX9_named := goodIn_r _ [11, 12, 13, 14, 15, 16, 17, 18, 19, 20, 21, 22, 23, 24, 25, 26, 27, 28, 29, 30, 31, 32, 33, 34, 35, 36, 37, 38, 39, 40, 41, 42, 43, 44, 45, 46] (by decide +kernel) (by decide +kernel)
set_option maxRecDepth 20000 in
theorem gX9_isAsked_X9_named : GoodIn wsX9_isAsked (wsV RX9 244 RX9 yX9_named wsX9_named) := goodIn_app (goodIn_of _ (by decide +kernel)) ggX9_isAsked_X9_named
theorem dX9_isAsked_0 : decode cX9_isAsked 0 = .ok (.aload_n 0, 1) := by decide +kernel
theorem dX9_isAsked_1 : decode cX9_isAsked 1 = .ok (.iconst 0, 1) := by decide +kernel
theorem dX9_isAsked_2 : decode cX9_isAsked 2 = .ok (.putfield 61, 3) := by decide +kernel
theorem dX9_isAsked_5 : decode cX9_isAsked 5 = .ok (.aload_n 0, 1) := by decide +kernel
theorem dX9_isAsked_6 : decode cX9_isAsked 6 = .ok (.iload_n 1, 1) := by decide +kernel
theorem dX9_isAsked_7 : decode cX9_isAsked 7 = .ok (.ifCond .lt 10, 3) := by decide +kernel
theorem dX9_isAsked_10 : decode cX9_isAsked 10 = .ok (.iload_n 1, 1) := by decide +kernel
theorem dX9_isAsked_11 : decode cX9_isAsked 11 = .ok (.sipush 1000, 3) := by decide +kernel
theorem dX9_isAsked_14 : decode cX9_isAsked 14 = .ok (.if_icmp .le 7, 3) := by decide +kernel
theorem dX9_isAsked_17 : decode cX9_isAsked 17 = .ok (.iconst 1, 1) := by decide +kernel
theorem dX9_isAsked_18 : decode cX9_isAsked 18 = .ok (.goto 4, 3) := by decide +kernel
theorem dX9_isAsked_21 : decode cX9_isAsked 21 = .ok (.iconst 0, 1) := by decide +kernel
theorem dX9_isAsked_22 : decode cX9_isAsked 22 = .ok (.iconst 1, 1) := by decide +kernel
theorem dX9_isAsked_23 : decode cX9_isAsked 23 = .ok (.invokevirtual 65, 3) := by decide +kernel
theorem dX9_isAsked_26 : decode cX9_isAsked 26 = .ok (.ifCond .ne 34, 3) := by decide +kernel
theorem dX9_isAsked_29 : decode cX9_isAsked 29 = .ok (.aload_n 0, 1) := by decide +kernel
theorem dX9_isAsked_30 : decode cX9_isAsked 30 = .ok (.aload_n 0, 1) := by decide +kernel
theorem dX9_isAsked_31 : decode cX9_isAsked 31 = .ok (.getfield 226, 3) := by decide +kernel
theorem dX9_isAsked_34 : decode cX9_isAsked 34 = .ok (.ifCond .eq 10, 3) := by decide +kernel
theorem dX9_isAsked_37 : decode cX9_isAsked 37 = .ok (.aload_n 0, 1) := by decide +kernel
theorem dX9_isAsked_38 : decode cX9_isAsked 38 = .ok (.invokevirtual 244, 3) := by decide +kernel
theorem dX9_isAsked_41 : decode cX9_isAsked 41 = .ok (.ifCond .ne 7, 3) := by decide +kernel
theorem dX9_isAsked_44 : decode cX9_isAsked 44 = .ok (.iconst 1, 1) := by decide +kernel
theorem dX9_isAsked_45 : decode cX9_isAsked 45 = .ok (.goto 4, 3) := by decide +kernel
theorem dX9_isAsked_48 : decode cX9_isAsked 48 = .ok (.iconst 0, 1) := by decide +kernel
theorem dX9_isAsked_49 : decode cX9_isAsked 49 = .ok (.iconst 2, 1) := by decide +kernel
theorem dX9_isAsked_50 : decode cX9_isAsked 50 = .ok (.invokevirtual 65, 3) := by decide +kernel
theorem dX9_isAsked_53 : decode cX9_isAsked 53 = .ok (.ifCond .ne 7, 3) := by decide +kernel
theorem dX9_isAsked_56 : decode cX9_isAsked 56 = .ok (.iconst 1, 1) := by decide +kernel
theorem dX9_isAsked_57 : decode cX9_isAsked 57 = .ok (.goto 4, 3) := by decide +kernel
theorem dX9_isAsked_60 : decode cX9_isAsked 60 = .ok (.iconst 0, 1) := by decide +kernel
theorem dX9_isAsked_61 : decode cX9_isAsked 61 = .ok (.ireturn, 1) := by decide +kernel
set_option maxRecDepth 20000 in
theorem ggX9_start_X9_isAsked : GoodIn wsX9_start wsX9_isAsked := goodIn_r _ [6, 7, 8, 9, 10, 11, 5, 12, 13, 14, 15, 16, 17, 18, 32, 33, 34, 35, 36, 37, 38, 39, 40, 41, 42, 43, 44, 45, 46, 47, 48, 49, 50, 51, 52, 53, 54, 55, 56, 57, 58, 59, 60, 61, 62, 63, 64] (by decide +kernel) (by decide +kernel)
set_option maxRecDepth 20000 in
theorem gX9_start_X9_isAsked : GoodIn wsX9_start (wsV RX9 247 RX9 yX9_isAsked wsX9_isAsked) := goodIn_app (goodIn_of _ (by decide +kernel)) ggX9_start_X9_isAsked
set_option maxRecDepth 20000 in
theorem ggX9_start_X9_starts : GoodIn wsX9_start wsX9_starts := goodIn_r _ [22, 23, 24, 25, 1, 17, 18, 8, 26, 27, 28, 29, 30, 5, 31, 32, 33, 34, 35, 36, 37, 38, 39, 40, 41, 42, 43, 44, 45, 46, 47, 48, 49, 50, 51, 52, 53, 54, 55, 56, 57, 58, 59, 60, 61, 62, 63, 64] (by decide +kernel) (by decide +kernel)
set_option maxRecDepth 20000 in
theorem gX9_start_X9_starts : GoodIn wsX9_start (wsV RX9 250 RX9 yX9_starts wsX9_starts) := goodIn_app (goodIn_of _ (by decide +kernel)) ggX9_start_X9_starts
theorem dX9_start_0 : decode cX9_start 0 = .ok (.aload_n 0, 1) := by decide +kernel
theorem dX9_start_1 : decode cX9_start 1 = .ok (.iload_n 1, 1) := by decide +kernel
theorem dX9_start_2 : decode cX9_start 2 = .ok (.invokevirtual 247, 3) := by decide +kernel
theorem dX9_start_5 : decode cX9_start 5 = .ok (.ifCond .ne 5, 3) := by decide +kernel
theorem dX9_start_8 : decode cX9_start 8 = .ok (.iconst 0, 1) := by decide +kernel
theorem dX9_start_9 : decode cX9_start 9 = .ok (.ireturn, 1) := by decide +kernel
theorem dX9_start_10 : decode cX9_start 10 = .ok (.aload_n 0, 1) := by decide +kernel
theorem dX9_start_11 : decode cX9_start 11 = .ok (.iload_n 1, 1) := by decide +kernel
theorem dX9_start_12 : decode cX9_start 12 = .ok (.invokevirtual 250, 3) := by decide +kernel
theorem dX9_start_15 : decode cX9_start 15 = .ok (.aload_n 0, 1) := by decide +kernel
theorem dX9_start_16 : decode cX9_start 16 = .ok (.getfield 238, 3) := by decide +kernel
theorem dX9_start_19 : decode cX9_start 19 = .ok (.ireturn, 1) := by decide +kernel
set_option maxRecDepth 20000 in
theorem ggX9_agrees_X9_isAsked : GoodIn wsX9_agrees wsX9_isAsked := goodIn_r _ [6, 7, 8, 9, 10, 11, 5, 12, 13, 14, 15, 16, 17, 18, 32, 33, 34, 35, 36, 37, 38, 39, 40, 41, 42, 43, 44, 45, 46, 47, 48, 49, 50, 51, 52, 53, 54, 55, 56, 57, 58, 59, 60, 61, 62, 63, 64] (by decide +kernel) (by decide +kernel)
set_option maxRecDepth 20000 in
theorem gX9_agrees_X9_isAsked : GoodIn wsX9_agrees (wsV RX9 247 RX9 yX9_isAsked wsX9_isAsked) := goodIn_app (goodIn_of _ (by decide +kernel)) ggX9_agrees_X9_isAsked
set_option maxRecDepth 20000 in
theorem ggX9_agrees_X9_starts : GoodIn wsX9_agrees wsX9_starts := goodIn_r _ [22, 1, 23, 24, 25, 17, 18, 8, 26, 27, 28, 29, 30, 5, 31, 32, 33, 34, 35, 36, 37, 38, 39, 40, 41, 42, 43, 44, 45, 46, 47, 48, 49, 50, 51, 52, 53, 54, 55, 56, 57, 58, 59, 60, 61, 62, 63, 64] (by decide +kernel) (by decide +kernel)
set_option maxRecDepth 20000 in
theorem gX9_agrees_X9_starts : GoodIn wsX9_agrees (wsV RX9 250 RX9 yX9_starts wsX9_starts) := goodIn_app (goodIn_of _ (by decide +kernel)) ggX9_agrees_X9_starts
theorem dX9_agrees_0 : decode cX9_agrees 0 = .ok (.aload_n 0, 1) := by decide +kernel
theorem dX9_agrees_1 : decode cX9_agrees 1 = .ok (.iload_n 1, 1) := by decide +kernel
theorem dX9_agrees_2 : decode cX9_agrees 2 = .ok (.invokevirtual 247, 3) := by decide +kernel
theorem dX9_agrees_5 : decode cX9_agrees 5 = .ok (.ifCond .ne 5, 3) := by decide +kernel
theorem dX9_agrees_8 : decode cX9_agrees 8 = .ok (.iconst 0, 1) := by decide +kernel
theorem dX9_agrees_9 : decode cX9_agrees 9 = .ok (.ireturn, 1) := by decide +kernel
theorem dX9_agrees_10 : decode cX9_agrees 10 = .ok (.aload_n 0, 1) := by decide +kernel
theorem dX9_agrees_11 : decode cX9_agrees 11 = .ok (.iload_n 1, 1) := by decide +kernel
theorem dX9_agrees_12 : decode cX9_agrees 12 = .ok (.invokevirtual 250, 3) := by decide +kernel
theorem dX9_agrees_15 : decode cX9_agrees 15 = .ok (.aload_n 0, 1) := by decide +kernel
theorem dX9_agrees_16 : decode cX9_agrees 16 = .ok (.getfield 232, 3) := by decide +kernel
theorem dX9_agrees_19 : decode cX9_agrees 19 = .ok (.ireturn, 1) := by decide +kernel
set_option maxRecDepth 20000 in
theorem ggX9_count_X9_named : GoodIn wsX9_count wsX9_named := goodIn_r _ [11, 3, 12, 18, 19, 20, 21, 22, 23, 24, 25, 26, 27, 28, 29, 30, 31, 32, 33, 34, 35, 36, 37, 38, 39, 40, 41, 42, 43, 44, 45, 46, 47, 48, 49, 50] (by decide +kernel) (by decide +kernel)
set_option maxRecDepth 20000 in
theorem gX9_count_X9_named : GoodIn wsX9_count (wsV RX9 244 RX9 yX9_named wsX9_named) := goodIn_app (goodIn_of _ (by decide +kernel)) ggX9_count_X9_named
set_option maxRecDepth 20000 in
theorem ggX9_count_X9_inNet : GoodIn wsX9_count wsX9_inNet := goodIn_r _ [16, 17, 18, 19, 20, 21, 22, 23, 24, 25, 26, 27, 28, 29, 30, 31, 32, 33, 34, 35, 36, 37, 38, 39, 40, 41, 42, 43, 44, 45, 46, 47, 48, 49, 50] (by decide +kernel) (by decide +kernel)
set_option maxRecDepth 20000 in
theorem gX9_count_X9_inNet : GoodIn wsX9_count (wsV RX9 201 RX9 yX9_inNet wsX9_inNet) := goodIn_app (goodIn_of _ (by decide +kernel)) ggX9_count_X9_inNet
theorem dX9_count_0 : decode cX9_count 0 = .ok (.aload_n 0, 1) := by decide +kernel
theorem dX9_count_1 : decode cX9_count 1 = .ok (.iconst 0, 1) := by decide +kernel
theorem dX9_count_2 : decode cX9_count 2 = .ok (.putfield 61, 3) := by decide +kernel
theorem dX9_count_5 : decode cX9_count 5 = .ok (.iconst 0, 1) := by decide +kernel
theorem dX9_count_6 : decode cX9_count 6 = .ok (.istore_n 2, 1) := by decide +kernel
theorem dX9_count_7 : decode cX9_count 7 = .ok (.iload_n 1, 1) := by decide +kernel
theorem dX9_count_8 : decode cX9_count 8 = .ok (.tableswitch 108 0 6 #[44, 49, 54, 59, 64, 69, 74], 44) := by decide +kernel
theorem dX9_count_52 : decode cX9_count 52 = .ok (.aload_n 0, 1) := by decide +kernel
theorem dX9_count_53 : decode cX9_count 53 = .ok (.getfield 69, 3) := by decide +kernel
theorem dX9_count_56 : decode cX9_count 56 = .ok (.ireturn, 1) := by decide +kernel
theorem dX9_count_57 : decode cX9_count 57 = .ok (.aload_n 0, 1) := by decide +kernel
theorem dX9_count_58 : decode cX9_count 58 = .ok (.getfield 163, 3) := by decide +kernel
theorem dX9_count_61 : decode cX9_count 61 = .ok (.ireturn, 1) := by decide +kernel
theorem dX9_count_62 : decode cX9_count 62 = .ok (.aload_n 0, 1) := by decide +kernel
theorem dX9_count_63 : decode cX9_count 63 = .ok (.getfield 192, 3) := by decide +kernel
theorem dX9_count_66 : decode cX9_count 66 = .ok (.ireturn, 1) := by decide +kernel
theorem dX9_count_67 : decode cX9_count 67 = .ok (.aload_n 0, 1) := by decide +kernel
theorem dX9_count_68 : decode cX9_count 68 = .ok (.getfield 226, 3) := by decide +kernel
theorem dX9_count_71 : decode cX9_count 71 = .ok (.ireturn, 1) := by decide +kernel
theorem dX9_count_72 : decode cX9_count 72 = .ok (.aload_n 0, 1) := by decide +kernel
theorem dX9_count_73 : decode cX9_count 73 = .ok (.invokevirtual 244, 3) := by decide +kernel
theorem dX9_count_76 : decode cX9_count 76 = .ok (.ireturn, 1) := by decide +kernel
theorem dX9_count_77 : decode cX9_count 77 = .ok (.aload_n 0, 1) := by decide +kernel
theorem dX9_count_78 : decode cX9_count 78 = .ok (.getfield 90, 3) := by decide +kernel
theorem dX9_count_81 : decode cX9_count 81 = .ok (.ireturn, 1) := by decide +kernel
theorem dX9_count_82 : decode cX9_count 82 = .ok (.iconst 0, 1) := by decide +kernel
theorem dX9_count_83 : decode cX9_count 83 = .ok (.istore_n 3, 1) := by decide +kernel
theorem dX9_count_84 : decode cX9_count 84 = .ok (.iload_n 3, 1) := by decide +kernel
theorem dX9_count_85 : decode cX9_count 85 = .ok (.aload_n 0, 1) := by decide +kernel
theorem dX9_count_86 : decode cX9_count 86 = .ok (.getfield 163, 3) := by decide +kernel
theorem dX9_count_89 : decode cX9_count 89 = .ok (.if_icmp .ge 25, 3) := by decide +kernel
theorem dX9_count_92 : decode cX9_count 92 = .ok (.iload_n 2, 1) := by decide +kernel
theorem dX9_count_93 : decode cX9_count 93 = .ok (.aload_n 0, 1) := by decide +kernel
theorem dX9_count_94 : decode cX9_count 94 = .ok (.iload_n 3, 1) := by decide +kernel
theorem dX9_count_95 : decode cX9_count 95 = .ok (.invokevirtual 201, 3) := by decide +kernel
theorem dX9_count_98 : decode cX9_count 98 = .ok (.ifCond .eq 7, 3) := by decide +kernel
theorem dX9_count_101 : decode cX9_count 101 = .ok (.iconst 1, 1) := by decide +kernel
theorem dX9_count_102 : decode cX9_count 102 = .ok (.goto 4, 3) := by decide +kernel
theorem dX9_count_105 : decode cX9_count 105 = .ok (.iconst 0, 1) := by decide +kernel
theorem dX9_count_106 : decode cX9_count 106 = .ok (.iadd, 1) := by decide +kernel
theorem dX9_count_107 : decode cX9_count 107 = .ok (.istore_n 2, 1) := by decide +kernel
theorem dX9_count_108 : decode cX9_count 108 = .ok (.iinc 3 1, 3) := by decide +kernel
theorem dX9_count_111 : decode cX9_count 111 = .ok (.goto (-27), 3) := by decide +kernel
theorem dX9_count_114 : decode cX9_count 114 = .ok (.iload_n 2, 1) := by decide +kernel
theorem dX9_count_115 : decode cX9_count 115 = .ok (.ireturn, 1) := by decide +kernel
theorem dX9_count_116 : decode cX9_count 116 = .ok (.iconst (-1), 1) := by decide +kernel
theorem dX9_count_117 : decode cX9_count 117 = .ok (.ireturn, 1) := by decide +kernel
