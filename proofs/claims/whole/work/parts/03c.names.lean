theorem dX5_init_0 : decode cX5_init 0 = .ok (.aload_n 0, 1) := by decide +kernel
theorem dX5_init_1 : decode cX5_init 1 = .ok (.invokespecial 3, 3) := by decide +kernel
theorem dX5_init_4 : decode cX5_init 4 = .ok (.aload_n 0, 1) := by decide +kernel
theorem dX5_init_5 : decode cX5_init 5 = .ok (.bipush 40, 2) := by decide +kernel
theorem dX5_init_7 : decode cX5_init 7 = .ok (.newarray .int, 2) := by decide +kernel
theorem dX5_init_9 : decode cX5_init 9 = .ok (.putfield 9, 3) := by decide +kernel
theorem dX5_init_12 : decode cX5_init 12 = .ok (.aload_n 0, 1) := by decide +kernel
theorem dX5_init_13 : decode cX5_init 13 = .ok (.bipush 30, 2) := by decide +kernel
theorem dX5_init_15 : decode cX5_init 15 = .ok (.newarray .boolean, 2) := by decide +kernel
theorem dX5_init_17 : decode cX5_init 17 = .ok (.putfield 15, 3) := by decide +kernel
theorem dX5_init_20 : decode cX5_init 20 = .ok (.aload_n 0, 1) := by decide +kernel
theorem dX5_init_21 : decode cX5_init 21 = .ok (.bipush 30, 2) := by decide +kernel
theorem dX5_init_23 : decode cX5_init 23 = .ok (.newarray .int, 2) := by decide +kernel
theorem dX5_init_25 : decode cX5_init 25 = .ok (.putfield 19, 3) := by decide +kernel
theorem dX5_init_28 : decode cX5_init 28 = .ok (.aload_n 0, 1) := by decide +kernel
theorem dX5_init_29 : decode cX5_init 29 = .ok (.bipush 120, 2) := by decide +kernel
theorem dX5_init_31 : decode cX5_init 31 = .ok (.newarray .int, 2) := by decide +kernel
theorem dX5_init_33 : decode cX5_init 33 = .ok (.putfield 22, 3) := by decide +kernel
theorem dX5_init_36 : decode cX5_init 36 = .ok (.aload_n 0, 1) := by decide +kernel
theorem dX5_init_37 : decode cX5_init 37 = .ok (.bipush 30, 2) := by decide +kernel
theorem dX5_init_39 : decode cX5_init 39 = .ok (.newarray .int, 2) := by decide +kernel
theorem dX5_init_41 : decode cX5_init 41 = .ok (.putfield 25, 3) := by decide +kernel
theorem dX5_init_44 : decode cX5_init 44 = .ok (.aload_n 0, 1) := by decide +kernel
theorem dX5_init_45 : decode cX5_init 45 = .ok (.bipush 30, 2) := by decide +kernel
theorem dX5_init_47 : decode cX5_init 47 = .ok (.newarray .int, 2) := by decide +kernel
theorem dX5_init_49 : decode cX5_init 49 = .ok (.putfield 28, 3) := by decide +kernel
theorem dX5_init_52 : decode cX5_init 52 = .ok (.aload_n 0, 1) := by decide +kernel
theorem dX5_init_53 : decode cX5_init 53 = .ok (.iconst (-1), 1) := by decide +kernel
theorem dX5_init_54 : decode cX5_init 54 = .ok (.putfield 31, 3) := by decide +kernel
theorem dX5_init_57 : decode cX5_init 57 = .ok (.return_, 1) := by decide +kernel
theorem dX5_add_0 : decode cX5_add 0 = .ok (.aload_n 0, 1) := by decide +kernel
theorem dX5_add_1 : decode cX5_add 1 = .ok (.getfield 35, 3) := by decide +kernel
theorem dX5_add_4 : decode cX5_add 4 = .ok (.istore_n 2, 1) := by decide +kernel
theorem dX5_add_5 : decode cX5_add 5 = .ok (.aload_n 0, 1) := by decide +kernel
theorem dX5_add_6 : decode cX5_add 6 = .ok (.getfield 35, 3) := by decide +kernel
theorem dX5_add_9 : decode cX5_add 9 = .ok (.iconst 1, 1) := by decide +kernel
theorem dX5_add_10 : decode cX5_add 10 = .ok (.isub, 1) := by decide +kernel
theorem dX5_add_11 : decode cX5_add 11 = .ok (.istore_n 3, 1) := by decide +kernel
theorem dX5_add_12 : decode cX5_add 12 = .ok (.iload_n 3, 1) := by decide +kernel
theorem dX5_add_13 : decode cX5_add 13 = .ok (.ifCond .lt 21, 3) := by decide +kernel
theorem dX5_add_16 : decode cX5_add 16 = .ok (.aload_n 0, 1) := by decide +kernel
theorem dX5_add_17 : decode cX5_add 17 = .ok (.getfield 9, 3) := by decide +kernel
theorem dX5_add_20 : decode cX5_add 20 = .ok (.iload_n 3, 1) := by decide +kernel
theorem dX5_add_21 : decode cX5_add 21 = .ok (.iaload, 1) := by decide +kernel
theorem dX5_add_22 : decode cX5_add 22 = .ok (.iload_n 1, 1) := by decide +kernel
theorem dX5_add_23 : decode cX5_add 23 = .ok (.if_icmp .lt 11, 3) := by decide +kernel
theorem dX5_add_26 : decode cX5_add 26 = .ok (.iload_n 3, 1) := by decide +kernel
theorem dX5_add_27 : decode cX5_add 27 = .ok (.istore_n 2, 1) := by decide +kernel
theorem dX5_add_28 : decode cX5_add 28 = .ok (.iinc 3 (-1), 3) := by decide +kernel
theorem dX5_add_31 : decode cX5_add 31 = .ok (.goto (-19), 3) := by decide +kernel
theorem dX5_add_34 : decode cX5_add 34 = .ok (.iload_n 2, 1) := by decide +kernel
theorem dX5_add_35 : decode cX5_add 35 = .ok (.aload_n 0, 1) := by decide +kernel
theorem dX5_add_36 : decode cX5_add 36 = .ok (.getfield 35, 3) := by decide +kernel
theorem dX5_add_39 : decode cX5_add 39 = .ok (.if_icmp .ge 15, 3) := by decide +kernel
theorem dX5_add_42 : decode cX5_add 42 = .ok (.aload_n 0, 1) := by decide +kernel
theorem dX5_add_43 : decode cX5_add 43 = .ok (.getfield 9, 3) := by decide +kernel
theorem dX5_add_46 : decode cX5_add 46 = .ok (.iload_n 2, 1) := by decide +kernel
theorem dX5_add_47 : decode cX5_add 47 = .ok (.iaload, 1) := by decide +kernel
theorem dX5_add_48 : decode cX5_add 48 = .ok (.iload_n 1, 1) := by decide +kernel
theorem dX5_add_49 : decode cX5_add 49 = .ok (.if_icmp .ne 5, 3) := by decide +kernel
theorem dX5_add_52 : decode cX5_add 52 = .ok (.iconst (-1), 1) := by decide +kernel
theorem dX5_add_53 : decode cX5_add 53 = .ok (.ireturn, 1) := by decide +kernel
theorem dX5_add_54 : decode cX5_add 54 = .ok (.aload_n 0, 1) := by decide +kernel
theorem dX5_add_55 : decode cX5_add 55 = .ok (.getfield 35, 3) := by decide +kernel
theorem dX5_add_58 : decode cX5_add 58 = .ok (.bipush 40, 2) := by decide +kernel
theorem dX5_add_60 : decode cX5_add 60 = .ok (.if_icmp .lt 6, 3) := by decide +kernel
theorem dX5_add_63 : decode cX5_add 63 = .ok (.bipush (-2), 2) := by decide +kernel
theorem dX5_add_65 : decode cX5_add 65 = .ok (.ireturn, 1) := by decide +kernel
theorem dX5_add_66 : decode cX5_add 66 = .ok (.aload_n 0, 1) := by decide +kernel
theorem dX5_add_67 : decode cX5_add 67 = .ok (.getfield 9, 3) := by decide +kernel
theorem dX5_add_70 : decode cX5_add 70 = .ok (.iload_n 2, 1) := by decide +kernel
theorem dX5_add_71 : decode cX5_add 71 = .ok (.aload_n 0, 1) := by decide +kernel
theorem dX5_add_72 : decode cX5_add 72 = .ok (.getfield 9, 3) := by decide +kernel
theorem dX5_add_75 : decode cX5_add 75 = .ok (.iload_n 2, 1) := by decide +kernel
theorem dX5_add_76 : decode cX5_add 76 = .ok (.iconst 1, 1) := by decide +kernel
theorem dX5_add_77 : decode cX5_add 77 = .ok (.iadd, 1) := by decide +kernel
theorem dX5_add_78 : decode cX5_add 78 = .ok (.aload_n 0, 1) := by decide +kernel
theorem dX5_add_79 : decode cX5_add 79 = .ok (.getfield 35, 3) := by decide +kernel
theorem dX5_add_82 : decode cX5_add 82 = .ok (.iload_n 2, 1) := by decide +kernel
theorem dX5_add_83 : decode cX5_add 83 = .ok (.isub, 1) := by decide +kernel
theorem dX5_add_84 : decode cX5_add 84 = .ok (.invokestatic 38, 3) := by decide +kernel
theorem dX5_add_87 : decode cX5_add 87 = .ok (.aload_n 0, 1) := by decide +kernel
theorem dX5_add_88 : decode cX5_add 88 = .ok (.getfield 9, 3) := by decide +kernel
theorem dX5_add_91 : decode cX5_add 91 = .ok (.iload_n 2, 1) := by decide +kernel
theorem dX5_add_92 : decode cX5_add 92 = .ok (.iload_n 1, 1) := by decide +kernel
theorem dX5_add_93 : decode cX5_add 93 = .ok (.iastore, 1) := by decide +kernel
theorem dX5_add_94 : decode cX5_add 94 = .ok (.aload_n 0, 1) := by decide +kernel
theorem dX5_add_95 : decode cX5_add 95 = .ok (.dup, 1) := by decide +kernel
theorem dX5_add_96 : decode cX5_add 96 = .ok (.getfield 35, 3) := by decide +kernel
theorem dX5_add_99 : decode cX5_add 99 = .ok (.iconst 1, 1) := by decide +kernel
theorem dX5_add_100 : decode cX5_add 100 = .ok (.iadd, 1) := by decide +kernel
theorem dX5_add_101 : decode cX5_add 101 = .ok (.putfield 35, 3) := by decide +kernel
theorem dX5_add_104 : decode cX5_add 104 = .ok (.aload_n 0, 1) := by decide +kernel
theorem dX5_add_105 : decode cX5_add 105 = .ok (.iconst (-1), 1) := by decide +kernel
theorem dX5_add_106 : decode cX5_add 106 = .ok (.putfield 31, 3) := by decide +kernel
theorem dX5_add_109 : decode cX5_add 109 = .ok (.aload_n 0, 1) := by decide +kernel
theorem dX5_add_110 : decode cX5_add 110 = .ok (.getfield 35, 3) := by decide +kernel
theorem dX5_add_113 : decode cX5_add 113 = .ok (.ireturn, 1) := by decide +kernel
theorem dX5_tell_0 : decode cX5_tell 0 = .ok (.iload_n 1, 1) := by decide +kernel
theorem dX5_tell_1 : decode cX5_tell 1 = .ok (.ifCond .lt 9, 3) := by decide +kernel
theorem dX5_tell_4 : decode cX5_tell 4 = .ok (.iload_n 1, 1) := by decide +kernel
theorem dX5_tell_5 : decode cX5_tell 5 = .ok (.bipush 30, 2) := by decide +kernel
theorem dX5_tell_7 : decode cX5_tell 7 = .ok (.if_icmp .lt 5, 3) := by decide +kernel
theorem dX5_tell_10 : decode cX5_tell 10 = .ok (.iconst 0, 1) := by decide +kernel
theorem dX5_tell_11 : decode cX5_tell 11 = .ok (.ireturn, 1) := by decide +kernel
theorem dX5_tell_12 : decode cX5_tell 12 = .ok (.aload_n 0, 1) := by decide +kernel
theorem dX5_tell_13 : decode cX5_tell 13 = .ok (.getfield 15, 3) := by decide +kernel
theorem dX5_tell_16 : decode cX5_tell 16 = .ok (.iload_n 1, 1) := by decide +kernel
theorem dX5_tell_17 : decode cX5_tell 17 = .ok (.baload, 1) := by decide +kernel
theorem dX5_tell_18 : decode cX5_tell 18 = .ok (.istore 4, 2) := by decide +kernel
theorem dX5_tell_20 : decode cX5_tell 20 = .ok (.iload 4, 2) := by decide +kernel
theorem dX5_tell_22 : decode cX5_tell 22 = .ok (.iload_n 3, 1) := by decide +kernel
theorem dX5_tell_23 : decode cX5_tell 23 = .ok (.if_icmp .eq 40, 3) := by decide +kernel
theorem dX5_tell_26 : decode cX5_tell 26 = .ok (.aload_n 0, 1) := by decide +kernel
theorem dX5_tell_27 : decode cX5_tell 27 = .ok (.getfield 15, 3) := by decide +kernel
theorem dX5_tell_30 : decode cX5_tell 30 = .ok (.iload_n 1, 1) := by decide +kernel
theorem dX5_tell_31 : decode cX5_tell 31 = .ok (.iload_n 3, 1) := by decide +kernel
theorem dX5_tell_32 : decode cX5_tell 32 = .ok (.bastore, 1) := by decide +kernel
theorem dX5_tell_33 : decode cX5_tell 33 = .ok (.aload_n 0, 1) := by decide +kernel
theorem dX5_tell_34 : decode cX5_tell 34 = .ok (.getfield 19, 3) := by decide +kernel
theorem dX5_tell_37 : decode cX5_tell 37 = .ok (.iload_n 1, 1) := by decide +kernel
theorem dX5_tell_38 : decode cX5_tell 38 = .ok (.iload_n 2, 1) := by decide +kernel
theorem dX5_tell_39 : decode cX5_tell 39 = .ok (.iastore, 1) := by decide +kernel
theorem dX5_tell_40 : decode cX5_tell 40 = .ok (.aload_n 0, 1) := by decide +kernel
theorem dX5_tell_41 : decode cX5_tell 41 = .ok (.dup, 1) := by decide +kernel
theorem dX5_tell_42 : decode cX5_tell 42 = .ok (.getfield 44, 3) := by decide +kernel
theorem dX5_tell_45 : decode cX5_tell 45 = .ok (.iload_n 3, 1) := by decide +kernel
theorem dX5_tell_46 : decode cX5_tell 46 = .ok (.ifCond .eq 7, 3) := by decide +kernel
theorem dX5_tell_49 : decode cX5_tell 49 = .ok (.iconst 1, 1) := by decide +kernel
theorem dX5_tell_50 : decode cX5_tell 50 = .ok (.goto 4, 3) := by decide +kernel
theorem dX5_tell_53 : decode cX5_tell 53 = .ok (.iconst (-1), 1) := by decide +kernel
theorem dX5_tell_54 : decode cX5_tell 54 = .ok (.iadd, 1) := by decide +kernel
theorem dX5_tell_55 : decode cX5_tell 55 = .ok (.putfield 44, 3) := by decide +kernel
theorem dX5_tell_58 : decode cX5_tell 58 = .ok (.aload_n 0, 1) := by decide +kernel
theorem dX5_tell_59 : decode cX5_tell 59 = .ok (.iconst (-1), 1) := by decide +kernel
theorem dX5_tell_60 : decode cX5_tell 60 = .ok (.putfield 31, 3) := by decide +kernel
theorem dX5_tell_63 : decode cX5_tell 63 = .ok (.iload 4, 2) := by decide +kernel
theorem dX5_tell_65 : decode cX5_tell 65 = .ok (.ireturn, 1) := by decide +kernel
set_option maxRecDepth 20000 in
theorem ggX5_solve_X5_placeTurns : GoodIn wsX5_solve wsX5_placeTurns := goodIn_r _ [14, 6, 15, 16, 17, 18, 19, 20, 21, 22, 7, 44, 45, 46, 47, 48, 49, 50, 51, 52, 53, 54, 55, 56, 57, 58] (by decide +kernel) (by decide +kernel)
set_option maxRecDepth 20000 in
theorem gX5_solve_X5_placeTurns : GoodIn wsX5_solve (wsV RX5 47 RX5 yX5_placeTurns wsX5_placeTurns) := goodIn_app (goodIn_of _ (by decide +kernel)) ggX5_solve_X5_placeTurns
set_option maxRecDepth 20000 in
theorem ggX5_solve_X5_gatherDates : GoodIn wsX5_solve wsX5_gatherDates := goodIn_r _ [26, 27, 9, 28, 8, 44, 45, 46, 47, 48, 49, 50, 51, 52, 53, 54, 55, 56, 57, 58] (by decide +kernel) (by decide +kernel)
set_option maxRecDepth 20000 in
theorem gX5_solve_X5_gatherDates : GoodIn wsX5_solve (wsV RX5 51 RX5 yX5_gatherDates wsX5_gatherDates) := goodIn_app (goodIn_of _ (by decide +kernel)) ggX5_solve_X5_gatherDates
set_option maxRecDepth 20000 in
theorem ggX5_solve_X5_firstToTurn : GoodIn wsX5_solve wsX5_firstToTurn := goodIn_r _ [32, 8, 6, 7, 9, 44, 45, 46, 47, 48, 49, 50, 51, 52, 53, 54, 55, 56, 57, 58] (by decide +kernel) (by decide +kernel)
set_option maxRecDepth 20000 in
theorem gX5_solve_X5_firstToTurn : GoodIn wsX5_solve (wsV RX5 68 RX5 yX5_firstToTurn wsX5_firstToTurn) := goodIn_app (goodIn_of _ (by decide +kernel)) ggX5_solve_X5_firstToTurn
set_option maxRecDepth 20000 in
theorem ggX5_solve_X5_consider : GoodIn wsX5_solve wsX5_consider := goodIn_r _ [36, 4, 3, 2, 5, 37, 38, 44, 45, 46, 47, 48, 49, 50, 51, 52, 53, 54, 55, 56, 57, 58] (by decide +kernel) (by decide +kernel)
set_option maxRecDepth 20000 in
theorem gX5_solve_X5_consider : GoodIn wsX5_solve (wsV RX5 72 RX5 yX5_consider wsX5_consider) := goodIn_app (goodIn_of _ (by decide +kernel)) ggX5_solve_X5_consider
set_option maxRecDepth 20000 in
theorem ggX5_solve_X5_turn : GoodIn wsX5_solve wsX5_turn := goodIn_r _ [42, 8, 7, 9, 4, 43, 3, 2, 44, 45, 46, 47, 48, 49, 50, 51, 52, 53, 54, 55, 56, 57, 58] (by decide +kernel) (by decide +kernel)
set_option maxRecDepth 20000 in
theorem gX5_solve_X5_turn : GoodIn wsX5_solve (wsV RX5 75 RX5 yX5_turn wsX5_turn) := goodIn_app (goodIn_of _ (by decide +kernel)) ggX5_solve_X5_turn
theorem dX5_solve_0 : decode cX5_solve 0 = .ok (.aload_n 0, 1) := by decide +kernel
theorem dX5_solve_1 : decode cX5_solve 1 = .ok (.getfield 31, 3) := by decide +kernel
theorem dX5_solve_4 : decode cX5_solve 4 = .ok (.iload_n 1, 1) := by decide +kernel
theorem dX5_solve_5 : decode cX5_solve 5 = .ok (.if_icmp .ne 4, 3) := by decide +kernel
theorem dX5_solve_8 : decode cX5_solve 8 = .ok (.return_, 1) := by decide +kernel
theorem dX5_solve_9 : decode cX5_solve 9 = .ok (.aload_n 0, 1) := by decide +kernel
theorem dX5_solve_10 : decode cX5_solve 10 = .ok (.iload_n 1, 1) := by decide +kernel
theorem dX5_solve_11 : decode cX5_solve 11 = .ok (.putfield 31, 3) := by decide +kernel
theorem dX5_solve_14 : decode cX5_solve 14 = .ok (.aload_n 0, 1) := by decide +kernel
theorem dX5_solve_15 : decode cX5_solve 15 = .ok (.iload_n 1, 1) := by decide +kernel
theorem dX5_solve_16 : decode cX5_solve 16 = .ok (.invokevirtual 47, 3) := by decide +kernel
theorem dX5_solve_19 : decode cX5_solve 19 = .ok (.aload_n 0, 1) := by decide +kernel
theorem dX5_solve_20 : decode cX5_solve 20 = .ok (.invokevirtual 51, 3) := by decide +kernel
theorem dX5_solve_23 : decode cX5_solve 23 = .ok (.istore_n 2, 1) := by decide +kernel
theorem dX5_solve_24 : decode cX5_solve 24 = .ok (.aload_n 0, 1) := by decide +kernel
theorem dX5_solve_25 : decode cX5_solve 25 = .ok (.iconst 0, 1) := by decide +kernel
theorem dX5_solve_26 : decode cX5_solve 26 = .ok (.putfield 55, 3) := by decide +kernel
theorem dX5_solve_29 : decode cX5_solve 29 = .ok (.aload_n 0, 1) := by decide +kernel
theorem dX5_solve_30 : decode cX5_solve 30 = .ok (.iconst 0, 1) := by decide +kernel
theorem dX5_solve_31 : decode cX5_solve 31 = .ok (.putfield 58, 3) := by decide +kernel
theorem dX5_solve_34 : decode cX5_solve 34 = .ok (.aload_n 0, 1) := by decide +kernel
theorem dX5_solve_35 : decode cX5_solve 35 = .ok (.lconst 0, 1) := by decide +kernel
theorem dX5_solve_36 : decode cX5_solve 36 = .ok (.putfield 61, 3) := by decide +kernel
theorem dX5_solve_39 : decode cX5_solve 39 = .ok (.aload_n 0, 1) := by decide +kernel
theorem dX5_solve_40 : decode cX5_solve 40 = .ok (.iconst 0, 1) := by decide +kernel
theorem dX5_solve_41 : decode cX5_solve 41 = .ok (.putfield 65, 3) := by decide +kernel
theorem dX5_solve_44 : decode cX5_solve 44 = .ok (.iconst 0, 1) := by decide +kernel
theorem dX5_solve_45 : decode cX5_solve 45 = .ok (.istore_n 3, 1) := by decide +kernel
theorem dX5_solve_46 : decode cX5_solve 46 = .ok (.iconst 3, 1) := by decide +kernel
theorem dX5_solve_47 : decode cX5_solve 47 = .ok (.aload_n 0, 1) := by decide +kernel
theorem dX5_solve_48 : decode cX5_solve 48 = .ok (.getfield 35, 3) := by decide +kernel
theorem dX5_solve_51 : decode cX5_solve 51 = .ok (.imul, 1) := by decide +kernel
theorem dX5_solve_52 : decode cX5_solve 52 = .ok (.iload_n 2, 1) := by decide +kernel
theorem dX5_solve_53 : decode cX5_solve 53 = .ok (.imul, 1) := by decide +kernel
theorem dX5_solve_54 : decode cX5_solve 54 = .ok (.istore 4, 2) := by decide +kernel
theorem dX5_solve_56 : decode cX5_solve 56 = .ok (.iconst 0, 1) := by decide +kernel
theorem dX5_solve_57 : decode cX5_solve 57 = .ok (.istore 5, 2) := by decide +kernel
theorem dX5_solve_59 : decode cX5_solve 59 = .ok (.iload 5, 2) := by decide +kernel
theorem dX5_solve_61 : decode cX5_solve 61 = .ok (.iload 4, 2) := by decide +kernel
theorem dX5_solve_63 : decode cX5_solve 63 = .ok (.if_icmp .ge 77, 3) := by decide +kernel
theorem dX5_solve_66 : decode cX5_solve 66 = .ok (.aload_n 0, 1) := by decide +kernel
theorem dX5_solve_67 : decode cX5_solve 67 = .ok (.iload_n 2, 1) := by decide +kernel
theorem dX5_solve_68 : decode cX5_solve 68 = .ok (.invokevirtual 68, 3) := by decide +kernel
theorem dX5_solve_71 : decode cX5_solve 71 = .ok (.istore 6, 2) := by decide +kernel
theorem dX5_solve_73 : decode cX5_solve 73 = .ok (.iload 6, 2) := by decide +kernel
theorem dX5_solve_75 : decode cX5_solve 75 = .ok (.ifCond .ge 4, 3) := by decide +kernel
theorem dX5_solve_78 : decode cX5_solve 78 = .ok (.return_, 1) := by decide +kernel
theorem dX5_solve_79 : decode cX5_solve 79 = .ok (.aload_n 0, 1) := by decide +kernel
theorem dX5_solve_80 : decode cX5_solve 80 = .ok (.getfield 22, 3) := by decide +kernel
theorem dX5_solve_83 : decode cX5_solve 83 = .ok (.aload_n 0, 1) := by decide +kernel
theorem dX5_solve_84 : decode cX5_solve 84 = .ok (.getfield 28, 3) := by decide +kernel
theorem dX5_solve_87 : decode cX5_solve 87 = .ok (.iload 6, 2) := by decide +kernel
theorem dX5_solve_89 : decode cX5_solve 89 = .ok (.iaload, 1) := by decide +kernel
theorem dX5_solve_90 : decode cX5_solve 90 = .ok (.iaload, 1) := by decide +kernel
theorem dX5_solve_91 : decode cX5_solve 91 = .ok (.aload_n 0, 1) := by decide +kernel
theorem dX5_solve_92 : decode cX5_solve 92 = .ok (.getfield 25, 3) := by decide +kernel
theorem dX5_solve_95 : decode cX5_solve 95 = .ok (.iload 6, 2) := by decide +kernel
theorem dX5_solve_97 : decode cX5_solve 97 = .ok (.iaload, 1) := by decide +kernel
theorem dX5_solve_98 : decode cX5_solve 98 = .ok (.isub, 1) := by decide +kernel
theorem dX5_solve_99 : decode cX5_solve 99 = .ok (.istore 7, 2) := by decide +kernel
theorem dX5_solve_101 : decode cX5_solve 101 = .ok (.iload 5, 2) := by decide +kernel
theorem dX5_solve_103 : decode cX5_solve 103 = .ok (.ifCond .le 22, 3) := by decide +kernel
theorem dX5_solve_106 : decode cX5_solve 106 = .ok (.iload 7, 2) := by decide +kernel
theorem dX5_solve_108 : decode cX5_solve 108 = .ok (.iload_n 3, 1) := by decide +kernel
theorem dX5_solve_109 : decode cX5_solve 109 = .ok (.if_icmp .le 16, 3) := by decide +kernel
theorem dX5_solve_112 : decode cX5_solve 112 = .ok (.aload_n 0, 1) := by decide +kernel
theorem dX5_solve_113 : decode cX5_solve 113 = .ok (.iload_n 3, 1) := by decide +kernel
theorem dX5_solve_114 : decode cX5_solve 114 = .ok (.invokevirtual 72, 3) := by decide +kernel
theorem dX5_solve_117 : decode cX5_solve 117 = .ok (.aload_n 0, 1) := by decide +kernel
theorem dX5_solve_118 : decode cX5_solve 118 = .ok (.iload 7, 2) := by decide +kernel
theorem dX5_solve_120 : decode cX5_solve 120 = .ok (.iconst 1, 1) := by decide +kernel
theorem dX5_solve_121 : decode cX5_solve 121 = .ok (.isub, 1) := by decide +kernel
theorem dX5_solve_122 : decode cX5_solve 122 = .ok (.invokevirtual 72, 3) := by decide +kernel
theorem dX5_solve_125 : decode cX5_solve 125 = .ok (.iload 7, 2) := by decide +kernel
theorem dX5_solve_127 : decode cX5_solve 127 = .ok (.istore_n 3, 1) := by decide +kernel
theorem dX5_solve_128 : decode cX5_solve 128 = .ok (.aload_n 0, 1) := by decide +kernel
theorem dX5_solve_129 : decode cX5_solve 129 = .ok (.iload 6, 2) := by decide +kernel
theorem dX5_solve_131 : decode cX5_solve 131 = .ok (.invokevirtual 75, 3) := by decide +kernel
theorem dX5_solve_134 : decode cX5_solve 134 = .ok (.iinc 5 1, 3) := by decide +kernel
theorem dX5_solve_137 : decode cX5_solve 137 = .ok (.goto (-78), 3) := by decide +kernel
theorem dX5_solve_140 : decode cX5_solve 140 = .ok (.return_, 1) := by decide +kernel
theorem dX5_placeTurns_0 : decode cX5_placeTurns 0 = .ok (.iconst 0, 1) := by decide +kernel
theorem dX5_placeTurns_1 : decode cX5_placeTurns 1 = .ok (.istore_n 2, 1) := by decide +kernel
theorem dX5_placeTurns_2 : decode cX5_placeTurns 2 = .ok (.iload_n 2, 1) := by decide +kernel
theorem dX5_placeTurns_3 : decode cX5_placeTurns 3 = .ok (.aload_n 0, 1) := by decide +kernel
theorem dX5_placeTurns_4 : decode cX5_placeTurns 4 = .ok (.getfield 35, 3) := by decide +kernel
theorem dX5_placeTurns_7 : decode cX5_placeTurns 7 = .ok (.if_icmp .ge 129, 3) := by decide +kernel
theorem dX5_placeTurns_10 : decode cX5_placeTurns 10 = .ok (.aload_n 0, 1) := by decide +kernel
theorem dX5_placeTurns_11 : decode cX5_placeTurns 11 = .ok (.getfield 9, 3) := by decide +kernel
theorem dX5_placeTurns_14 : decode cX5_placeTurns 14 = .ok (.iload_n 2, 1) := by decide +kernel
theorem dX5_placeTurns_15 : decode cX5_placeTurns 15 = .ok (.iaload, 1) := by decide +kernel
theorem dX5_placeTurns_16 : decode cX5_placeTurns 16 = .ok (.iload_n 1, 1) := by decide +kernel
theorem dX5_placeTurns_17 : decode cX5_placeTurns 17 = .ok (.isub, 1) := by decide +kernel
theorem dX5_placeTurns_18 : decode cX5_placeTurns 18 = .ok (.istore_n 3, 1) := by decide +kernel
theorem dX5_placeTurns_19 : decode cX5_placeTurns 19 = .ok (.aload_n 0, 1) := by decide +kernel
theorem dX5_placeTurns_20 : decode cX5_placeTurns 20 = .ok (.getfield 9, 3) := by decide +kernel
theorem dX5_placeTurns_23 : decode cX5_placeTurns 23 = .ok (.iload_n 2, 1) := by decide +kernel
theorem dX5_placeTurns_24 : decode cX5_placeTurns 24 = .ok (.iaload, 1) := by decide +kernel
theorem dX5_placeTurns_25 : decode cX5_placeTurns 25 = .ok (.iload_n 1, 1) := by decide +kernel
theorem dX5_placeTurns_26 : decode cX5_placeTurns 26 = .ok (.iadd, 1) := by decide +kernel
theorem dX5_placeTurns_27 : decode cX5_placeTurns 27 = .ok (.istore 4, 2) := by decide +kernel
theorem dX5_placeTurns_29 : decode cX5_placeTurns 29 = .ok (.iload_n 2, 1) := by decide +kernel
theorem dX5_placeTurns_30 : decode cX5_placeTurns 30 = .ok (.ifCond .le 27, 3) := by decide +kernel
theorem dX5_placeTurns_33 : decode cX5_placeTurns 33 = .ok (.iload_n 3, 1) := by decide +kernel
theorem dX5_placeTurns_34 : decode cX5_placeTurns 34 = .ok (.aload_n 0, 1) := by decide +kernel
theorem dX5_placeTurns_35 : decode cX5_placeTurns 35 = .ok (.getfield 9, 3) := by decide +kernel
theorem dX5_placeTurns_38 : decode cX5_placeTurns 38 = .ok (.iload_n 2, 1) := by decide +kernel
theorem dX5_placeTurns_39 : decode cX5_placeTurns 39 = .ok (.iconst 1, 1) := by decide +kernel
theorem dX5_placeTurns_40 : decode cX5_placeTurns 40 = .ok (.isub, 1) := by decide +kernel
theorem dX5_placeTurns_41 : decode cX5_placeTurns 41 = .ok (.iaload, 1) := by decide +kernel
theorem dX5_placeTurns_42 : decode cX5_placeTurns 42 = .ok (.aload_n 0, 1) := by decide +kernel
theorem dX5_placeTurns_43 : decode cX5_placeTurns 43 = .ok (.getfield 9, 3) := by decide +kernel
theorem dX5_placeTurns_46 : decode cX5_placeTurns 46 = .ok (.iload_n 2, 1) := by decide +kernel
theorem dX5_placeTurns_47 : decode cX5_placeTurns 47 = .ok (.iaload, 1) := by decide +kernel
theorem dX5_placeTurns_48 : decode cX5_placeTurns 48 = .ok (.iadd, 1) := by decide +kernel
theorem dX5_placeTurns_49 : decode cX5_placeTurns 49 = .ok (.iconst 2, 1) := by decide +kernel
theorem dX5_placeTurns_50 : decode cX5_placeTurns 50 = .ok (.idiv, 1) := by decide +kernel
theorem dX5_placeTurns_51 : decode cX5_placeTurns 51 = .ok (.iconst 1, 1) := by decide +kernel
theorem dX5_placeTurns_52 : decode cX5_placeTurns 52 = .ok (.iadd, 1) := by decide +kernel
theorem dX5_placeTurns_53 : decode cX5_placeTurns 53 = .ok (.invokestatic 78, 3) := by decide +kernel
theorem dX5_placeTurns_56 : decode cX5_placeTurns 56 = .ok (.istore_n 3, 1) := by decide +kernel
theorem dX5_placeTurns_57 : decode cX5_placeTurns 57 = .ok (.iload_n 2, 1) := by decide +kernel
theorem dX5_placeTurns_58 : decode cX5_placeTurns 58 = .ok (.iconst 1, 1) := by decide +kernel
theorem dX5_placeTurns_59 : decode cX5_placeTurns 59 = .ok (.iadd, 1) := by decide +kernel
theorem dX5_placeTurns_60 : decode cX5_placeTurns 60 = .ok (.aload_n 0, 1) := by decide +kernel
theorem dX5_placeTurns_61 : decode cX5_placeTurns 61 = .ok (.getfield 35, 3) := by decide +kernel
theorem dX5_placeTurns_64 : decode cX5_placeTurns 64 = .ok (.if_icmp .ge 27, 3) := by decide +kernel
theorem dX5_placeTurns_67 : decode cX5_placeTurns 67 = .ok (.iload 4, 2) := by decide +kernel
theorem dX5_placeTurns_69 : decode cX5_placeTurns 69 = .ok (.aload_n 0, 1) := by decide +kernel
theorem dX5_placeTurns_70 : decode cX5_placeTurns 70 = .ok (.getfield 9, 3) := by decide +kernel
theorem dX5_placeTurns_73 : decode cX5_placeTurns 73 = .ok (.iload_n 2, 1) := by decide +kernel
theorem dX5_placeTurns_74 : decode cX5_placeTurns 74 = .ok (.iaload, 1) := by decide +kernel
theorem dX5_placeTurns_75 : decode cX5_placeTurns 75 = .ok (.aload_n 0, 1) := by decide +kernel
theorem dX5_placeTurns_76 : decode cX5_placeTurns 76 = .ok (.getfield 9, 3) := by decide +kernel
theorem dX5_placeTurns_79 : decode cX5_placeTurns 79 = .ok (.iload_n 2, 1) := by decide +kernel
theorem dX5_placeTurns_80 : decode cX5_placeTurns 80 = .ok (.iconst 1, 1) := by decide +kernel
theorem dX5_placeTurns_81 : decode cX5_placeTurns 81 = .ok (.iadd, 1) := by decide +kernel
theorem dX5_placeTurns_82 : decode cX5_placeTurns 82 = .ok (.iaload, 1) := by decide +kernel
theorem dX5_placeTurns_83 : decode cX5_placeTurns 83 = .ok (.iadd, 1) := by decide +kernel
theorem dX5_placeTurns_84 : decode cX5_placeTurns 84 = .ok (.iconst 2, 1) := by decide +kernel
theorem dX5_placeTurns_85 : decode cX5_placeTurns 85 = .ok (.idiv, 1) := by decide +kernel
theorem dX5_placeTurns_86 : decode cX5_placeTurns 86 = .ok (.invokestatic 84, 3) := by decide +kernel
theorem dX5_placeTurns_89 : decode cX5_placeTurns 89 = .ok (.istore 4, 2) := by decide +kernel
theorem dX5_placeTurns_91 : decode cX5_placeTurns 91 = .ok (.aload_n 0, 1) := by decide +kernel
theorem dX5_placeTurns_92 : decode cX5_placeTurns 92 = .ok (.getfield 22, 3) := by decide +kernel
theorem dX5_placeTurns_95 : decode cX5_placeTurns 95 = .ok (.iconst 3, 1) := by decide +kernel
theorem dX5_placeTurns_96 : decode cX5_placeTurns 96 = .ok (.iload_n 2, 1) := by decide +kernel
theorem dX5_placeTurns_97 : decode cX5_placeTurns 97 = .ok (.imul, 1) := by decide +kernel
theorem dX5_placeTurns_98 : decode cX5_placeTurns 98 = .ok (.iload_n 3, 1) := by decide +kernel
theorem dX5_placeTurns_99 : decode cX5_placeTurns 99 = .ok (.iastore, 1) := by decide +kernel
theorem dX5_placeTurns_100 : decode cX5_placeTurns 100 = .ok (.aload_n 0, 1) := by decide +kernel
theorem dX5_placeTurns_101 : decode cX5_placeTurns 101 = .ok (.getfield 22, 3) := by decide +kernel
theorem dX5_placeTurns_104 : decode cX5_placeTurns 104 = .ok (.iconst 3, 1) := by decide +kernel
theorem dX5_placeTurns_105 : decode cX5_placeTurns 105 = .ok (.iload_n 2, 1) := by decide +kernel
theorem dX5_placeTurns_106 : decode cX5_placeTurns 106 = .ok (.imul, 1) := by decide +kernel
theorem dX5_placeTurns_107 : decode cX5_placeTurns 107 = .ok (.iconst 1, 1) := by decide +kernel
theorem dX5_placeTurns_108 : decode cX5_placeTurns 108 = .ok (.iadd, 1) := by decide +kernel
theorem dX5_placeTurns_109 : decode cX5_placeTurns 109 = .ok (.aload_n 0, 1) := by decide +kernel
theorem dX5_placeTurns_110 : decode cX5_placeTurns 110 = .ok (.getfield 9, 3) := by decide +kernel
theorem dX5_placeTurns_113 : decode cX5_placeTurns 113 = .ok (.iload_n 2, 1) := by decide +kernel
theorem dX5_placeTurns_114 : decode cX5_placeTurns 114 = .ok (.iaload, 1) := by decide +kernel
theorem dX5_placeTurns_115 : decode cX5_placeTurns 115 = .ok (.iastore, 1) := by decide +kernel
theorem dX5_placeTurns_116 : decode cX5_placeTurns 116 = .ok (.aload_n 0, 1) := by decide +kernel
theorem dX5_placeTurns_117 : decode cX5_placeTurns 117 = .ok (.getfield 22, 3) := by decide +kernel
theorem dX5_placeTurns_120 : decode cX5_placeTurns 120 = .ok (.iconst 3, 1) := by decide +kernel
theorem dX5_placeTurns_121 : decode cX5_placeTurns 121 = .ok (.iload_n 2, 1) := by decide +kernel
theorem dX5_placeTurns_122 : decode cX5_placeTurns 122 = .ok (.imul, 1) := by decide +kernel
theorem dX5_placeTurns_123 : decode cX5_placeTurns 123 = .ok (.iconst 2, 1) := by decide +kernel
theorem dX5_placeTurns_124 : decode cX5_placeTurns 124 = .ok (.iadd, 1) := by decide +kernel
theorem dX5_placeTurns_125 : decode cX5_placeTurns 125 = .ok (.iload 4, 2) := by decide +kernel
theorem dX5_placeTurns_127 : decode cX5_placeTurns 127 = .ok (.iconst 1, 1) := by decide +kernel
theorem dX5_placeTurns_128 : decode cX5_placeTurns 128 = .ok (.iadd, 1) := by decide +kernel
theorem dX5_placeTurns_129 : decode cX5_placeTurns 129 = .ok (.iastore, 1) := by decide +kernel
theorem dX5_placeTurns_130 : decode cX5_placeTurns 130 = .ok (.iinc 2 1, 3) := by decide +kernel
theorem dX5_placeTurns_133 : decode cX5_placeTurns 133 = .ok (.goto (-131), 3) := by decide +kernel
theorem dX5_placeTurns_136 : decode cX5_placeTurns 136 = .ok (.return_, 1) := by decide +kernel
theorem dX5_gatherDates_0 : decode cX5_gatherDates 0 = .ok (.iconst 0, 1) := by decide +kernel
theorem dX5_gatherDates_1 : decode cX5_gatherDates 1 = .ok (.istore_n 1, 1) := by decide +kernel
theorem dX5_gatherDates_2 : decode cX5_gatherDates 2 = .ok (.iconst 0, 1) := by decide +kernel
theorem dX5_gatherDates_3 : decode cX5_gatherDates 3 = .ok (.istore_n 2, 1) := by decide +kernel
theorem dX5_gatherDates_4 : decode cX5_gatherDates 4 = .ok (.iload_n 2, 1) := by decide +kernel
theorem dX5_gatherDates_5 : decode cX5_gatherDates 5 = .ok (.bipush 30, 2) := by decide +kernel
theorem dX5_gatherDates_7 : decode cX5_gatherDates 7 = .ok (.if_icmp .ge 40, 3) := by decide +kernel
theorem dX5_gatherDates_10 : decode cX5_gatherDates 10 = .ok (.aload_n 0, 1) := by decide +kernel
theorem dX5_gatherDates_11 : decode cX5_gatherDates 11 = .ok (.getfield 15, 3) := by decide +kernel
theorem dX5_gatherDates_14 : decode cX5_gatherDates 14 = .ok (.iload_n 2, 1) := by decide +kernel
theorem dX5_gatherDates_15 : decode cX5_gatherDates 15 = .ok (.baload, 1) := by decide +kernel
theorem dX5_gatherDates_16 : decode cX5_gatherDates 16 = .ok (.ifCond .eq 25, 3) := by decide +kernel
theorem dX5_gatherDates_19 : decode cX5_gatherDates 19 = .ok (.aload_n 0, 1) := by decide +kernel
theorem dX5_gatherDates_20 : decode cX5_gatherDates 20 = .ok (.getfield 25, 3) := by decide +kernel
theorem dX5_gatherDates_23 : decode cX5_gatherDates 23 = .ok (.iload_n 1, 1) := by decide +kernel
theorem dX5_gatherDates_24 : decode cX5_gatherDates 24 = .ok (.aload_n 0, 1) := by decide +kernel
theorem dX5_gatherDates_25 : decode cX5_gatherDates 25 = .ok (.getfield 19, 3) := by decide +kernel
theorem dX5_gatherDates_28 : decode cX5_gatherDates 28 = .ok (.iload_n 2, 1) := by decide +kernel
theorem dX5_gatherDates_29 : decode cX5_gatherDates 29 = .ok (.iaload, 1) := by decide +kernel
theorem dX5_gatherDates_30 : decode cX5_gatherDates 30 = .ok (.iastore, 1) := by decide +kernel
theorem dX5_gatherDates_31 : decode cX5_gatherDates 31 = .ok (.aload_n 0, 1) := by decide +kernel
theorem dX5_gatherDates_32 : decode cX5_gatherDates 32 = .ok (.getfield 28, 3) := by decide +kernel
theorem dX5_gatherDates_35 : decode cX5_gatherDates 35 = .ok (.iload_n 1, 1) := by decide +kernel
theorem dX5_gatherDates_36 : decode cX5_gatherDates 36 = .ok (.iconst 0, 1) := by decide +kernel
theorem dX5_gatherDates_37 : decode cX5_gatherDates 37 = .ok (.iastore, 1) := by decide +kernel
theorem dX5_gatherDates_38 : decode cX5_gatherDates 38 = .ok (.iinc 1 1, 3) := by decide +kernel
theorem dX5_gatherDates_41 : decode cX5_gatherDates 41 = .ok (.iinc 2 1, 3) := by decide +kernel
theorem dX5_gatherDates_44 : decode cX5_gatherDates 44 = .ok (.goto (-40), 3) := by decide +kernel
theorem dX5_gatherDates_47 : decode cX5_gatherDates 47 = .ok (.iload_n 1, 1) := by decide +kernel
theorem dX5_gatherDates_48 : decode cX5_gatherDates 48 = .ok (.ireturn, 1) := by decide +kernel
theorem dX5_firstToTurn_0 : decode cX5_firstToTurn 0 = .ok (.iconst (-1), 1) := by decide +kernel
theorem dX5_firstToTurn_1 : decode cX5_firstToTurn 1 = .ok (.istore_n 2, 1) := by decide +kernel
theorem dX5_firstToTurn_2 : decode cX5_firstToTurn 2 = .ok (.iconst 0, 1) := by decide +kernel
theorem dX5_firstToTurn_3 : decode cX5_firstToTurn 3 = .ok (.istore_n 3, 1) := by decide +kernel
theorem dX5_firstToTurn_4 : decode cX5_firstToTurn 4 = .ok (.iconst 0, 1) := by decide +kernel
theorem dX5_firstToTurn_5 : decode cX5_firstToTurn 5 = .ok (.istore 4, 2) := by decide +kernel
theorem dX5_firstToTurn_7 : decode cX5_firstToTurn 7 = .ok (.iload 4, 2) := by decide +kernel
theorem dX5_firstToTurn_9 : decode cX5_firstToTurn 9 = .ok (.iload_n 1, 1) := by decide +kernel
theorem dX5_firstToTurn_10 : decode cX5_firstToTurn 10 = .ok (.if_icmp .ge 64, 3) := by decide +kernel
theorem dX5_firstToTurn_13 : decode cX5_firstToTurn 13 = .ok (.aload_n 0, 1) := by decide +kernel
theorem dX5_firstToTurn_14 : decode cX5_firstToTurn 14 = .ok (.getfield 28, 3) := by decide +kernel
theorem dX5_firstToTurn_17 : decode cX5_firstToTurn 17 = .ok (.iload 4, 2) := by decide +kernel
theorem dX5_firstToTurn_19 : decode cX5_firstToTurn 19 = .ok (.iaload, 1) := by decide +kernel
theorem dX5_firstToTurn_20 : decode cX5_firstToTurn 20 = .ok (.iconst 3, 1) := by decide +kernel
theorem dX5_firstToTurn_21 : decode cX5_firstToTurn 21 = .ok (.aload_n 0, 1) := by decide +kernel
theorem dX5_firstToTurn_22 : decode cX5_firstToTurn 22 = .ok (.getfield 35, 3) := by decide +kernel
theorem dX5_firstToTurn_25 : decode cX5_firstToTurn 25 = .ok (.imul, 1) := by decide +kernel
theorem dX5_firstToTurn_26 : decode cX5_firstToTurn 26 = .ok (.if_icmp .ge 42, 3) := by decide +kernel
theorem dX5_firstToTurn_29 : decode cX5_firstToTurn 29 = .ok (.aload_n 0, 1) := by decide +kernel
theorem dX5_firstToTurn_30 : decode cX5_firstToTurn 30 = .ok (.getfield 22, 3) := by decide +kernel
theorem dX5_firstToTurn_33 : decode cX5_firstToTurn 33 = .ok (.aload_n 0, 1) := by decide +kernel
theorem dX5_firstToTurn_34 : decode cX5_firstToTurn 34 = .ok (.getfield 28, 3) := by decide +kernel
theorem dX5_firstToTurn_37 : decode cX5_firstToTurn 37 = .ok (.iload 4, 2) := by decide +kernel
theorem dX5_firstToTurn_39 : decode cX5_firstToTurn 39 = .ok (.iaload, 1) := by decide +kernel
theorem dX5_firstToTurn_40 : decode cX5_firstToTurn 40 = .ok (.iaload, 1) := by decide +kernel
theorem dX5_firstToTurn_41 : decode cX5_firstToTurn 41 = .ok (.aload_n 0, 1) := by decide +kernel
theorem dX5_firstToTurn_42 : decode cX5_firstToTurn 42 = .ok (.getfield 25, 3) := by decide +kernel
theorem dX5_firstToTurn_45 : decode cX5_firstToTurn 45 = .ok (.iload 4, 2) := by decide +kernel
theorem dX5_firstToTurn_47 : decode cX5_firstToTurn 47 = .ok (.iaload, 1) := by decide +kernel
theorem dX5_firstToTurn_48 : decode cX5_firstToTurn 48 = .ok (.isub, 1) := by decide +kernel
theorem dX5_firstToTurn_49 : decode cX5_firstToTurn 49 = .ok (.istore 5, 2) := by decide +kernel
theorem dX5_firstToTurn_51 : decode cX5_firstToTurn 51 = .ok (.iload_n 2, 1) := by decide +kernel
theorem dX5_firstToTurn_52 : decode cX5_firstToTurn 52 = .ok (.iconst (-1), 1) := by decide +kernel
theorem dX5_firstToTurn_53 : decode cX5_firstToTurn 53 = .ok (.if_icmp .eq 9, 3) := by decide +kernel
theorem dX5_firstToTurn_56 : decode cX5_firstToTurn 56 = .ok (.iload 5, 2) := by decide +kernel
theorem dX5_firstToTurn_58 : decode cX5_firstToTurn 58 = .ok (.iload_n 3, 1) := by decide +kernel
theorem dX5_firstToTurn_59 : decode cX5_firstToTurn 59 = .ok (.if_icmp .ge 9, 3) := by decide +kernel
theorem dX5_firstToTurn_62 : decode cX5_firstToTurn 62 = .ok (.iload 4, 2) := by decide +kernel
theorem dX5_firstToTurn_64 : decode cX5_firstToTurn 64 = .ok (.istore_n 2, 1) := by decide +kernel
theorem dX5_firstToTurn_65 : decode cX5_firstToTurn 65 = .ok (.iload 5, 2) := by decide +kernel
theorem dX5_firstToTurn_67 : decode cX5_firstToTurn 67 = .ok (.istore_n 3, 1) := by decide +kernel
theorem dX5_firstToTurn_68 : decode cX5_firstToTurn 68 = .ok (.iinc 4 1, 3) := by decide +kernel
theorem dX5_firstToTurn_71 : decode cX5_firstToTurn 71 = .ok (.goto (-64), 3) := by decide +kernel
theorem dX5_firstToTurn_74 : decode cX5_firstToTurn 74 = .ok (.iload_n 2, 1) := by decide +kernel
theorem dX5_firstToTurn_75 : decode cX5_firstToTurn 75 = .ok (.ireturn, 1) := by decide +kernel
theorem dX5_turn_0 : decode cX5_turn 0 = .ok (.aload_n 0, 1) := by decide +kernel
theorem dX5_turn_1 : decode cX5_turn 1 = .ok (.getfield 28, 3) := by decide +kernel
theorem dX5_turn_4 : decode cX5_turn 4 = .ok (.iload_n 1, 1) := by decide +kernel
theorem dX5_turn_5 : decode cX5_turn 5 = .ok (.iaload, 1) := by decide +kernel
theorem dX5_turn_6 : decode cX5_turn 6 = .ok (.iconst 3, 1) := by decide +kernel
theorem dX5_turn_7 : decode cX5_turn 7 = .ok (.irem, 1) := by decide +kernel
theorem dX5_turn_8 : decode cX5_turn 8 = .ok (.istore_n 2, 1) := by decide +kernel
theorem dX5_turn_9 : decode cX5_turn 9 = .ok (.aload_n 0, 1) := by decide +kernel
theorem dX5_turn_10 : decode cX5_turn 10 = .ok (.getfield 22, 3) := by decide +kernel
theorem dX5_turn_13 : decode cX5_turn 13 = .ok (.aload_n 0, 1) := by decide +kernel
theorem dX5_turn_14 : decode cX5_turn 14 = .ok (.getfield 28, 3) := by decide +kernel
theorem dX5_turn_17 : decode cX5_turn 17 = .ok (.iload_n 1, 1) := by decide +kernel
theorem dX5_turn_18 : decode cX5_turn 18 = .ok (.iaload, 1) := by decide +kernel
theorem dX5_turn_19 : decode cX5_turn 19 = .ok (.iload_n 2, 1) := by decide +kernel
theorem dX5_turn_20 : decode cX5_turn 20 = .ok (.isub, 1) := by decide +kernel
theorem dX5_turn_21 : decode cX5_turn 21 = .ok (.iconst 1, 1) := by decide +kernel
theorem dX5_turn_22 : decode cX5_turn 22 = .ok (.iadd, 1) := by decide +kernel
theorem dX5_turn_23 : decode cX5_turn 23 = .ok (.iaload, 1) := by decide +kernel
theorem dX5_turn_24 : decode cX5_turn 24 = .ok (.aload_n 0, 1) := by decide +kernel
theorem dX5_turn_25 : decode cX5_turn 25 = .ok (.getfield 25, 3) := by decide +kernel
theorem dX5_turn_28 : decode cX5_turn 28 = .ok (.iload_n 1, 1) := by decide +kernel
theorem dX5_turn_29 : decode cX5_turn 29 = .ok (.iaload, 1) := by decide +kernel
theorem dX5_turn_30 : decode cX5_turn 30 = .ok (.isub, 1) := by decide +kernel
theorem dX5_turn_31 : decode cX5_turn 31 = .ok (.istore_n 3, 1) := by decide +kernel
theorem dX5_turn_32 : decode cX5_turn 32 = .ok (.iload_n 2, 1) := by decide +kernel
theorem dX5_turn_33 : decode cX5_turn 33 = .ok (.iconst 1, 1) := by decide +kernel
theorem dX5_turn_34 : decode cX5_turn 34 = .ok (.if_icmp .ne 31, 3) := by decide +kernel
theorem dX5_turn_37 : decode cX5_turn 37 = .ok (.aload_n 0, 1) := by decide +kernel
theorem dX5_turn_38 : decode cX5_turn 38 = .ok (.dup, 1) := by decide +kernel
theorem dX5_turn_39 : decode cX5_turn 39 = .ok (.getfield 61, 3) := by decide +kernel
theorem dX5_turn_42 : decode cX5_turn 42 = .ok (.ldc2_w 87, 3) := by decide +kernel
theorem dX5_turn_45 : decode cX5_turn 45 = .ok (.iload_n 3, 1) := by decide +kernel
theorem dX5_turn_46 : decode cX5_turn 46 = .ok (.i2l, 1) := by decide +kernel
theorem dX5_turn_47 : decode cX5_turn 47 = .ok (.lmul, 1) := by decide +kernel
theorem dX5_turn_48 : decode cX5_turn 48 = .ok (.lsub, 1) := by decide +kernel
theorem dX5_turn_49 : decode cX5_turn 49 = .ok (.putfield 61, 3) := by decide +kernel
theorem dX5_turn_52 : decode cX5_turn 52 = .ok (.aload_n 0, 1) := by decide +kernel
theorem dX5_turn_53 : decode cX5_turn 53 = .ok (.dup, 1) := by decide +kernel
theorem dX5_turn_54 : decode cX5_turn 54 = .ok (.getfield 58, 3) := by decide +kernel
theorem dX5_turn_57 : decode cX5_turn 57 = .ok (.iconst 2, 1) := by decide +kernel
theorem dX5_turn_58 : decode cX5_turn 58 = .ok (.iadd, 1) := by decide +kernel
theorem dX5_turn_59 : decode cX5_turn 59 = .ok (.putfield 58, 3) := by decide +kernel
theorem dX5_turn_62 : decode cX5_turn 62 = .ok (.goto 42, 3) := by decide +kernel
theorem dX5_turn_65 : decode cX5_turn 65 = .ok (.aload_n 0, 1) := by decide +kernel
theorem dX5_turn_66 : decode cX5_turn 66 = .ok (.dup, 1) := by decide +kernel
theorem dX5_turn_67 : decode cX5_turn 67 = .ok (.getfield 61, 3) := by decide +kernel
theorem dX5_turn_70 : decode cX5_turn 70 = .ok (.iload_n 3, 1) := by decide +kernel
theorem dX5_turn_71 : decode cX5_turn 71 = .ok (.i2l, 1) := by decide +kernel
theorem dX5_turn_72 : decode cX5_turn 72 = .ok (.ladd, 1) := by decide +kernel
theorem dX5_turn_73 : decode cX5_turn 73 = .ok (.putfield 61, 3) := by decide +kernel
theorem dX5_turn_76 : decode cX5_turn 76 = .ok (.aload_n 0, 1) := by decide +kernel
theorem dX5_turn_77 : decode cX5_turn 77 = .ok (.dup, 1) := by decide +kernel
theorem dX5_turn_78 : decode cX5_turn 78 = .ok (.getfield 58, 3) := by decide +kernel
theorem dX5_turn_81 : decode cX5_turn 81 = .ok (.iconst 1, 1) := by decide +kernel
theorem dX5_turn_82 : decode cX5_turn 82 = .ok (.isub, 1) := by decide +kernel
theorem dX5_turn_83 : decode cX5_turn 83 = .ok (.putfield 58, 3) := by decide +kernel
theorem dX5_turn_86 : decode cX5_turn 86 = .ok (.aload_n 0, 1) := by decide +kernel
theorem dX5_turn_87 : decode cX5_turn 87 = .ok (.dup, 1) := by decide +kernel
theorem dX5_turn_88 : decode cX5_turn 88 = .ok (.getfield 55, 3) := by decide +kernel
theorem dX5_turn_91 : decode cX5_turn 91 = .ok (.iload_n 2, 1) := by decide +kernel
theorem dX5_turn_92 : decode cX5_turn 92 = .ok (.ifCond .ne 7, 3) := by decide +kernel
theorem dX5_turn_95 : decode cX5_turn 95 = .ok (.iconst 1, 1) := by decide +kernel
theorem dX5_turn_96 : decode cX5_turn 96 = .ok (.goto 4, 3) := by decide +kernel
theorem dX5_turn_99 : decode cX5_turn 99 = .ok (.iconst (-1), 1) := by decide +kernel
theorem dX5_turn_100 : decode cX5_turn 100 = .ok (.iadd, 1) := by decide +kernel
theorem dX5_turn_101 : decode cX5_turn 101 = .ok (.putfield 55, 3) := by decide +kernel
theorem dX5_turn_104 : decode cX5_turn 104 = .ok (.aload_n 0, 1) := by decide +kernel
theorem dX5_turn_105 : decode cX5_turn 105 = .ok (.getfield 28, 3) := by decide +kernel
theorem dX5_turn_108 : decode cX5_turn 108 = .ok (.iload_n 1, 1) := by decide +kernel
theorem dX5_turn_109 : decode cX5_turn 109 = .ok (.dup2, 1) := by decide +kernel
theorem dX5_turn_110 : decode cX5_turn 110 = .ok (.iaload, 1) := by decide +kernel
theorem dX5_turn_111 : decode cX5_turn 111 = .ok (.iconst 1, 1) := by decide +kernel
theorem dX5_turn_112 : decode cX5_turn 112 = .ok (.iadd, 1) := by decide +kernel
theorem dX5_turn_113 : decode cX5_turn 113 = .ok (.iastore, 1) := by decide +kernel
theorem dX5_turn_114 : decode cX5_turn 114 = .ok (.return_, 1) := by decide +kernel
theorem dX5_consider_0 : decode cX5_consider 0 = .ok (.aload_n 0, 1) := by decide +kernel
theorem dX5_consider_1 : decode cX5_consider 1 = .ok (.getfield 61, 3) := by decide +kernel
theorem dX5_consider_4 : decode cX5_consider 4 = .ok (.aload_n 0, 1) := by decide +kernel
theorem dX5_consider_5 : decode cX5_consider 5 = .ok (.getfield 58, 3) := by decide +kernel
theorem dX5_consider_8 : decode cX5_consider 8 = .ok (.i2l, 1) := by decide +kernel
theorem dX5_consider_9 : decode cX5_consider 9 = .ok (.iload_n 1, 1) := by decide +kernel
theorem dX5_consider_10 : decode cX5_consider 10 = .ok (.i2l, 1) := by decide +kernel
theorem dX5_consider_11 : decode cX5_consider 11 = .ok (.lmul, 1) := by decide +kernel
theorem dX5_consider_12 : decode cX5_consider 12 = .ok (.ladd, 1) := by decide +kernel
theorem dX5_consider_13 : decode cX5_consider 13 = .ok (.lstore_n 2, 1) := by decide +kernel
theorem dX5_consider_14 : decode cX5_consider 14 = .ok (.aload_n 0, 1) := by decide +kernel
theorem dX5_consider_15 : decode cX5_consider 15 = .ok (.getfield 55, 3) := by decide +kernel
theorem dX5_consider_18 : decode cX5_consider 18 = .ok (.aload_n 0, 1) := by decide +kernel
theorem dX5_consider_19 : decode cX5_consider 19 = .ok (.getfield 65, 3) := by decide +kernel
theorem dX5_consider_22 : decode cX5_consider 22 = .ok (.if_icmp .gt 23, 3) := by decide +kernel
theorem dX5_consider_25 : decode cX5_consider 25 = .ok (.aload_n 0, 1) := by decide +kernel
theorem dX5_consider_26 : decode cX5_consider 26 = .ok (.getfield 55, 3) := by decide +kernel
theorem dX5_consider_29 : decode cX5_consider 29 = .ok (.aload_n 0, 1) := by decide +kernel
theorem dX5_consider_30 : decode cX5_consider 30 = .ok (.getfield 65, 3) := by decide +kernel
theorem dX5_consider_33 : decode cX5_consider 33 = .ok (.if_icmp .ne 30, 3) := by decide +kernel
theorem dX5_consider_36 : decode cX5_consider 36 = .ok (.lload_n 2, 1) := by decide +kernel
theorem dX5_consider_37 : decode cX5_consider 37 = .ok (.aload_n 0, 1) := by decide +kernel
theorem dX5_consider_38 : decode cX5_consider 38 = .ok (.getfield 89, 3) := by decide +kernel
theorem dX5_consider_41 : decode cX5_consider 41 = .ok (.lcmp, 1) := by decide +kernel
theorem dX5_consider_42 : decode cX5_consider 42 = .ok (.ifCond .ge 21, 3) := by decide +kernel
theorem dX5_consider_45 : decode cX5_consider 45 = .ok (.aload_n 0, 1) := by decide +kernel
theorem dX5_consider_46 : decode cX5_consider 46 = .ok (.aload_n 0, 1) := by decide +kernel
theorem dX5_consider_47 : decode cX5_consider 47 = .ok (.getfield 55, 3) := by decide +kernel
theorem dX5_consider_50 : decode cX5_consider 50 = .ok (.putfield 65, 3) := by decide +kernel
theorem dX5_consider_53 : decode cX5_consider 53 = .ok (.aload_n 0, 1) := by decide +kernel
theorem dX5_consider_54 : decode cX5_consider 54 = .ok (.lload_n 2, 1) := by decide +kernel
theorem dX5_consider_55 : decode cX5_consider 55 = .ok (.putfield 89, 3) := by decide +kernel
theorem dX5_consider_58 : decode cX5_consider 58 = .ok (.aload_n 0, 1) := by decide +kernel
theorem dX5_consider_59 : decode cX5_consider 59 = .ok (.iload_n 1, 1) := by decide +kernel
theorem dX5_consider_60 : decode cX5_consider 60 = .ok (.putfield 92, 3) := by decide +kernel
theorem dX5_consider_63 : decode cX5_consider 63 = .ok (.return_, 1) := by decide +kernel
set_option maxRecDepth 20000 in
theorem ggX8_init_X4_init : GoodIn wsX8_init wsX4_init := goodIn_r _ [27, 28, 2, 3, 4, 29, 30, 86, 87, 88, 89, 90, 91, 92] (by decide +kernel) (by decide +kernel)
set_option maxRecDepth 20000 in
theorem gX8_init_X4_init_n21 : GoodIn wsX8_init (wsX4_init) := ggX8_init_X4_init
set_option maxRecDepth 20000 in
theorem ggX8_init_X1_init : GoodIn wsX8_init wsX1_init := goodIn_r _ [32, 33, 2, 3, 4, 34, 35, 36, 37, 38, 39, 40, 41, 42, 43, 44, 45, 46, 47, 48, 49, 50, 51, 52, 93, 94, 95, 96, 97, 98, 99, 128, 129, 130] (by decide +kernel) (by decide +kernel)
set_option maxRecDepth 20000 in
theorem gX8_init_X1_init_n28 : GoodIn wsX8_init (wsX1_init) := ggX8_init_X1_init
set_option maxRecDepth 20000 in
theorem ggX8_init_X3_init : GoodIn wsX8_init wsX3_init := goodIn_r _ [55, 56, 2, 3, 57, 58, 4, 59, 60, 61, 62, 63, 64, 65, 66, 100, 101, 102, 103, 104, 105, 106, 107, 108, 109, 110, 111, 112] (by decide +kernel) (by decide +kernel)
set_option maxRecDepth 20000 in
theorem gX8_init_X3_init : GoodIn wsX8_init (wsX3_init) := ggX8_init_X3_init
set_option maxRecDepth 20000 in
theorem ggX8_init_X5_init : GoodIn wsX8_init wsX5_init := goodIn_r _ [68, 69, 2, 3, 4, 70, 71, 72, 73, 74, 75, 76, 77, 113, 114, 115, 116, 117, 118, 119, 120, 121, 122, 123, 124, 125, 126, 127] (by decide +kernel) (by decide +kernel)
set_option maxRecDepth 20000 in
theorem gX8_init_X5_init_n42 : GoodIn wsX8_init (wsX5_init) := ggX8_init_X5_init
theorem dX8_init_0 : decode cX8_init 0 = .ok (.aload_n 0, 1) := by decide +kernel
theorem dX8_init_1 : decode cX8_init 1 = .ok (.invokespecial 1, 3) := by decide +kernel
theorem dX8_init_4 : decode cX8_init 4 = .ok (.aload_n 0, 1) := by decide +kernel
theorem dX8_init_5 : decode cX8_init 5 = .ok (.bipush 10, 2) := by decide +kernel
theorem dX8_init_7 : decode cX8_init 7 = .ok (.newarray .int, 2) := by decide +kernel
theorem dX8_init_9 : decode cX8_init 9 = .ok (.putfield 9, 3) := by decide +kernel
theorem dX8_init_12 : decode cX8_init 12 = .ok (.aload_n 0, 1) := by decide +kernel
theorem dX8_init_13 : decode cX8_init 13 = .ok (.bipush 30, 2) := by decide +kernel
theorem dX8_init_15 : decode cX8_init 15 = .ok (.anewarray 13, 3) := by decide +kernel
theorem dX8_init_18 : decode cX8_init 18 = .ok (.putfield 15, 3) := by decide +kernel
theorem dX8_init_21 : decode cX8_init 21 = .ok (.aload_n 0, 1) := by decide +kernel
theorem dX8_init_22 : decode cX8_init 22 = .ok (.new 19, 3) := by decide +kernel
theorem dX8_init_25 : decode cX8_init 25 = .ok (.dup, 1) := by decide +kernel
theorem dX8_init_26 : decode cX8_init 26 = .ok (.invokespecial 21, 3) := by decide +kernel
theorem dX8_init_29 : decode cX8_init 29 = .ok (.putfield 22, 3) := by decide +kernel
theorem dX8_init_32 : decode cX8_init 32 = .ok (.aload_n 0, 1) := by decide +kernel
theorem dX8_init_33 : decode cX8_init 33 = .ok (.new 26, 3) := by decide +kernel
theorem dX8_init_36 : decode cX8_init 36 = .ok (.dup, 1) := by decide +kernel
theorem dX8_init_37 : decode cX8_init 37 = .ok (.invokespecial 28, 3) := by decide +kernel
theorem dX8_init_40 : decode cX8_init 40 = .ok (.putfield 29, 3) := by decide +kernel
theorem dX8_init_43 : decode cX8_init 43 = .ok (.aload_n 0, 1) := by decide +kernel
theorem dX8_init_44 : decode cX8_init 44 = .ok (.new 33, 3) := by decide +kernel
theorem dX8_init_47 : decode cX8_init 47 = .ok (.dup, 1) := by decide +kernel
theorem dX8_init_48 : decode cX8_init 48 = .ok (.invokespecial 35, 3) := by decide +kernel
theorem dX8_init_51 : decode cX8_init 51 = .ok (.putfield 36, 3) := by decide +kernel
theorem dX8_init_54 : decode cX8_init 54 = .ok (.aload_n 0, 1) := by decide +kernel
theorem dX8_init_55 : decode cX8_init 55 = .ok (.new 40, 3) := by decide +kernel
theorem dX8_init_58 : decode cX8_init 58 = .ok (.dup, 1) := by decide +kernel
theorem dX8_init_59 : decode cX8_init 59 = .ok (.invokespecial 42, 3) := by decide +kernel
theorem dX8_init_62 : decode cX8_init 62 = .ok (.putfield 43, 3) := by decide +kernel
theorem dX8_init_65 : decode cX8_init 65 = .ok (.aload_n 0, 1) := by decide +kernel
theorem dX8_init_66 : decode cX8_init 66 = .ok (.iconst 0, 1) := by decide +kernel
theorem dX8_init_67 : decode cX8_init 67 = .ok (.putfield 47, 3) := by decide +kernel
theorem dX8_init_70 : decode cX8_init 70 = .ok (.aload_n 0, 1) := by decide +kernel
theorem dX8_init_71 : decode cX8_init 71 = .ok (.iconst 0, 1) := by decide +kernel
theorem dX8_init_72 : decode cX8_init 72 = .ok (.putfield 51, 3) := by decide +kernel
theorem dX8_init_75 : decode cX8_init 75 = .ok (.return_, 1) := by decide +kernel
theorem dX8_town_0 : decode cX8_town 0 = .ok (.iload_n 1, 1) := by decide +kernel
theorem dX8_town_1 : decode cX8_town 1 = .ok (.ifCond .lt 10, 3) := by decide +kernel
theorem dX8_town_4 : decode cX8_town 4 = .ok (.iload_n 1, 1) := by decide +kernel
theorem dX8_town_5 : decode cX8_town 5 = .ok (.sipush 4400, 3) := by decide +kernel
theorem dX8_town_8 : decode cX8_town 8 = .ok (.if_icmp .lt 13, 3) := by decide +kernel
theorem dX8_town_11 : decode cX8_town 11 = .ok (.new 54, 3) := by decide +kernel
theorem dX8_town_14 : decode cX8_town 14 = .ok (.dup, 1) := by decide +kernel
theorem dX8_town_15 : decode cX8_town 15 = .ok (.ldc 56, 2) := by decide +kernel
theorem dX8_town_17 : decode cX8_town 17 = .ok (.invokespecial 58, 3) := by decide +kernel
theorem dX8_town_20 : decode cX8_town 20 = .ok (.athrow, 1) := by decide +kernel
theorem dX8_town_21 : decode cX8_town 21 = .ok (.aload_n 0, 1) := by decide +kernel
theorem dX8_town_22 : decode cX8_town 22 = .ok (.getfield 47, 3) := by decide +kernel
theorem dX8_town_25 : decode cX8_town 25 = .ok (.bipush 10, 2) := by decide +kernel
theorem dX8_town_27 : decode cX8_town 27 = .ok (.if_icmp .lt 13, 3) := by decide +kernel
theorem dX8_town_30 : decode cX8_town 30 = .ok (.new 61, 3) := by decide +kernel
theorem dX8_town_33 : decode cX8_town 33 = .ok (.dup, 1) := by decide +kernel
theorem dX8_town_34 : decode cX8_town 34 = .ok (.ldc 63, 2) := by decide +kernel
theorem dX8_town_36 : decode cX8_town 36 = .ok (.invokespecial 65, 3) := by decide +kernel
theorem dX8_town_39 : decode cX8_town 39 = .ok (.athrow, 1) := by decide +kernel
theorem dX8_town_40 : decode cX8_town 40 = .ok (.aload_n 0, 1) := by decide +kernel
theorem dX8_town_41 : decode cX8_town 41 = .ok (.getfield 9, 3) := by decide +kernel
theorem dX8_town_44 : decode cX8_town 44 = .ok (.aload_n 0, 1) := by decide +kernel
theorem dX8_town_45 : decode cX8_town 45 = .ok (.getfield 47, 3) := by decide +kernel
theorem dX8_town_48 : decode cX8_town 48 = .ok (.iload_n 1, 1) := by decide +kernel
theorem dX8_town_49 : decode cX8_town 49 = .ok (.iastore, 1) := by decide +kernel
theorem dX8_town_50 : decode cX8_town 50 = .ok (.aload_n 0, 1) := by decide +kernel
theorem dX8_town_51 : decode cX8_town 51 = .ok (.dup, 1) := by decide +kernel
theorem dX8_town_52 : decode cX8_town 52 = .ok (.getfield 47, 3) := by decide +kernel
theorem dX8_town_55 : decode cX8_town 55 = .ok (.iconst 1, 1) := by decide +kernel
theorem dX8_town_56 : decode cX8_town 56 = .ok (.iadd, 1) := by decide +kernel
theorem dX8_town_57 : decode cX8_town 57 = .ok (.putfield 47, 3) := by decide +kernel
theorem dX8_town_60 : decode cX8_town 60 = .ok (.aload_n 0, 1) := by decide +kernel
theorem dX8_town_61 : decode cX8_town 61 = .ok (.getfield 47, 3) := by decide +kernel
theorem dX8_town_64 : decode cX8_town 64 = .ok (.iconst 1, 1) := by decide +kernel
theorem dX8_town_65 : decode cX8_town 65 = .ok (.isub, 1) := by decide +kernel
theorem dX8_town_66 : decode cX8_town 66 = .ok (.ireturn, 1) := by decide +kernel
set_option maxRecDepth 20000 in
theorem ggX8_of_X8_checkDay : GoodIn wsX8_of wsX8_checkDay := goodIn_ca (goodIn_r _ [7, 1, 2, 8, 9, 10, 11, 12, 13] (by decide +kernel) (by decide +kernel)) (goodIn_sub (fun _ h => List.mem_cons_of_mem _ (List.mem_append_right _ h)) (by decide +kernel))
set_option maxRecDepth 20000 in
theorem gX8_of_X8_checkDay : GoodIn wsX8_of (wsV RX8 66 RX8 yX8_checkDay wsX8_checkDay) := goodIn_app (goodIn_of _ (by decide +kernel)) ggX8_of_X8_checkDay
set_option maxRecDepth 20000 in
theorem ggX8_of_X0_signOf : GoodIn wsX8_of wsX0_signOf := goodIn_r _ [16, 17] (by decide +kernel) (by decide +kernel)
set_option maxRecDepth 20000 in
theorem gX8_of_X0_signOf : GoodIn wsX8_of (va_wsS RX8 72 yX0_signOf wsX0_signOf) := goodIn_app (goodIn_of _ (by decide +kernel)) ggX8_of_X0_signOf
theorem dX8_of_0 : decode cX8_of 0 = .ok (.aload_n 0, 1) := by decide +kernel
theorem dX8_of_1 : decode cX8_of 1 = .ok (.iload_n 1, 1) := by decide +kernel
theorem dX8_of_2 : decode cX8_of 2 = .ok (.invokevirtual 66, 3) := by decide +kernel
theorem dX8_of_5 : decode cX8_of 5 = .ok (.iload_n 2, 1) := by decide +kernel
theorem dX8_of_6 : decode cX8_of 6 = .ok (.ifCond .lt 9, 3) := by decide +kernel
theorem dX8_of_9 : decode cX8_of 9 = .ok (.iload_n 2, 1) := by decide +kernel
theorem dX8_of_10 : decode cX8_of 10 = .ok (.bipush 9, 2) := by decide +kernel
theorem dX8_of_12 : decode cX8_of 12 = .ok (.if_icmp .le 13, 3) := by decide +kernel
theorem dX8_of_15 : decode cX8_of 15 = .ok (.new 54, 3) := by decide +kernel
theorem dX8_of_18 : decode cX8_of 18 = .ok (.dup, 1) := by decide +kernel
theorem dX8_of_19 : decode cX8_of 19 = .ok (.ldc 70, 2) := by decide +kernel
theorem dX8_of_21 : decode cX8_of 21 = .ok (.invokespecial 58, 3) := by decide +kernel
theorem dX8_of_24 : decode cX8_of 24 = .ok (.athrow, 1) := by decide +kernel
theorem dX8_of_25 : decode cX8_of 25 = .ok (.iload_n 1, 1) := by decide +kernel
theorem dX8_of_26 : decode cX8_of 26 = .ok (.iload_n 2, 1) := by decide +kernel
theorem dX8_of_27 : decode cX8_of 27 = .ok (.iconst 0, 1) := by decide +kernel
theorem dX8_of_28 : decode cX8_of 28 = .ok (.invokestatic 72, 3) := by decide +kernel
theorem dX8_of_31 : decode cX8_of 31 = .ok (.ireturn, 1) := by decide +kernel
set_option maxRecDepth 20000 in
theorem ggX8_moon_X8_checkDay : GoodIn wsX8_moon wsX8_checkDay := goodIn_ca (goodIn_r _ [6, 7, 8, 9, 10, 11, 12, 13, 14] (by decide +kernel) (by decide +kernel)) (goodIn_sub (fun _ h => List.mem_cons_of_mem _ (List.mem_append_left _ (List.mem_append_right _ h))) (by decide +kernel))
set_option maxRecDepth 20000 in
theorem gX8_moon_X8_checkDay : GoodIn wsX8_moon (wsV RX8 66 RX8 yX8_checkDay wsX8_checkDay) := goodIn_app (goodIn_of _ (by decide +kernel)) ggX8_moon_X8_checkDay
set_option maxRecDepth 20000 in
theorem ggX8_moon_X8_checkTown : GoodIn wsX8_moon wsX8_checkTown := goodIn_ca (goodIn_r _ [18, 19, 20, 21, 26, 27, 28, 29, 30, 31, 32, 33] (by decide +kernel) (by decide +kernel)) (goodIn_sub (fun _ h => List.mem_cons_of_mem _ (List.mem_append_right _ h)) (by decide +kernel))
set_option maxRecDepth 20000 in
theorem gX8_moon_X8_checkTown : GoodIn wsX8_moon (wsV RX8 78 RX8 yX8_checkTown wsX8_checkTown) := goodIn_app (goodIn_of _ (by decide +kernel)) ggX8_moon_X8_checkTown
set_option maxRecDepth 20000 in
theorem ggX8_moon_X0_signOf : GoodIn wsX8_moon wsX0_signOf := goodIn_r _ [24, 25] (by decide +kernel) (by decide +kernel)
set_option maxRecDepth 20000 in
theorem gX8_moon_X0_signOf : GoodIn wsX8_moon (va_wsS RX8 72 yX0_signOf wsX0_signOf) := goodIn_app (goodIn_of _ (by decide +kernel)) ggX8_moon_X0_signOf
theorem dX8_moon_0 : decode cX8_moon 0 = .ok (.aload_n 0, 1) := by decide +kernel
theorem dX8_moon_1 : decode cX8_moon 1 = .ok (.iload_n 1, 1) := by decide +kernel
theorem dX8_moon_2 : decode cX8_moon 2 = .ok (.invokevirtual 66, 3) := by decide +kernel
theorem dX8_moon_5 : decode cX8_moon 5 = .ok (.aload_n 0, 1) := by decide +kernel
theorem dX8_moon_6 : decode cX8_moon 6 = .ok (.iload_n 2, 1) := by decide +kernel
theorem dX8_moon_7 : decode cX8_moon 7 = .ok (.invokevirtual 78, 3) := by decide +kernel
theorem dX8_moon_10 : decode cX8_moon 10 = .ok (.iload_n 1, 1) := by decide +kernel
theorem dX8_moon_11 : decode cX8_moon 11 = .ok (.bipush 10, 2) := by decide +kernel
theorem dX8_moon_13 : decode cX8_moon 13 = .ok (.aload_n 0, 1) := by decide +kernel
theorem dX8_moon_14 : decode cX8_moon 14 = .ok (.getfield 9, 3) := by decide +kernel
theorem dX8_moon_17 : decode cX8_moon 17 = .ok (.iload_n 2, 1) := by decide +kernel
theorem dX8_moon_18 : decode cX8_moon 18 = .ok (.iaload, 1) := by decide +kernel
theorem dX8_moon_19 : decode cX8_moon 19 = .ok (.invokestatic 72, 3) := by decide +kernel
theorem dX8_moon_22 : decode cX8_moon 22 = .ok (.ireturn, 1) := by decide +kernel
set_option maxRecDepth 20000 in
theorem ggX8_feed_X4_hasRoom : GoodIn wsX8_feed wsX4_hasRoom := goodIn_r _ [7, 8, 22, 23, 24, 25, 26, 27, 28] (by decide +kernel) (by decide +kernel)
set_option maxRecDepth 20000 in
theorem gX8_feed_X4_hasRoom : GoodIn wsX8_feed (wsV RX8 81 RX4 yX4_hasRoom wsX4_hasRoom) := goodIn_app (goodIn_of _ (by decide +kernel)) ggX8_feed_X4_hasRoom
set_option maxRecDepth 20000 in
theorem ggX8_feed_X4_put : GoodIn wsX8_feed wsX4_put := goodIn_r _ [12, 8, 13, 22, 23, 24, 25, 26, 27, 28] (by decide +kernel) (by decide +kernel)
set_option maxRecDepth 20000 in
theorem gX8_feed_X4_put : GoodIn wsX8_feed (wsV RX8 85 RX4 yX4_put wsX4_put) := goodIn_app (goodIn_of _ (by decide +kernel)) ggX8_feed_X4_put
theorem dX8_feed_0 : decode cX8_feed 0 = .ok (.aload_n 0, 1) := by decide +kernel
theorem dX8_feed_1 : decode cX8_feed 1 = .ok (.getfield 22, 3) := by decide +kernel
theorem dX8_feed_4 : decode cX8_feed 4 = .ok (.invokevirtual 81, 3) := by decide +kernel
theorem dX8_feed_7 : decode cX8_feed 7 = .ok (.ifCond .ne 5, 3) := by decide +kernel
theorem dX8_feed_10 : decode cX8_feed 10 = .ok (.iconst (-1), 1) := by decide +kernel
theorem dX8_feed_11 : decode cX8_feed 11 = .ok (.ireturn, 1) := by decide +kernel
theorem dX8_feed_12 : decode cX8_feed 12 = .ok (.aload_n 0, 1) := by decide +kernel
theorem dX8_feed_13 : decode cX8_feed 13 = .ok (.getfield 22, 3) := by decide +kernel
theorem dX8_feed_16 : decode cX8_feed 16 = .ok (.iload_n 1, 1) := by decide +kernel
theorem dX8_feed_17 : decode cX8_feed 17 = .ok (.invokevirtual 85, 3) := by decide +kernel
theorem dX8_feed_20 : decode cX8_feed 20 = .ok (.aload_n 0, 1) := by decide +kernel
theorem dX8_feed_21 : decode cX8_feed 21 = .ok (.getfield 22, 3) := by decide +kernel
theorem dX8_feed_24 : decode cX8_feed 24 = .ok (.iload_n 2, 1) := by decide +kernel
theorem dX8_feed_25 : decode cX8_feed 25 = .ok (.invokevirtual 85, 3) := by decide +kernel
theorem dX8_feed_28 : decode cX8_feed 28 = .ok (.aload_n 0, 1) := by decide +kernel
theorem dX8_feed_29 : decode cX8_feed 29 = .ok (.getfield 22, 3) := by decide +kernel
theorem dX8_feed_32 : decode cX8_feed 32 = .ok (.iload_n 3, 1) := by decide +kernel
theorem dX8_feed_33 : decode cX8_feed 33 = .ok (.invokevirtual 85, 3) := by decide +kernel
theorem dX8_feed_36 : decode cX8_feed 36 = .ok (.aload_n 0, 1) := by decide +kernel
theorem dX8_feed_37 : decode cX8_feed 37 = .ok (.getfield 22, 3) := by decide +kernel
theorem dX8_feed_40 : decode cX8_feed 40 = .ok (.iload 4, 2) := by decide +kernel
theorem dX8_feed_42 : decode cX8_feed 42 = .ok (.invokevirtual 85, 3) := by decide +kernel
theorem dX8_feed_45 : decode cX8_feed 45 = .ok (.aload_n 0, 1) := by decide +kernel
theorem dX8_feed_46 : decode cX8_feed 46 = .ok (.getfield 22, 3) := by decide +kernel
theorem dX8_feed_49 : decode cX8_feed 49 = .ok (.iload 5, 2) := by decide +kernel
theorem dX8_feed_51 : decode cX8_feed 51 = .ok (.invokevirtual 85, 3) := by decide +kernel
theorem dX8_feed_54 : decode cX8_feed 54 = .ok (.aload_n 0, 1) := by decide +kernel
theorem dX8_feed_55 : decode cX8_feed 55 = .ok (.getfield 22, 3) := by decide +kernel
theorem dX8_feed_58 : decode cX8_feed 58 = .ok (.getfield 88, 3) := by decide +kernel
theorem dX8_feed_61 : decode cX8_feed 61 = .ok (.ireturn, 1) := by decide +kernel
set_option maxRecDepth 20000 in
theorem ggX8_stone_X8_checkTown : GoodIn wsX8_stone wsX8_checkTown := goodIn_ca (goodIn_r _ [30, 31, 32, 33, 260, 261, 262, 263, 264, 265, 266, 267] (by decide +kernel) (by decide +kernel)) (goodIn_sub (fun _ h => List.mem_cons_of_mem _ (List.mem_append_right _ h)) (by decide +kernel))
set_option maxRecDepth 20000 in
theorem gX8_stone_X8_checkTown : GoodIn wsX8_stone (wsV RX8 78 RX8 yX8_checkTown wsX8_checkTown) := goodIn_app (goodIn_of _ (by decide +kernel)) ggX8_stone_X8_checkTown
set_option maxRecDepth 20000 in
theorem ggX8_stone_X4_read : GoodIn wsX8_stone wsX4_read := goodIn_r _ [38, 39, 40, 41, 42, 43, 44, 45, 46, 47, 48, 49, 50, 51, 52, 53, 54, 55, 37, 56, 57, 58, 59, 60, 61, 62, 63, 64, 65, 66, 67, 68, 69, 70, 71, 72, 73, 74, 75, 76, 77, 78, 79, 80, 81, 82, 83, 84, 85, 86, 87, 88, 89, 90, 91, 92, 93, 94, 95, 96, 97, 98, 99, 100, 101, 102, 103, 104, 105, 106, 107, 108, 109, 110, 111, 112, 113, 114, 115, 116, 117, 118, 119, 120, 121, 122, 123, 124, 125, 126, 127, 128, 129, 130, 131, 132, 133, 134, 135, 136, 137, 138, 139, 140, 141, 142, 143, 144, 145, 146, 147, 148, 149, 150, 151, 152, 153, 154, 155, 156, 268, 269, 270, 271, 272, 273, 274] (by decide +kernel) (by decide +kernel)
set_option maxRecDepth 20000 in
theorem gX8_stone_X4_read : GoodIn wsX8_stone (wsV RX8 95 RX4 yX4_read wsX4_read) := goodIn_app (goodIn_of _ (by decide +kernel)) ggX8_stone_X4_read
set_option maxRecDepth 20000 in
theorem ggX8_stone_X1_seek : GoodIn wsX8_stone wsX1_seek := goodIn_r _ [161, 162, 163, 164, 165, 166, 167, 168, 160, 169, 170, 171, 172, 173, 174, 175, 176, 177, 178, 179, 51, 180, 181, 182, 183, 184, 185, 186, 187, 188, 189, 190, 191, 192, 193, 44, 41, 45, 194, 195, 196, 197, 198, 199, 200, 201, 202, 203, 204, 205, 206, 207, 208, 209, 210, 211, 212, 213, 214, 215, 216, 217, 218, 219, 220, 221, 222, 223, 224, 225, 226, 227, 228, 229, 230, 279, 280, 281, 282, 283, 284, 285, 286, 287, 288] (by decide +kernel) (by decide +kernel)
set_option maxRecDepth 20000 in
theorem gX8_stone_X1_seek : GoodIn wsX8_stone (wsV RX8 105 RX1 yX1_seek wsX1_seek) := goodIn_app (goodIn_of _ (by decide +kernel)) ggX8_stone_X1_seek
set_option maxRecDepth 20000 in
theorem ggX8_stone_J7_copyOf_59c91 : GoodIn wsX8_stone wsJ7_copyOf_59c91 := goodIn_r _ [233, 234, 16, 17, 18, 19, 235, 236, 237, 40, 41, 42, 238, 239, 240, 241] (by decide +kernel) (by decide +kernel)
set_option maxRecDepth 20000 in
theorem gX8_stone_J7_copyOf_59c91 : GoodIn wsX8_stone (va_wsS RX8 120 yJ7_copyOf_59c91 wsJ7_copyOf_59c91) := goodIn_app (goodIn_of _ (by decide +kernel)) ggX8_stone_J7_copyOf_59c91
set_option maxRecDepth 20000 in
theorem ggX8_stone_X6_init : GoodIn wsX8_stone wsX6_init := goodIn_r _ [244, 245, 246, 247, 248, 249, 250, 251, 275, 276, 277, 278] (by decide +kernel) (by decide +kernel)
set_option maxRecDepth 20000 in
theorem gX8_stone_X6_init : GoodIn wsX8_stone (wsX6_init) := ggX8_stone_X6_init
set_option maxRecDepth 20000 in
theorem ggX8_stone_X3_take : GoodIn wsX8_stone wsX3_take := goodIn_r _ [256, 257, 258, 259, 275, 276, 277, 278, 289, 290, 291, 292, 293, 294, 295, 296, 297, 298, 299, 300, 301] (by decide +kernel) (by decide +kernel)
set_option maxRecDepth 20000 in
theorem gX8_stone_X3_take : GoodIn wsX8_stone (wsV RX8 132 RX3 yX3_take wsX3_take) := goodIn_app (goodIn_of _ (by decide +kernel)) ggX8_stone_X3_take
theorem dX8_stone_0 : decode cX8_stone 0 = .ok (.aload_n 0, 1) := by decide +kernel
theorem dX8_stone_1 : decode cX8_stone 1 = .ok (.iload_n 1, 1) := by decide +kernel
theorem dX8_stone_2 : decode cX8_stone 2 = .ok (.invokevirtual 78, 3) := by decide +kernel
theorem dX8_stone_5 : decode cX8_stone 5 = .ok (.iload_n 2, 1) := by decide +kernel
theorem dX8_stone_6 : decode cX8_stone 6 = .ok (.ifCond .lt 14, 3) := by decide +kernel
theorem dX8_stone_9 : decode cX8_stone 9 = .ok (.iload_n 2, 1) := by decide +kernel
theorem dX8_stone_10 : decode cX8_stone 10 = .ok (.aload_n 0, 1) := by decide +kernel
theorem dX8_stone_11 : decode cX8_stone 11 = .ok (.getfield 22, 3) := by decide +kernel
theorem dX8_stone_14 : decode cX8_stone 14 = .ok (.getfield 88, 3) := by decide +kernel
theorem dX8_stone_17 : decode cX8_stone 17 = .ok (.if_icmp .le 13, 3) := by decide +kernel
theorem dX8_stone_20 : decode cX8_stone 20 = .ok (.new 54, 3) := by decide +kernel
theorem dX8_stone_23 : decode cX8_stone 23 = .ok (.dup, 1) := by decide +kernel
theorem dX8_stone_24 : decode cX8_stone 24 = .ok (.ldc 91, 2) := by decide +kernel
theorem dX8_stone_26 : decode cX8_stone 26 = .ok (.invokespecial 58, 3) := by decide +kernel
theorem dX8_stone_29 : decode cX8_stone 29 = .ok (.athrow, 1) := by decide +kernel
theorem dX8_stone_30 : decode cX8_stone 30 = .ok (.aload_n 0, 1) := by decide +kernel
theorem dX8_stone_31 : decode cX8_stone 31 = .ok (.getfield 51, 3) := by decide +kernel
theorem dX8_stone_34 : decode cX8_stone 34 = .ok (.bipush 30, 2) := by decide +kernel
theorem dX8_stone_36 : decode cX8_stone 36 = .ok (.if_icmp .lt 13, 3) := by decide +kernel
theorem dX8_stone_39 : decode cX8_stone 39 = .ok (.new 61, 3) := by decide +kernel
theorem dX8_stone_42 : decode cX8_stone 42 = .ok (.dup, 1) := by decide +kernel
theorem dX8_stone_43 : decode cX8_stone 43 = .ok (.ldc 93, 2) := by decide +kernel
theorem dX8_stone_45 : decode cX8_stone 45 = .ok (.invokespecial 65, 3) := by decide +kernel
theorem dX8_stone_48 : decode cX8_stone 48 = .ok (.athrow, 1) := by decide +kernel
theorem dX8_stone_49 : decode cX8_stone 49 = .ok (.aload_n 0, 1) := by decide +kernel
theorem dX8_stone_50 : decode cX8_stone 50 = .ok (.getfield 22, 3) := by decide +kernel
theorem dX8_stone_53 : decode cX8_stone 53 = .ok (.iload_n 2, 1) := by decide +kernel
theorem dX8_stone_54 : decode cX8_stone 54 = .ok (.invokevirtual 95, 3) := by decide +kernel
theorem dX8_stone_57 : decode cX8_stone 57 = .ok (.istore_n 3, 1) := by decide +kernel
theorem dX8_stone_58 : decode cX8_stone 58 = .ok (.aload_n 0, 1) := by decide +kernel
theorem dX8_stone_59 : decode cX8_stone 59 = .ok (.getfield 22, 3) := by decide +kernel
theorem dX8_stone_62 : decode cX8_stone 62 = .ok (.iconst 0, 1) := by decide +kernel
theorem dX8_stone_63 : decode cX8_stone 63 = .ok (.putfield 88, 3) := by decide +kernel
theorem dX8_stone_66 : decode cX8_stone 66 = .ok (.iload_n 3, 1) := by decide +kernel
theorem dX8_stone_67 : decode cX8_stone 67 = .ok (.ifCond .ne 14, 3) := by decide +kernel
theorem dX8_stone_70 : decode cX8_stone 70 = .ok (.bipush (-2), 2) := by decide +kernel
theorem dX8_stone_72 : decode cX8_stone 72 = .ok (.aload_n 0, 1) := by decide +kernel
theorem dX8_stone_73 : decode cX8_stone 73 = .ok (.getfield 22, 3) := by decide +kernel
theorem dX8_stone_76 : decode cX8_stone 76 = .ok (.getfield 99, 3) := by decide +kernel
theorem dX8_stone_79 : decode cX8_stone 79 = .ok (.isub, 1) := by decide +kernel
theorem dX8_stone_80 : decode cX8_stone 80 = .ok (.ireturn, 1) := by decide +kernel
theorem dX8_stone_81 : decode cX8_stone 81 = .ok (.aload_n 0, 1) := by decide +kernel
theorem dX8_stone_82 : decode cX8_stone 82 = .ok (.getfield 29, 3) := by decide +kernel
theorem dX8_stone_85 : decode cX8_stone 85 = .ok (.aload_n 0, 1) := by decide +kernel
theorem dX8_stone_86 : decode cX8_stone 86 = .ok (.getfield 22, 3) := by decide +kernel
theorem dX8_stone_89 : decode cX8_stone 89 = .ok (.getfield 102, 3) := by decide +kernel
theorem dX8_stone_92 : decode cX8_stone 92 = .ok (.aload_n 0, 1) := by decide +kernel
theorem dX8_stone_93 : decode cX8_stone 93 = .ok (.getfield 9, 3) := by decide +kernel
theorem dX8_stone_96 : decode cX8_stone 96 = .ok (.iload_n 1, 1) := by decide +kernel
theorem dX8_stone_97 : decode cX8_stone 97 = .ok (.iaload, 1) := by decide +kernel
theorem dX8_stone_98 : decode cX8_stone 98 = .ok (.invokevirtual 105, 3) := by decide +kernel
theorem dX8_stone_101 : decode cX8_stone 101 = .ok (.new 13, 3) := by decide +kernel
theorem dX8_stone_104 : decode cX8_stone 104 = .ok (.dup, 1) := by decide +kernel
theorem dX8_stone_105 : decode cX8_stone 105 = .ok (.aload_n 0, 1) := by decide +kernel
theorem dX8_stone_106 : decode cX8_stone 106 = .ok (.getfield 9, 3) := by decide +kernel
theorem dX8_stone_109 : decode cX8_stone 109 = .ok (.iload_n 1, 1) := by decide +kernel
theorem dX8_stone_110 : decode cX8_stone 110 = .ok (.iaload, 1) := by decide +kernel
theorem dX8_stone_111 : decode cX8_stone 111 = .ok (.aload_n 0, 1) := by decide +kernel
theorem dX8_stone_112 : decode cX8_stone 112 = .ok (.getfield 22, 3) := by decide +kernel
theorem dX8_stone_115 : decode cX8_stone 115 = .ok (.getfield 102, 3) := by decide +kernel
theorem dX8_stone_118 : decode cX8_stone 118 = .ok (.invokevirtual 109, 3) := by decide +kernel
theorem dX8_stone_121 : decode cX8_stone 121 = .ok (.checkcast 110, 3) := by decide +kernel
theorem dX8_stone_124 : decode cX8_stone 124 = .ok (.aload_n 0, 1) := by decide +kernel
theorem dX8_stone_125 : decode cX8_stone 125 = .ok (.getfield 29, 3) := by decide +kernel
theorem dX8_stone_128 : decode cX8_stone 128 = .ok (.getfield 114, 3) := by decide +kernel
theorem dX8_stone_131 : decode cX8_stone 131 = .ok (.aload_n 0, 1) := by decide +kernel
theorem dX8_stone_132 : decode cX8_stone 132 = .ok (.getfield 29, 3) := by decide +kernel
theorem dX8_stone_135 : decode cX8_stone 135 = .ok (.getfield 117, 3) := by decide +kernel
theorem dX8_stone_138 : decode cX8_stone 138 = .ok (.invokestatic 120, 3) := by decide +kernel
theorem dX8_stone_141 : decode cX8_stone 141 = .ok (.aload_n 0, 1) := by decide +kernel
theorem dX8_stone_142 : decode cX8_stone 142 = .ok (.getfield 29, 3) := by decide +kernel
theorem dX8_stone_145 : decode cX8_stone 145 = .ok (.getfield 126, 3) := by decide +kernel
theorem dX8_stone_148 : decode cX8_stone 148 = .ok (.invokespecial 129, 3) := by decide +kernel
theorem dX8_stone_151 : decode cX8_stone 151 = .ok (.astore 4, 2) := by decide +kernel
theorem dX8_stone_153 : decode cX8_stone 153 = .ok (.aload_n 0, 1) := by decide +kernel
theorem dX8_stone_154 : decode cX8_stone 154 = .ok (.getfield 15, 3) := by decide +kernel
theorem dX8_stone_157 : decode cX8_stone 157 = .ok (.aload_n 0, 1) := by decide +kernel
theorem dX8_stone_158 : decode cX8_stone 158 = .ok (.getfield 51, 3) := by decide +kernel
theorem dX8_stone_161 : decode cX8_stone 161 = .ok (.aload 4, 2) := by decide +kernel
theorem dX8_stone_163 : decode cX8_stone 163 = .ok (.aastore, 1) := by decide +kernel
theorem dX8_stone_164 : decode cX8_stone 164 = .ok (.aload_n 0, 1) := by decide +kernel
theorem dX8_stone_165 : decode cX8_stone 165 = .ok (.getfield 36, 3) := by decide +kernel
theorem dX8_stone_168 : decode cX8_stone 168 = .ok (.aload_n 0, 1) := by decide +kernel
theorem dX8_stone_169 : decode cX8_stone 169 = .ok (.getfield 51, 3) := by decide +kernel
theorem dX8_stone_172 : decode cX8_stone 172 = .ok (.aload 4, 2) := by decide +kernel
theorem dX8_stone_174 : decode cX8_stone 174 = .ok (.invokevirtual 132, 3) := by decide +kernel
theorem dX8_stone_177 : decode cX8_stone 177 = .ok (.aload_n 0, 1) := by decide +kernel
theorem dX8_stone_178 : decode cX8_stone 178 = .ok (.dup, 1) := by decide +kernel
theorem dX8_stone_179 : decode cX8_stone 179 = .ok (.getfield 51, 3) := by decide +kernel
theorem dX8_stone_182 : decode cX8_stone 182 = .ok (.iconst 1, 1) := by decide +kernel
theorem dX8_stone_183 : decode cX8_stone 183 = .ok (.iadd, 1) := by decide +kernel
theorem dX8_stone_184 : decode cX8_stone 184 = .ok (.putfield 51, 3) := by decide +kernel
theorem dX8_stone_187 : decode cX8_stone 187 = .ok (.aload_n 0, 1) := by decide +kernel
theorem dX8_stone_188 : decode cX8_stone 188 = .ok (.getfield 51, 3) := by decide +kernel
theorem dX8_stone_191 : decode cX8_stone 191 = .ok (.iconst 1, 1) := by decide +kernel
theorem dX8_stone_192 : decode cX8_stone 192 = .ok (.isub, 1) := by decide +kernel
theorem dX8_stone_193 : decode cX8_stone 193 = .ok (.ireturn, 1) := by decide +kernel
set_option maxRecDepth 20000 in
theorem ggX8_many_X8_stoneAt : GoodIn wsX8_many wsX8_stoneAt := goodIn_ca (goodIn_r _ [6, 7, 8, 9, 10, 15, 16, 17, 18, 19, 20, 21, 22] (by decide +kernel) (by decide +kernel)) (goodIn_sub (fun _ h => List.mem_cons_of_mem _ (List.mem_append_right _ h)) (by decide +kernel))
set_option maxRecDepth 20000 in
theorem gX8_many_X8_stoneAt : GoodIn wsX8_many (wsV RX8 136 RX8 yX8_stoneAt wsX8_stoneAt) := goodIn_app (goodIn_of _ (by decide +kernel)) ggX8_many_X8_stoneAt
theorem dX8_many_0 : decode cX8_many 0 = .ok (.aload_n 0, 1) := by decide +kernel
theorem dX8_many_1 : decode cX8_many 1 = .ok (.iload_n 1, 1) := by decide +kernel
theorem dX8_many_2 : decode cX8_many 2 = .ok (.invokevirtual 136, 3) := by decide +kernel
theorem dX8_many_5 : decode cX8_many 5 = .ok (.getfield 140, 3) := by decide +kernel
theorem dX8_many_8 : decode cX8_many 8 = .ok (.ireturn, 1) := by decide +kernel
set_option maxRecDepth 20000 in
theorem ggX8_day_X8_stoneAt : GoodIn wsX8_day wsX8_stoneAt := goodIn_ca (goodIn_r _ [6, 7, 8, 9, 10, 15, 16, 17, 18, 19, 20, 21, 22] (by decide +kernel) (by decide +kernel)) (goodIn_sub (fun _ h => List.mem_cons_of_mem _ (List.mem_append_right _ h)) (by decide +kernel))
set_option maxRecDepth 20000 in
theorem gX8_day_X8_stoneAt : GoodIn wsX8_day (wsV RX8 136 RX8 yX8_stoneAt wsX8_stoneAt) := goodIn_app (goodIn_of _ (by decide +kernel)) ggX8_day_X8_stoneAt
theorem dX8_day_0 : decode cX8_day 0 = .ok (.aload_n 0, 1) := by decide +kernel
theorem dX8_day_1 : decode cX8_day 1 = .ok (.iload_n 1, 1) := by decide +kernel
theorem dX8_day_2 : decode cX8_day 2 = .ok (.invokevirtual 136, 3) := by decide +kernel
theorem dX8_day_5 : decode cX8_day 5 = .ok (.getfield 141, 3) := by decide +kernel
theorem dX8_day_8 : decode cX8_day 8 = .ok (.astore_n 3, 1) := by decide +kernel
theorem dX8_day_9 : decode cX8_day 9 = .ok (.iload_n 2, 1) := by decide +kernel
theorem dX8_day_10 : decode cX8_day 10 = .ok (.ifCond .lt 15, 3) := by decide +kernel
theorem dX8_day_13 : decode cX8_day 13 = .ok (.iload_n 2, 1) := by decide +kernel
theorem dX8_day_14 : decode cX8_day 14 = .ok (.aload_n 3, 1) := by decide +kernel
theorem dX8_day_15 : decode cX8_day 15 = .ok (.arraylength, 1) := by decide +kernel
theorem dX8_day_16 : decode cX8_day 16 = .ok (.if_icmp .ge 9, 3) := by decide +kernel
theorem dX8_day_19 : decode cX8_day 19 = .ok (.aload_n 3, 1) := by decide +kernel
theorem dX8_day_20 : decode cX8_day 20 = .ok (.iload_n 2, 1) := by decide +kernel
theorem dX8_day_21 : decode cX8_day 21 = .ok (.iaload, 1) := by decide +kernel
theorem dX8_day_22 : decode cX8_day 22 = .ok (.goto 4, 3) := by decide +kernel
theorem dX8_day_25 : decode cX8_day 25 = .ok (.iconst (-1), 1) := by decide +kernel
theorem dX8_day_26 : decode cX8_day 26 = .ok (.ireturn, 1) := by decide +kernel
set_option maxRecDepth 20000 in
theorem ggX8_fits_X8_stoneAt : GoodIn wsX8_fits wsX8_stoneAt := goodIn_ca (goodIn_r _ [5, 6, 7, 8, 9, 36, 37, 38, 39, 40, 41, 42, 43] (by decide +kernel) (by decide +kernel)) (goodIn_sub (fun _ h => List.mem_cons_of_mem _ (List.mem_append_left _ (List.mem_append_right _ h))) (by decide +kernel))
set_option maxRecDepth 20000 in
theorem gX8_fits_X8_stoneAt : GoodIn wsX8_fits (wsV RX8 136 RX8 yX8_stoneAt wsX8_stoneAt) := goodIn_app (goodIn_of _ (by decide +kernel)) ggX8_fits_X8_stoneAt
set_option maxRecDepth 20000 in
theorem ggX8_fits_X8_checkDay : GoodIn wsX8_fits wsX8_checkDay := goodIn_ca (goodIn_r _ [13, 14, 15, 16, 17, 18, 19, 20, 21] (by decide +kernel) (by decide +kernel)) (goodIn_sub (fun _ h => List.mem_cons_of_mem _ (List.mem_append_right _ h)) (by decide +kernel))
set_option maxRecDepth 20000 in
theorem gX8_fits_X8_checkDay : GoodIn wsX8_fits (wsV RX8 66 RX8 yX8_checkDay wsX8_checkDay) := goodIn_app (goodIn_of _ (by decide +kernel)) ggX8_fits_X8_checkDay
set_option maxRecDepth 20000 in
theorem ggX8_fits_X6_allows : GoodIn wsX8_fits wsX6_allows := goodIn_r _ [26, 27, 28, 29, 30, 18, 31, 32, 33, 34, 35, 44, 45, 46, 47] (by decide +kernel) (by decide +kernel)
set_option maxRecDepth 20000 in
theorem gX8_fits_X6_allows : GoodIn wsX8_fits (wsV RX8 142 RX6 yX6_allows wsX6_allows) := goodIn_app (goodIn_of _ (by decide +kernel)) ggX8_fits_X6_allows
theorem dX8_fits_0 : decode cX8_fits 0 = .ok (.aload_n 0, 1) := by decide +kernel
theorem dX8_fits_1 : decode cX8_fits 1 = .ok (.iload_n 1, 1) := by decide +kernel
theorem dX8_fits_2 : decode cX8_fits 2 = .ok (.invokevirtual 136, 3) := by decide +kernel
theorem dX8_fits_5 : decode cX8_fits 5 = .ok (.astore_n 3, 1) := by decide +kernel
theorem dX8_fits_6 : decode cX8_fits 6 = .ok (.aload_n 0, 1) := by decide +kernel
theorem dX8_fits_7 : decode cX8_fits 7 = .ok (.iload_n 2, 1) := by decide +kernel
theorem dX8_fits_8 : decode cX8_fits 8 = .ok (.invokevirtual 66, 3) := by decide +kernel
theorem dX8_fits_11 : decode cX8_fits 11 = .ok (.aload_n 3, 1) := by decide +kernel
theorem dX8_fits_12 : decode cX8_fits 12 = .ok (.iload_n 2, 1) := by decide +kernel
theorem dX8_fits_13 : decode cX8_fits 13 = .ok (.invokevirtual 142, 3) := by decide +kernel
theorem dX8_fits_16 : decode cX8_fits 16 = .ok (.ireturn, 1) := by decide +kernel
set_option maxRecDepth 20000 in
theorem ggX8_distance_X8_stoneAt : GoodIn wsX8_distance wsX8_stoneAt := goodIn_ca (goodIn_r _ [13, 14, 15, 16, 17, 27, 28, 29, 30, 31, 32, 33, 34] (by decide +kernel) (by decide +kernel)) (goodIn_sub (fun _ h => List.mem_cons_of_mem _ (List.mem_append_right _ h)) (by decide +kernel))
set_option maxRecDepth 20000 in
theorem gX8_distance_X8_stoneAt : GoodIn wsX8_distance (wsV RX8 136 RX8 yX8_stoneAt wsX8_stoneAt) := goodIn_app (goodIn_of _ (by decide +kernel)) ggX8_distance_X8_stoneAt
set_option maxRecDepth 20000 in
theorem ggX8_distance_X3_add : GoodIn wsX8_distance wsX3_add := goodIn_r _ [22, 23, 24, 25, 26, 35, 36, 37, 38, 39, 40, 41, 42, 43, 44, 45, 46, 47] (by decide +kernel) (by decide +kernel)
set_option maxRecDepth 20000 in
theorem gX8_distance_X3_add : GoodIn wsX8_distance (wsV RX8 152 RX3 yX3_add wsX3_add) := goodIn_app (goodIn_of _ (by decide +kernel)) ggX8_distance_X3_add
theorem dX8_distance_0 : decode cX8_distance 0 = .ok (.aload_n 0, 1) := by decide +kernel
theorem dX8_distance_1 : decode cX8_distance 1 = .ok (.iload_n 1, 1) := by decide +kernel
theorem dX8_distance_2 : decode cX8_distance 2 = .ok (.invokevirtual 136, 3) := by decide +kernel
theorem dX8_distance_5 : decode cX8_distance 5 = .ok (.pop, 1) := by decide +kernel
theorem dX8_distance_6 : decode cX8_distance 6 = .ok (.aload_n 0, 1) := by decide +kernel
theorem dX8_distance_7 : decode cX8_distance 7 = .ok (.iload_n 2, 1) := by decide +kernel
theorem dX8_distance_8 : decode cX8_distance 8 = .ok (.invokevirtual 136, 3) := by decide +kernel
theorem dX8_distance_11 : decode cX8_distance 11 = .ok (.pop, 1) := by decide +kernel
theorem dX8_distance_12 : decode cX8_distance 12 = .ok (.iload_n 1, 1) := by decide +kernel
theorem dX8_distance_13 : decode cX8_distance 13 = .ok (.iload_n 2, 1) := by decide +kernel
theorem dX8_distance_14 : decode cX8_distance 14 = .ok (.if_icmp .eq 15, 3) := by decide +kernel
theorem dX8_distance_17 : decode cX8_distance 17 = .ok (.iload_n 3, 1) := by decide +kernel
theorem dX8_distance_18 : decode cX8_distance 18 = .ok (.ldc 145, 2) := by decide +kernel
theorem dX8_distance_20 : decode cX8_distance 20 = .ok (.if_icmp .lt 9, 3) := by decide +kernel
theorem dX8_distance_23 : decode cX8_distance 23 = .ok (.iload_n 3, 1) := by decide +kernel
theorem dX8_distance_24 : decode cX8_distance 24 = .ok (.ldc 146, 2) := by decide +kernel
theorem dX8_distance_26 : decode cX8_distance 26 = .ok (.if_icmp .le 13, 3) := by decide +kernel
theorem dX8_distance_29 : decode cX8_distance 29 = .ok (.new 54, 3) := by decide +kernel
theorem dX8_distance_32 : decode cX8_distance 32 = .ok (.dup, 1) := by decide +kernel
theorem dX8_distance_33 : decode cX8_distance 33 = .ok (.ldc 147, 2) := by decide +kernel
theorem dX8_distance_35 : decode cX8_distance 35 = .ok (.invokespecial 58, 3) := by decide +kernel
theorem dX8_distance_38 : decode cX8_distance 38 = .ok (.athrow, 1) := by decide +kernel
theorem dX8_distance_39 : decode cX8_distance 39 = .ok (.aload_n 0, 1) := by decide +kernel
theorem dX8_distance_40 : decode cX8_distance 40 = .ok (.getfield 36, 3) := by decide +kernel
theorem dX8_distance_43 : decode cX8_distance 43 = .ok (.getfield 149, 3) := by decide +kernel
theorem dX8_distance_46 : decode cX8_distance 46 = .ok (.bipush 12, 2) := by decide +kernel
theorem dX8_distance_48 : decode cX8_distance 48 = .ok (.if_icmp .lt 13, 3) := by decide +kernel
theorem dX8_distance_51 : decode cX8_distance 51 = .ok (.new 61, 3) := by decide +kernel
theorem dX8_distance_54 : decode cX8_distance 54 = .ok (.dup, 1) := by decide +kernel
theorem dX8_distance_55 : decode cX8_distance 55 = .ok (.ldc 150, 2) := by decide +kernel
theorem dX8_distance_57 : decode cX8_distance 57 = .ok (.invokespecial 65, 3) := by decide +kernel
theorem dX8_distance_60 : decode cX8_distance 60 = .ok (.athrow, 1) := by decide +kernel
theorem dX8_distance_61 : decode cX8_distance 61 = .ok (.aload_n 0, 1) := by decide +kernel
theorem dX8_distance_62 : decode cX8_distance 62 = .ok (.getfield 36, 3) := by decide +kernel
theorem dX8_distance_65 : decode cX8_distance 65 = .ok (.iload_n 1, 1) := by decide +kernel
theorem dX8_distance_66 : decode cX8_distance 66 = .ok (.iload_n 2, 1) := by decide +kernel
theorem dX8_distance_67 : decode cX8_distance 67 = .ok (.iload_n 3, 1) := by decide +kernel
theorem dX8_distance_68 : decode cX8_distance 68 = .ok (.invokevirtual 152, 3) := by decide +kernel
theorem dX8_distance_71 : decode cX8_distance 71 = .ok (.ireturn, 1) := by decide +kernel
set_option maxRecDepth 20000 in
theorem ggX8_least_X3_solve : GoodIn wsX8_least wsX3_solve := goodIn_r _ [7, 8, 9, 10, 11, 12, 13, 14, 6, 15, 16, 17, 18, 19, 20, 21, 22, 23, 24, 25, 26, 27, 28, 29, 30, 31, 32, 33, 34, 35, 36, 37, 38, 39, 40, 41, 42, 43, 44, 45, 46, 47, 48, 49, 50, 51, 52, 53, 54, 55, 56, 57, 58, 59, 68, 69, 70, 71, 72, 73, 74, 75, 76, 77, 78, 79, 80, 81, 82, 83, 84] (by decide +kernel) (by decide +kernel)
set_option maxRecDepth 20000 in
theorem gX8_least_X3_solve : GoodIn wsX8_least (wsV RX8 155 RX3 yX3_solve wsX3_solve) := goodIn_app (goodIn_of _ (by decide +kernel)) ggX8_least_X3_solve
theorem dX8_least_0 : decode cX8_least 0 = .ok (.aload_n 0, 1) := by decide +kernel
theorem dX8_least_1 : decode cX8_least 1 = .ok (.getfield 36, 3) := by decide +kernel
theorem dX8_least_4 : decode cX8_least 4 = .ok (.invokevirtual 155, 3) := by decide +kernel
theorem dX8_least_7 : decode cX8_least 7 = .ok (.aload_n 0, 1) := by decide +kernel
theorem dX8_least_8 : decode cX8_least 8 = .ok (.getfield 36, 3) := by decide +kernel
theorem dX8_least_11 : decode cX8_least 11 = .ok (.getfield 158, 3) := by decide +kernel
theorem dX8_least_14 : decode cX8_least 14 = .ok (.ireturn, 1) := by decide +kernel
set_option maxRecDepth 20000 in
theorem ggX8_wrong_X3_solve : GoodIn wsX8_wrong wsX3_solve := goodIn_r _ [6, 7, 8, 9, 10, 11, 12, 13, 5, 14, 15, 16, 17, 18, 19, 20, 21, 22, 23, 24, 25, 26, 27, 28, 29, 30, 31, 32, 33, 34, 35, 36, 37, 38, 39, 40, 41, 42, 43, 44, 45, 46, 47, 48, 49, 50, 51, 52, 53, 54, 55, 56, 57, 58, 71, 72, 73, 74, 75, 76, 77, 78, 79, 80, 81, 82, 83, 84, 85, 86, 87] (by decide +kernel) (by decide +kernel)
set_option maxRecDepth 20000 in
theorem gX8_wrong_X3_solve : GoodIn wsX8_wrong (wsV RX8 155 RX3 yX3_solve wsX3_solve) := goodIn_app (goodIn_of _ (by decide +kernel)) ggX8_wrong_X3_solve
set_option maxRecDepth 20000 in
theorem ggX8_wrong_X3_wrongAt : GoodIn wsX8_wrong wsX3_wrongAt := goodIn_r _ [62, 8, 10, 71, 72, 73, 74, 75, 76, 77, 78, 79, 80, 81, 82, 83] (by decide +kernel) (by decide +kernel)
set_option maxRecDepth 20000 in
theorem gX8_wrong_X3_wrongAt : GoodIn wsX8_wrong (wsV RX8 161 RX3 yX3_wrongAt wsX3_wrongAt) := goodIn_app (goodIn_of _ (by decide +kernel)) ggX8_wrong_X3_wrongAt
theorem dX8_wrong_0 : decode cX8_wrong 0 = .ok (.aload_n 0, 1) := by decide +kernel
theorem dX8_wrong_1 : decode cX8_wrong 1 = .ok (.getfield 36, 3) := by decide +kernel
theorem dX8_wrong_4 : decode cX8_wrong 4 = .ok (.invokevirtual 155, 3) := by decide +kernel
theorem dX8_wrong_7 : decode cX8_wrong 7 = .ok (.aload_n 0, 1) := by decide +kernel
theorem dX8_wrong_8 : decode cX8_wrong 8 = .ok (.getfield 36, 3) := by decide +kernel
theorem dX8_wrong_11 : decode cX8_wrong 11 = .ok (.iload_n 1, 1) := by decide +kernel
theorem dX8_wrong_12 : decode cX8_wrong 12 = .ok (.invokevirtual 161, 3) := by decide +kernel
theorem dX8_wrong_15 : decode cX8_wrong 15 = .ok (.ireturn, 1) := by decide +kernel
set_option maxRecDepth 20000 in
theorem ggX8_settled_X8_stoneAt : GoodIn wsX8_settled wsX8_stoneAt := goodIn_ca (goodIn_r _ [6, 7, 8, 9, 10, 72, 73, 74, 75, 76, 77, 78, 79] (by decide +kernel) (by decide +kernel)) (goodIn_sub (fun _ h => List.mem_cons_of_mem _ (List.mem_append_right _ h)) (by decide +kernel))
set_option maxRecDepth 20000 in
theorem gX8_settled_X8_stoneAt : GoodIn wsX8_settled (wsV RX8 136 RX8 yX8_stoneAt wsX8_stoneAt) := goodIn_app (goodIn_of _ (by decide +kernel)) ggX8_settled_X8_stoneAt
set_option maxRecDepth 20000 in
theorem ggX8_settled_X3_solve : GoodIn wsX8_settled wsX3_solve := goodIn_r _ [15, 16, 17, 18, 19, 20, 21, 22, 14, 23, 24, 25, 26, 27, 28, 29, 30, 31, 32, 33, 34, 35, 36, 37, 38, 39, 40, 41, 42, 43, 44, 45, 46, 47, 48, 49, 50, 51, 52, 53, 54, 55, 56, 57, 58, 59, 60, 61, 62, 63, 64, 65, 66, 67, 80, 81, 82, 83, 84, 85, 86, 87, 88, 89, 90, 91, 92, 93, 94, 95, 96] (by decide +kernel) (by decide +kernel)
set_option maxRecDepth 20000 in
theorem gX8_settled_X3_solve : GoodIn wsX8_settled (wsV RX8 155 RX3 yX3_solve wsX3_solve) := goodIn_app (goodIn_of _ (by decide +kernel)) ggX8_settled_X3_solve
set_option maxRecDepth 20000 in
theorem ggX8_settled_X3_settledSize : GoodIn wsX8_settled wsX3_settledSize := goodIn_r _ [71, 35, 42, 17, 64, 65, 66, 14, 67, 58, 63, 80, 81, 82, 83, 84, 85, 86, 87, 88, 89, 90, 91, 92, 93, 94, 95, 96] (by decide +kernel) (by decide +kernel)
set_option maxRecDepth 20000 in
theorem gX8_settled_X3_settledSize : GoodIn wsX8_settled (wsV RX8 165 RX3 yX3_settledSize wsX3_settledSize) := goodIn_app (goodIn_of _ (by decide +kernel)) ggX8_settled_X3_settledSize
theorem dX8_settled_0 : decode cX8_settled 0 = .ok (.aload_n 0, 1) := by decide +kernel
theorem dX8_settled_1 : decode cX8_settled 1 = .ok (.iload_n 1, 1) := by decide +kernel
theorem dX8_settled_2 : decode cX8_settled 2 = .ok (.invokevirtual 136, 3) := by decide +kernel
theorem dX8_settled_5 : decode cX8_settled 5 = .ok (.pop, 1) := by decide +kernel
theorem dX8_settled_6 : decode cX8_settled 6 = .ok (.aload_n 0, 1) := by decide +kernel
theorem dX8_settled_7 : decode cX8_settled 7 = .ok (.getfield 36, 3) := by decide +kernel
theorem dX8_settled_10 : decode cX8_settled 10 = .ok (.invokevirtual 155, 3) := by decide +kernel
theorem dX8_settled_13 : decode cX8_settled 13 = .ok (.aload_n 0, 1) := by decide +kernel
theorem dX8_settled_14 : decode cX8_settled 14 = .ok (.getfield 36, 3) := by decide +kernel
theorem dX8_settled_17 : decode cX8_settled 17 = .ok (.iload_n 1, 1) := by decide +kernel
theorem dX8_settled_18 : decode cX8_settled 18 = .ok (.invokevirtual 165, 3) := by decide +kernel
theorem dX8_settled_21 : decode cX8_settled 21 = .ok (.ireturn, 1) := by decide +kernel
set_option maxRecDepth 20000 in
theorem ggX8_settledDay_X8_stoneAt : GoodIn wsX8_settledDay wsX8_stoneAt := goodIn_ca (goodIn_r _ [6, 7, 8, 9, 10, 76, 77, 78, 79, 80, 81, 82, 83] (by decide +kernel) (by decide +kernel)) (goodIn_sub (fun _ h => List.mem_cons_of_mem _ (List.mem_append_right _ h)) (by decide +kernel))
set_option maxRecDepth 20000 in
theorem gX8_settledDay_X8_stoneAt : GoodIn wsX8_settledDay (wsV RX8 136 RX8 yX8_stoneAt wsX8_stoneAt) := goodIn_app (goodIn_of _ (by decide +kernel)) ggX8_settledDay_X8_stoneAt
set_option maxRecDepth 20000 in
theorem ggX8_settledDay_X3_solve : GoodIn wsX8_settledDay wsX3_solve := goodIn_r _ [15, 16, 17, 18, 19, 20, 21, 22, 14, 23, 24, 25, 26, 27, 28, 29, 30, 31, 32, 33, 34, 35, 36, 37, 38, 39, 40, 41, 42, 43, 44, 45, 46, 47, 48, 49, 50, 51, 52, 53, 54, 55, 56, 57, 58, 59, 60, 61, 62, 63, 64, 65, 66, 67, 84, 85, 86, 87, 88, 89, 90, 91, 92, 93, 94, 95, 96, 97, 98, 99, 100] (by decide +kernel) (by decide +kernel)
set_option maxRecDepth 20000 in
theorem gX8_settledDay_X3_solve : GoodIn wsX8_settledDay (wsV RX8 155 RX3 yX3_solve wsX3_solve) := goodIn_app (goodIn_of _ (by decide +kernel)) ggX8_settledDay_X3_solve
set_option maxRecDepth 20000 in
theorem ggX8_settledDay_X3_settledAt : GoodIn wsX8_settledDay wsX3_settledAt := goodIn_r _ [71, 42, 17, 47, 72, 73, 74, 14, 75, 35, 64, 65, 66, 67, 58, 63, 59, 60, 61, 62, 57, 84, 85, 86, 87, 88, 89, 90, 91, 92, 93, 94, 95, 96, 97, 98, 99, 100] (by decide +kernel) (by decide +kernel)
set_option maxRecDepth 20000 in
theorem gX8_settledDay_X3_settledAt : GoodIn wsX8_settledDay (wsV RX8 168 RX3 yX3_settledAt wsX3_settledAt) := goodIn_app (goodIn_of _ (by decide +kernel)) ggX8_settledDay_X3_settledAt
theorem dX8_settledDay_0 : decode cX8_settledDay 0 = .ok (.aload_n 0, 1) := by decide +kernel
theorem dX8_settledDay_1 : decode cX8_settledDay 1 = .ok (.iload_n 1, 1) := by decide +kernel
theorem dX8_settledDay_2 : decode cX8_settledDay 2 = .ok (.invokevirtual 136, 3) := by decide +kernel
theorem dX8_settledDay_5 : decode cX8_settledDay 5 = .ok (.pop, 1) := by decide +kernel
theorem dX8_settledDay_6 : decode cX8_settledDay 6 = .ok (.aload_n 0, 1) := by decide +kernel
theorem dX8_settledDay_7 : decode cX8_settledDay 7 = .ok (.getfield 36, 3) := by decide +kernel
theorem dX8_settledDay_10 : decode cX8_settledDay 10 = .ok (.invokevirtual 155, 3) := by decide +kernel
theorem dX8_settledDay_13 : decode cX8_settledDay 13 = .ok (.aload_n 0, 1) := by decide +kernel
theorem dX8_settledDay_14 : decode cX8_settledDay 14 = .ok (.getfield 36, 3) := by decide +kernel
theorem dX8_settledDay_17 : decode cX8_settledDay 17 = .ok (.iload_n 1, 1) := by decide +kernel
theorem dX8_settledDay_18 : decode cX8_settledDay 18 = .ok (.iload_n 2, 1) := by decide +kernel
theorem dX8_settledDay_19 : decode cX8_settledDay 19 = .ok (.invokevirtual 168, 3) := by decide +kernel
theorem dX8_settledDay_22 : decode cX8_settledDay 22 = .ok (.ireturn, 1) := by decide +kernel
set_option maxRecDepth 20000 in
theorem ggX8_eclipse_X5_add : GoodIn wsX8_eclipse wsX5_add := goodIn_r _ [9, 10, 11, 12, 13, 14, 15, 16, 25, 26, 27, 28, 29, 30, 31, 32, 33, 34, 35, 36, 37, 38, 39] (by decide +kernel) (by decide +kernel)
set_option maxRecDepth 20000 in
theorem gX8_eclipse_X5_add : GoodIn wsX8_eclipse (wsV RX8 175 RX5 yX5_add wsX5_add) := goodIn_app (goodIn_of _ (by decide +kernel)) ggX8_eclipse_X5_add
theorem dX8_eclipse_0 : decode cX8_eclipse 0 = .ok (.iload_n 1, 1) := by decide +kernel
theorem dX8_eclipse_1 : decode cX8_eclipse 1 = .ok (.ifCond .lt 9, 3) := by decide +kernel
theorem dX8_eclipse_4 : decode cX8_eclipse 4 = .ok (.iload_n 1, 1) := by decide +kernel
theorem dX8_eclipse_5 : decode cX8_eclipse 5 = .ok (.ldc 172, 2) := by decide +kernel
theorem dX8_eclipse_7 : decode cX8_eclipse 7 = .ok (.if_icmp .le 13, 3) := by decide +kernel
theorem dX8_eclipse_10 : decode cX8_eclipse 10 = .ok (.new 54, 3) := by decide +kernel
theorem dX8_eclipse_13 : decode cX8_eclipse 13 = .ok (.dup, 1) := by decide +kernel
theorem dX8_eclipse_14 : decode cX8_eclipse 14 = .ok (.ldc 173, 2) := by decide +kernel
theorem dX8_eclipse_16 : decode cX8_eclipse 16 = .ok (.invokespecial 58, 3) := by decide +kernel
theorem dX8_eclipse_19 : decode cX8_eclipse 19 = .ok (.athrow, 1) := by decide +kernel
theorem dX8_eclipse_20 : decode cX8_eclipse 20 = .ok (.aload_n 0, 1) := by decide +kernel
theorem dX8_eclipse_21 : decode cX8_eclipse 21 = .ok (.getfield 43, 3) := by decide +kernel
theorem dX8_eclipse_24 : decode cX8_eclipse 24 = .ok (.iload_n 1, 1) := by decide +kernel
theorem dX8_eclipse_25 : decode cX8_eclipse 25 = .ok (.invokevirtual 175, 3) := by decide +kernel
theorem dX8_eclipse_28 : decode cX8_eclipse 28 = .ok (.ireturn, 1) := by decide +kernel
set_option maxRecDepth 20000 in
theorem ggX8_names_X8_stoneAt : GoodIn wsX8_names wsX8_stoneAt := goodIn_ca (goodIn_r _ [10, 11, 12, 13, 14, 28, 29, 30, 31, 32, 33, 34, 35] (by decide +kernel) (by decide +kernel)) (goodIn_sub (fun _ h => List.mem_cons_of_mem _ (List.mem_append_right _ h)) (by decide +kernel))
set_option maxRecDepth 20000 in
theorem gX8_names_X8_stoneAt : GoodIn wsX8_names (wsV RX8 136 RX8 yX8_stoneAt wsX8_stoneAt) := goodIn_app (goodIn_of _ (by decide +kernel)) ggX8_names_X8_stoneAt
set_option maxRecDepth 20000 in
theorem ggX8_names_X5_tell : GoodIn wsX8_names wsX5_tell := goodIn_r _ [19, 20, 21, 22, 23, 36, 37, 38, 39, 40, 41, 42, 43, 44, 45, 46, 47, 48, 49, 50] (by decide +kernel) (by decide +kernel)
set_option maxRecDepth 20000 in
theorem gX8_names_X5_tell : GoodIn wsX8_names (wsV RX8 179 RX5 yX5_tell wsX5_tell) := goodIn_app (goodIn_of _ (by decide +kernel)) ggX8_names_X5_tell
theorem dX8_names_0 : decode cX8_names 0 = .ok (.aload_n 0, 1) := by decide +kernel
theorem dX8_names_1 : decode cX8_names 1 = .ok (.iload_n 1, 1) := by decide +kernel
theorem dX8_names_2 : decode cX8_names 2 = .ok (.invokevirtual 136, 3) := by decide +kernel
theorem dX8_names_5 : decode cX8_names 5 = .ok (.astore_n 3, 1) := by decide +kernel
theorem dX8_names_6 : decode cX8_names 6 = .ok (.aload_n 3, 1) := by decide +kernel
theorem dX8_names_7 : decode cX8_names 7 = .ok (.getfield 140, 3) := by decide +kernel
theorem dX8_names_10 : decode cX8_names 10 = .ok (.iconst 1, 1) := by decide +kernel
theorem dX8_names_11 : decode cX8_names 11 = .ok (.if_icmp .ne 12, 3) := by decide +kernel
theorem dX8_names_14 : decode cX8_names 14 = .ok (.aload_n 3, 1) := by decide +kernel
theorem dX8_names_15 : decode cX8_names 15 = .ok (.getfield 141, 3) := by decide +kernel
theorem dX8_names_18 : decode cX8_names 18 = .ok (.arraylength, 1) := by decide +kernel
theorem dX8_names_19 : decode cX8_names 19 = .ok (.iconst 1, 1) := by decide +kernel
theorem dX8_names_20 : decode cX8_names 20 = .ok (.if_icmp .eq 13, 3) := by decide +kernel
theorem dX8_names_23 : decode cX8_names 23 = .ok (.new 61, 3) := by decide +kernel
theorem dX8_names_26 : decode cX8_names 26 = .ok (.dup, 1) := by decide +kernel
theorem dX8_names_27 : decode cX8_names 27 = .ok (.ldc 177, 2) := by decide +kernel
theorem dX8_names_29 : decode cX8_names 29 = .ok (.invokespecial 65, 3) := by decide +kernel
theorem dX8_names_32 : decode cX8_names 32 = .ok (.athrow, 1) := by decide +kernel
theorem dX8_names_33 : decode cX8_names 33 = .ok (.aload_n 0, 1) := by decide +kernel
theorem dX8_names_34 : decode cX8_names 34 = .ok (.getfield 43, 3) := by decide +kernel
theorem dX8_names_37 : decode cX8_names 37 = .ok (.iload_n 1, 1) := by decide +kernel
theorem dX8_names_38 : decode cX8_names 38 = .ok (.aload_n 3, 1) := by decide +kernel
theorem dX8_names_39 : decode cX8_names 39 = .ok (.getfield 141, 3) := by decide +kernel
theorem dX8_names_42 : decode cX8_names 42 = .ok (.iconst 0, 1) := by decide +kernel
theorem dX8_names_43 : decode cX8_names 43 = .ok (.iaload, 1) := by decide +kernel
theorem dX8_names_44 : decode cX8_names 44 = .ok (.iload_n 2, 1) := by decide +kernel
theorem dX8_names_45 : decode cX8_names 45 = .ok (.invokevirtual 179, 3) := by decide +kernel
theorem dX8_names_48 : decode cX8_names 48 = .ok (.ireturn, 1) := by decide +kernel
set_option maxRecDepth 20000 in
theorem ggX8_start_X8_solveSky : GoodIn wsX8_start wsX8_solveSky := goodIn_ca (goodIn_ca (goodIn_r _ [7, 8, 9, 10, 11, 1, 12, 13, 14, 15, 16, 17, 18, 19, 20, 21, 22, 23, 24, 25, 26, 27, 28, 29, 30, 31, 32, 33, 34, 35, 36, 37, 38, 39, 40, 41, 42, 43, 44, 45, 46, 47, 48, 49, 50, 51, 52, 53, 54, 55, 56, 57, 58, 59, 60, 61, 62, 63, 64, 65, 66, 67, 68, 69, 70, 71, 72, 73, 74, 75, 76, 77, 78, 79, 80, 81, 82, 83] (by decide +kernel) (by decide +kernel)) (goodIn_sub (fun _ h => List.mem_cons_of_mem _ (List.mem_append_left _ (List.mem_append_right _ h))) (by decide +kernel))) (goodIn_sub (fun _ h => List.mem_cons_of_mem _ (List.mem_append_right _ h)) (by decide +kernel))
set_option maxRecDepth 20000 in
theorem gX8_start_X8_solveSky : GoodIn wsX8_start (wsV RX8 183 RX8 yX8_solveSky wsX8_solveSky) := goodIn_app (goodIn_of _ (by decide +kernel)) ggX8_start_X8_solveSky
theorem dX8_start_0 : decode cX8_start 0 = .ok (.aload_n 0, 1) := by decide +kernel
theorem dX8_start_1 : decode cX8_start 1 = .ok (.iload_n 1, 1) := by decide +kernel
theorem dX8_start_2 : decode cX8_start 2 = .ok (.invokevirtual 183, 3) := by decide +kernel
theorem dX8_start_5 : decode cX8_start 5 = .ok (.aload_n 0, 1) := by decide +kernel
theorem dX8_start_6 : decode cX8_start 6 = .ok (.getfield 43, 3) := by decide +kernel
theorem dX8_start_9 : decode cX8_start 9 = .ok (.getfield 186, 3) := by decide +kernel
theorem dX8_start_12 : decode cX8_start 12 = .ok (.ireturn, 1) := by decide +kernel
set_option maxRecDepth 20000 in
theorem ggX8_agrees_X8_solveSky : GoodIn wsX8_agrees wsX8_solveSky := goodIn_ca (goodIn_ca (goodIn_r _ [7, 8, 9, 10, 11, 1, 12, 13, 14, 15, 16, 17, 18, 19, 20, 21, 22, 23, 24, 25, 26, 27, 28, 29, 30, 31, 32, 33, 34, 35, 36, 37, 38, 39, 40, 41, 42, 43, 44, 45, 46, 47, 48, 49, 50, 51, 52, 53, 54, 55, 56, 57, 58, 59, 60, 61, 62, 63, 64, 65, 66, 67, 68, 69, 70, 71, 72, 73, 74, 75, 76, 77, 78, 79, 80, 81, 82, 83] (by decide +kernel) (by decide +kernel)) (goodIn_sub (fun _ h => List.mem_cons_of_mem _ (List.mem_append_left _ (List.mem_append_right _ h))) (by decide +kernel))) (goodIn_sub (fun _ h => List.mem_cons_of_mem _ (List.mem_append_right _ h)) (by decide +kernel))
set_option maxRecDepth 20000 in
theorem gX8_agrees_X8_solveSky : GoodIn wsX8_agrees (wsV RX8 183 RX8 yX8_solveSky wsX8_solveSky) := goodIn_app (goodIn_of _ (by decide +kernel)) ggX8_agrees_X8_solveSky
theorem dX8_agrees_0 : decode cX8_agrees 0 = .ok (.aload_n 0, 1) := by decide +kernel
theorem dX8_agrees_1 : decode cX8_agrees 1 = .ok (.iload_n 1, 1) := by decide +kernel
theorem dX8_agrees_2 : decode cX8_agrees 2 = .ok (.invokevirtual 183, 3) := by decide +kernel
theorem dX8_agrees_5 : decode cX8_agrees 5 = .ok (.aload_n 0, 1) := by decide +kernel
theorem dX8_agrees_6 : decode cX8_agrees 6 = .ok (.getfield 43, 3) := by decide +kernel
theorem dX8_agrees_9 : decode cX8_agrees 9 = .ok (.getfield 189, 3) := by decide +kernel
theorem dX8_agrees_12 : decode cX8_agrees 12 = .ok (.ireturn, 1) := by decide +kernel
theorem dX8_count_0 : decode cX8_count 0 = .ok (.iload_n 1, 1) := by decide +kernel
theorem dX8_count_1 : decode cX8_count 1 = .ok (.tableswitch 93 0 6 #[43, 48, 53, 61, 69, 77, 85], 43) := by decide +kernel
theorem dX8_count_44 : decode cX8_count 44 = .ok (.aload_n 0, 1) := by decide +kernel
theorem dX8_count_45 : decode cX8_count 45 = .ok (.getfield 47, 3) := by decide +kernel
theorem dX8_count_48 : decode cX8_count 48 = .ok (.ireturn, 1) := by decide +kernel
theorem dX8_count_49 : decode cX8_count 49 = .ok (.aload_n 0, 1) := by decide +kernel
theorem dX8_count_50 : decode cX8_count 50 = .ok (.getfield 51, 3) := by decide +kernel
theorem dX8_count_53 : decode cX8_count 53 = .ok (.ireturn, 1) := by decide +kernel
theorem dX8_count_54 : decode cX8_count 54 = .ok (.aload_n 0, 1) := by decide +kernel
theorem dX8_count_55 : decode cX8_count 55 = .ok (.getfield 36, 3) := by decide +kernel
theorem dX8_count_58 : decode cX8_count 58 = .ok (.getfield 149, 3) := by decide +kernel
theorem dX8_count_61 : decode cX8_count 61 = .ok (.ireturn, 1) := by decide +kernel
theorem dX8_count_62 : decode cX8_count 62 = .ok (.aload_n 0, 1) := by decide +kernel
theorem dX8_count_63 : decode cX8_count 63 = .ok (.getfield 43, 3) := by decide +kernel
theorem dX8_count_66 : decode cX8_count 66 = .ok (.getfield 192, 3) := by decide +kernel
theorem dX8_count_69 : decode cX8_count 69 = .ok (.ireturn, 1) := by decide +kernel
theorem dX8_count_70 : decode cX8_count 70 = .ok (.aload_n 0, 1) := by decide +kernel
theorem dX8_count_71 : decode cX8_count 71 = .ok (.getfield 43, 3) := by decide +kernel
theorem dX8_count_74 : decode cX8_count 74 = .ok (.getfield 193, 3) := by decide +kernel
theorem dX8_count_77 : decode cX8_count 77 = .ok (.ireturn, 1) := by decide +kernel
theorem dX8_count_78 : decode cX8_count 78 = .ok (.aload_n 0, 1) := by decide +kernel
theorem dX8_count_79 : decode cX8_count 79 = .ok (.getfield 22, 3) := by decide +kernel
theorem dX8_count_82 : decode cX8_count 82 = .ok (.getfield 88, 3) := by decide +kernel
theorem dX8_count_85 : decode cX8_count 85 = .ok (.ireturn, 1) := by decide +kernel
theorem dX8_count_86 : decode cX8_count 86 = .ok (.aload_n 0, 1) := by decide +kernel
theorem dX8_count_87 : decode cX8_count 87 = .ok (.getfield 36, 3) := by decide +kernel
theorem dX8_count_90 : decode cX8_count 90 = .ok (.getfield 196, 3) := by decide +kernel
theorem dX8_count_93 : decode cX8_count 93 = .ok (.ireturn, 1) := by decide +kernel
theorem dX8_count_94 : decode cX8_count 94 = .ok (.iconst (-1), 1) := by decide +kernel
theorem dX8_count_95 : decode cX8_count 95 = .ok (.ireturn, 1) := by decide +kernel
set_option maxRecDepth 20000 in
theorem ggX8_checkDay_X0_has : GoodIn wsX8_checkDay wsX0_has := goodIn_r _ [6, 7, 8] (by decide +kernel) (by decide +kernel)
set_option maxRecDepth 20000 in
theorem gX8_checkDay_X0_has : GoodIn wsX8_checkDay (va_wsS RX8 199 yX0_has wsX0_has) := goodIn_app (goodIn_of _ (by decide +kernel)) ggX8_checkDay_X0_has
theorem dX8_checkDay_0 : decode cX8_checkDay 0 = .ok (.iload_n 1, 1) := by decide +kernel
theorem dX8_checkDay_1 : decode cX8_checkDay 1 = .ok (.invokestatic 199, 3) := by decide +kernel
theorem dX8_checkDay_4 : decode cX8_checkDay 4 = .ok (.ifCond .ne 13, 3) := by decide +kernel
theorem dX8_checkDay_7 : decode cX8_checkDay 7 = .ok (.new 54, 3) := by decide +kernel
theorem dX8_checkDay_10 : decode cX8_checkDay 10 = .ok (.dup, 1) := by decide +kernel
theorem dX8_checkDay_11 : decode cX8_checkDay 11 = .ok (.ldc 202, 2) := by decide +kernel
theorem dX8_checkDay_13 : decode cX8_checkDay 13 = .ok (.invokespecial 58, 3) := by decide +kernel
theorem dX8_checkDay_16 : decode cX8_checkDay 16 = .ok (.athrow, 1) := by decide +kernel
theorem dX8_checkDay_17 : decode cX8_checkDay 17 = .ok (.return_, 1) := by decide +kernel
theorem dX8_checkTown_0 : decode cX8_checkTown 0 = .ok (.iload_n 1, 1) := by decide +kernel
theorem dX8_checkTown_1 : decode cX8_checkTown 1 = .ok (.ifCond .lt 11, 3) := by decide +kernel
theorem dX8_checkTown_4 : decode cX8_checkTown 4 = .ok (.iload_n 1, 1) := by decide +kernel
theorem dX8_checkTown_5 : decode cX8_checkTown 5 = .ok (.aload_n 0, 1) := by decide +kernel
theorem dX8_checkTown_6 : decode cX8_checkTown 6 = .ok (.getfield 47, 3) := by decide +kernel
theorem dX8_checkTown_9 : decode cX8_checkTown 9 = .ok (.if_icmp .lt 13, 3) := by decide +kernel
theorem dX8_checkTown_12 : decode cX8_checkTown 12 = .ok (.new 204, 3) := by decide +kernel
theorem dX8_checkTown_15 : decode cX8_checkTown 15 = .ok (.dup, 1) := by decide +kernel
theorem dX8_checkTown_16 : decode cX8_checkTown 16 = .ok (.ldc 206, 2) := by decide +kernel
theorem dX8_checkTown_18 : decode cX8_checkTown 18 = .ok (.invokespecial 208, 3) := by decide +kernel
theorem dX8_checkTown_21 : decode cX8_checkTown 21 = .ok (.athrow, 1) := by decide +kernel
theorem dX8_checkTown_22 : decode cX8_checkTown 22 = .ok (.return_, 1) := by decide +kernel
theorem dX8_stoneAt_0 : decode cX8_stoneAt 0 = .ok (.iload_n 1, 1) := by decide +kernel
theorem dX8_stoneAt_1 : decode cX8_stoneAt 1 = .ok (.ifCond .lt 20, 3) := by decide +kernel
theorem dX8_stoneAt_4 : decode cX8_stoneAt 4 = .ok (.iload_n 1, 1) := by decide +kernel
theorem dX8_stoneAt_5 : decode cX8_stoneAt 5 = .ok (.aload_n 0, 1) := by decide +kernel
theorem dX8_stoneAt_6 : decode cX8_stoneAt 6 = .ok (.getfield 51, 3) := by decide +kernel
theorem dX8_stoneAt_9 : decode cX8_stoneAt 9 = .ok (.if_icmp .ge 12, 3) := by decide +kernel
theorem dX8_stoneAt_12 : decode cX8_stoneAt 12 = .ok (.aload_n 0, 1) := by decide +kernel
theorem dX8_stoneAt_13 : decode cX8_stoneAt 13 = .ok (.getfield 15, 3) := by decide +kernel
theorem dX8_stoneAt_16 : decode cX8_stoneAt 16 = .ok (.iload_n 1, 1) := by decide +kernel
theorem dX8_stoneAt_17 : decode cX8_stoneAt 17 = .ok (.aaload, 1) := by decide +kernel
theorem dX8_stoneAt_18 : decode cX8_stoneAt 18 = .ok (.goto 4, 3) := by decide +kernel
theorem dX8_stoneAt_21 : decode cX8_stoneAt 21 = .ok (.aconst_null, 1) := by decide +kernel
theorem dX8_stoneAt_22 : decode cX8_stoneAt 22 = .ok (.astore_n 2, 1) := by decide +kernel
theorem dX8_stoneAt_23 : decode cX8_stoneAt 23 = .ok (.aload_n 2, 1) := by decide +kernel
theorem dX8_stoneAt_24 : decode cX8_stoneAt 24 = .ok (.ifnonnull 13, 3) := by decide +kernel
theorem dX8_stoneAt_27 : decode cX8_stoneAt 27 = .ok (.new 204, 3) := by decide +kernel
theorem dX8_stoneAt_30 : decode cX8_stoneAt 30 = .ok (.dup, 1) := by decide +kernel
theorem dX8_stoneAt_31 : decode cX8_stoneAt 31 = .ok (.ldc 209, 2) := by decide +kernel
theorem dX8_stoneAt_33 : decode cX8_stoneAt 33 = .ok (.invokespecial 208, 3) := by decide +kernel
theorem dX8_stoneAt_36 : decode cX8_stoneAt 36 = .ok (.athrow, 1) := by decide +kernel
theorem dX8_stoneAt_37 : decode cX8_stoneAt 37 = .ok (.aload_n 2, 1) := by decide +kernel
theorem dX8_stoneAt_38 : decode cX8_stoneAt 38 = .ok (.areturn, 1) := by decide +kernel
set_option maxRecDepth 20000 in
theorem ggX8_solveSky_X5_solve : GoodIn wsX8_solveSky wsX5_solve := goodIn_r _ [12, 13, 14, 15, 16, 17, 18, 19, 20, 21, 22, 23, 24, 11, 25, 26, 27, 28, 29, 30, 31, 32, 33, 34, 35, 36, 37, 38, 39, 40, 41, 42, 43, 44, 45, 46, 47, 48, 49, 50, 51, 52, 53, 54, 63, 64, 65, 66, 67, 68, 69, 70, 71, 72, 73, 74, 75, 76, 77] (by decide +kernel) (by decide +kernel)
set_option maxRecDepth 20000 in
theorem gX8_solveSky_X5_solve : GoodIn wsX8_solveSky (wsV RX8 215 RX5 yX5_solve wsX5_solve) := goodIn_app (goodIn_of _ (by decide +kernel)) ggX8_solveSky_X5_solve
theorem dX8_solveSky_0 : decode cX8_solveSky 0 = .ok (.iload_n 1, 1) := by decide +kernel
theorem dX8_solveSky_1 : decode cX8_solveSky 1 = .ok (.ifCond .lt 10, 3) := by decide +kernel
theorem dX8_solveSky_4 : decode cX8_solveSky 4 = .ok (.iload_n 1, 1) := by decide +kernel
theorem dX8_solveSky_5 : decode cX8_solveSky 5 = .ok (.sipush 1000, 3) := by decide +kernel
theorem dX8_solveSky_8 : decode cX8_solveSky 8 = .ok (.if_icmp .le 13, 3) := by decide +kernel
theorem dX8_solveSky_11 : decode cX8_solveSky 11 = .ok (.new 54, 3) := by decide +kernel
theorem dX8_solveSky_14 : decode cX8_solveSky 14 = .ok (.dup, 1) := by decide +kernel
theorem dX8_solveSky_15 : decode cX8_solveSky 15 = .ok (.ldc 211, 2) := by decide +kernel
theorem dX8_solveSky_17 : decode cX8_solveSky 17 = .ok (.invokespecial 58, 3) := by decide +kernel
theorem dX8_solveSky_20 : decode cX8_solveSky 20 = .ok (.athrow, 1) := by decide +kernel
theorem dX8_solveSky_21 : decode cX8_solveSky 21 = .ok (.aload_n 0, 1) := by decide +kernel
theorem dX8_solveSky_22 : decode cX8_solveSky 22 = .ok (.getfield 43, 3) := by decide +kernel
theorem dX8_solveSky_25 : decode cX8_solveSky 25 = .ok (.getfield 192, 3) := by decide +kernel
theorem dX8_solveSky_28 : decode cX8_solveSky 28 = .ok (.ifCond .eq 13, 3) := by decide +kernel
theorem dX8_solveSky_31 : decode cX8_solveSky 31 = .ok (.aload_n 0, 1) := by decide +kernel
theorem dX8_solveSky_32 : decode cX8_solveSky 32 = .ok (.getfield 43, 3) := by decide +kernel
theorem dX8_solveSky_35 : decode cX8_solveSky 35 = .ok (.getfield 193, 3) := by decide +kernel
theorem dX8_solveSky_38 : decode cX8_solveSky 38 = .ok (.ifCond .ne 13, 3) := by decide +kernel
theorem dX8_solveSky_41 : decode cX8_solveSky 41 = .ok (.new 61, 3) := by decide +kernel
theorem dX8_solveSky_44 : decode cX8_solveSky 44 = .ok (.dup, 1) := by decide +kernel
theorem dX8_solveSky_45 : decode cX8_solveSky 45 = .ok (.ldc 213, 2) := by decide +kernel
theorem dX8_solveSky_47 : decode cX8_solveSky 47 = .ok (.invokespecial 65, 3) := by decide +kernel
theorem dX8_solveSky_50 : decode cX8_solveSky 50 = .ok (.athrow, 1) := by decide +kernel
theorem dX8_solveSky_51 : decode cX8_solveSky 51 = .ok (.aload_n 0, 1) := by decide +kernel
theorem dX8_solveSky_52 : decode cX8_solveSky 52 = .ok (.getfield 43, 3) := by decide +kernel
theorem dX8_solveSky_55 : decode cX8_solveSky 55 = .ok (.iload_n 1, 1) := by decide +kernel
theorem dX8_solveSky_56 : decode cX8_solveSky 56 = .ok (.invokevirtual 215, 3) := by decide +kernel
theorem dX8_solveSky_59 : decode cX8_solveSky 59 = .ok (.return_, 1) := by decide +kernel
