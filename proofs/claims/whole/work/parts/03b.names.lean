theorem dX3_init_0 : decode cX3_init 0 = .ok (.aload_n 0, 1) := by decide +kernel
theorem dX3_init_1 : decode cX3_init 1 = .ok (.invokespecial 3, 3) := by decide +kernel
theorem dX3_init_4 : decode cX3_init 4 = .ok (.aload_n 0, 1) := by decide +kernel
theorem dX3_init_5 : decode cX3_init 5 = .ok (.bipush 30, 2) := by decide +kernel
theorem dX3_init_7 : decode cX3_init 7 = .ok (.anewarray 9, 3) := by decide +kernel
theorem dX3_init_10 : decode cX3_init 10 = .ok (.putfield 11, 3) := by decide +kernel
theorem dX3_init_13 : decode cX3_init 13 = .ok (.aload_n 0, 1) := by decide +kernel
theorem dX3_init_14 : decode cX3_init 14 = .ok (.bipush 12, 2) := by decide +kernel
theorem dX3_init_16 : decode cX3_init 16 = .ok (.newarray .int, 2) := by decide +kernel
theorem dX3_init_18 : decode cX3_init 18 = .ok (.putfield 17, 3) := by decide +kernel
theorem dX3_init_21 : decode cX3_init 21 = .ok (.aload_n 0, 1) := by decide +kernel
theorem dX3_init_22 : decode cX3_init 22 = .ok (.bipush 12, 2) := by decide +kernel
theorem dX3_init_24 : decode cX3_init 24 = .ok (.newarray .int, 2) := by decide +kernel
theorem dX3_init_26 : decode cX3_init 26 = .ok (.putfield 21, 3) := by decide +kernel
theorem dX3_init_29 : decode cX3_init 29 = .ok (.aload_n 0, 1) := by decide +kernel
theorem dX3_init_30 : decode cX3_init 30 = .ok (.bipush 12, 2) := by decide +kernel
theorem dX3_init_32 : decode cX3_init 32 = .ok (.newarray .int, 2) := by decide +kernel
theorem dX3_init_34 : decode cX3_init 34 = .ok (.putfield 24, 3) := by decide +kernel
theorem dX3_init_37 : decode cX3_init 37 = .ok (.aload_n 0, 1) := by decide +kernel
theorem dX3_init_38 : decode cX3_init 38 = .ok (.bipush 13, 2) := by decide +kernel
theorem dX3_init_40 : decode cX3_init 40 = .ok (.bipush 30, 2) := by decide +kernel
theorem dX3_init_42 : decode cX3_init 42 = .ok (.multianewarray 27 2, 4) := by decide +kernel
theorem dX3_init_46 : decode cX3_init 46 = .ok (.putfield 29, 3) := by decide +kernel
theorem dX3_init_49 : decode cX3_init 49 = .ok (.aload_n 0, 1) := by decide +kernel
theorem dX3_init_50 : decode cX3_init 50 = .ok (.bipush 13, 2) := by decide +kernel
theorem dX3_init_52 : decode cX3_init 52 = .ok (.bipush 30, 2) := by decide +kernel
theorem dX3_init_54 : decode cX3_init 54 = .ok (.multianewarray 27 2, 4) := by decide +kernel
theorem dX3_init_58 : decode cX3_init 58 = .ok (.putfield 32, 3) := by decide +kernel
theorem dX3_init_61 : decode cX3_init 61 = .ok (.aload_n 0, 1) := by decide +kernel
theorem dX3_init_62 : decode cX3_init 62 = .ok (.bipush 12, 2) := by decide +kernel
theorem dX3_init_64 : decode cX3_init 64 = .ok (.sipush 300, 3) := by decide +kernel
theorem dX3_init_67 : decode cX3_init 67 = .ok (.multianewarray 27 2, 4) := by decide +kernel
theorem dX3_init_71 : decode cX3_init 71 = .ok (.putfield 35, 3) := by decide +kernel
theorem dX3_init_74 : decode cX3_init 74 = .ok (.aload_n 0, 1) := by decide +kernel
theorem dX3_init_75 : decode cX3_init 75 = .ok (.bipush 12, 2) := by decide +kernel
theorem dX3_init_77 : decode cX3_init 77 = .ok (.newarray .int, 2) := by decide +kernel
theorem dX3_init_79 : decode cX3_init 79 = .ok (.putfield 38, 3) := by decide +kernel
theorem dX3_init_82 : decode cX3_init 82 = .ok (.iconst 0, 1) := by decide +kernel
theorem dX3_init_83 : decode cX3_init 83 = .ok (.istore_n 1, 1) := by decide +kernel
theorem dX3_init_84 : decode cX3_init 84 = .ok (.iload_n 1, 1) := by decide +kernel
theorem dX3_init_85 : decode cX3_init 85 = .ok (.bipush 30, 2) := by decide +kernel
theorem dX3_init_87 : decode cX3_init 87 = .ok (.if_icmp .ge 18, 3) := by decide +kernel
theorem dX3_init_90 : decode cX3_init 90 = .ok (.aload_n 0, 1) := by decide +kernel
theorem dX3_init_91 : decode cX3_init 91 = .ok (.getfield 29, 3) := by decide +kernel
theorem dX3_init_94 : decode cX3_init 94 = .ok (.iconst 0, 1) := by decide +kernel
theorem dX3_init_95 : decode cX3_init 95 = .ok (.aaload, 1) := by decide +kernel
theorem dX3_init_96 : decode cX3_init 96 = .ok (.iload_n 1, 1) := by decide +kernel
theorem dX3_init_97 : decode cX3_init 97 = .ok (.iload_n 1, 1) := by decide +kernel
theorem dX3_init_98 : decode cX3_init 98 = .ok (.iastore, 1) := by decide +kernel
theorem dX3_init_99 : decode cX3_init 99 = .ok (.iinc 1 1, 3) := by decide +kernel
theorem dX3_init_102 : decode cX3_init 102 = .ok (.goto (-18), 3) := by decide +kernel
theorem dX3_init_105 : decode cX3_init 105 = .ok (.return_, 1) := by decide +kernel
theorem dX3_take_0 : decode cX3_take 0 = .ok (.iload_n 1, 1) := by decide +kernel
theorem dX3_take_1 : decode cX3_take 1 = .ok (.ifCond .lt 43, 3) := by decide +kernel
theorem dX3_take_4 : decode cX3_take 4 = .ok (.iload_n 1, 1) := by decide +kernel
theorem dX3_take_5 : decode cX3_take 5 = .ok (.bipush 30, 2) := by decide +kernel
theorem dX3_take_7 : decode cX3_take 7 = .ok (.if_icmp .ge 37, 3) := by decide +kernel
theorem dX3_take_10 : decode cX3_take 10 = .ok (.aload_n 2, 1) := by decide +kernel
theorem dX3_take_11 : decode cX3_take 11 = .ok (.getfield 41, 3) := by decide +kernel
theorem dX3_take_14 : decode cX3_take 14 = .ok (.ifCond .le 30, 3) := by decide +kernel
theorem dX3_take_17 : decode cX3_take 17 = .ok (.aload_n 2, 1) := by decide +kernel
theorem dX3_take_18 : decode cX3_take 18 = .ok (.getfield 41, 3) := by decide +kernel
theorem dX3_take_21 : decode cX3_take 21 = .ok (.sipush 300, 3) := by decide +kernel
theorem dX3_take_24 : decode cX3_take 24 = .ok (.if_icmp .gt 20, 3) := by decide +kernel
theorem dX3_take_27 : decode cX3_take 27 = .ok (.aload_n 0, 1) := by decide +kernel
theorem dX3_take_28 : decode cX3_take 28 = .ok (.getfield 11, 3) := by decide +kernel
theorem dX3_take_31 : decode cX3_take 31 = .ok (.iload_n 1, 1) := by decide +kernel
theorem dX3_take_32 : decode cX3_take 32 = .ok (.aload_n 2, 1) := by decide +kernel
theorem dX3_take_33 : decode cX3_take 33 = .ok (.aastore, 1) := by decide +kernel
theorem dX3_take_34 : decode cX3_take 34 = .ok (.aload_n 0, 1) := by decide +kernel
theorem dX3_take_35 : decode cX3_take 35 = .ok (.dup, 1) := by decide +kernel
theorem dX3_take_36 : decode cX3_take 36 = .ok (.getfield 45, 3) := by decide +kernel
theorem dX3_take_39 : decode cX3_take 39 = .ok (.iconst 1, 1) := by decide +kernel
theorem dX3_take_40 : decode cX3_take 40 = .ok (.iadd, 1) := by decide +kernel
theorem dX3_take_41 : decode cX3_take 41 = .ok (.putfield 45, 3) := by decide +kernel
theorem dX3_take_44 : decode cX3_take 44 = .ok (.return_, 1) := by decide +kernel
theorem dX3_add_0 : decode cX3_add 0 = .ok (.aload_n 0, 1) := by decide +kernel
theorem dX3_add_1 : decode cX3_add 1 = .ok (.getfield 48, 3) := by decide +kernel
theorem dX3_add_4 : decode cX3_add 4 = .ok (.bipush 12, 2) := by decide +kernel
theorem dX3_add_6 : decode cX3_add 6 = .ok (.if_icmp .lt 5, 3) := by decide +kernel
theorem dX3_add_9 : decode cX3_add 9 = .ok (.iconst (-1), 1) := by decide +kernel
theorem dX3_add_10 : decode cX3_add 10 = .ok (.ireturn, 1) := by decide +kernel
theorem dX3_add_11 : decode cX3_add 11 = .ok (.aload_n 0, 1) := by decide +kernel
theorem dX3_add_12 : decode cX3_add 12 = .ok (.getfield 17, 3) := by decide +kernel
theorem dX3_add_15 : decode cX3_add 15 = .ok (.aload_n 0, 1) := by decide +kernel
theorem dX3_add_16 : decode cX3_add 16 = .ok (.getfield 48, 3) := by decide +kernel
theorem dX3_add_19 : decode cX3_add 19 = .ok (.iload_n 1, 1) := by decide +kernel
theorem dX3_add_20 : decode cX3_add 20 = .ok (.iastore, 1) := by decide +kernel
theorem dX3_add_21 : decode cX3_add 21 = .ok (.aload_n 0, 1) := by decide +kernel
theorem dX3_add_22 : decode cX3_add 22 = .ok (.getfield 21, 3) := by decide +kernel
theorem dX3_add_25 : decode cX3_add 25 = .ok (.aload_n 0, 1) := by decide +kernel
theorem dX3_add_26 : decode cX3_add 26 = .ok (.getfield 48, 3) := by decide +kernel
theorem dX3_add_29 : decode cX3_add 29 = .ok (.iload_n 2, 1) := by decide +kernel
theorem dX3_add_30 : decode cX3_add 30 = .ok (.iastore, 1) := by decide +kernel
theorem dX3_add_31 : decode cX3_add 31 = .ok (.aload_n 0, 1) := by decide +kernel
theorem dX3_add_32 : decode cX3_add 32 = .ok (.getfield 24, 3) := by decide +kernel
theorem dX3_add_35 : decode cX3_add 35 = .ok (.aload_n 0, 1) := by decide +kernel
theorem dX3_add_36 : decode cX3_add 36 = .ok (.getfield 48, 3) := by decide +kernel
theorem dX3_add_39 : decode cX3_add 39 = .ok (.iload_n 3, 1) := by decide +kernel
theorem dX3_add_40 : decode cX3_add 40 = .ok (.iastore, 1) := by decide +kernel
theorem dX3_add_41 : decode cX3_add 41 = .ok (.aload_n 0, 1) := by decide +kernel
theorem dX3_add_42 : decode cX3_add 42 = .ok (.dup, 1) := by decide +kernel
theorem dX3_add_43 : decode cX3_add 43 = .ok (.getfield 48, 3) := by decide +kernel
theorem dX3_add_46 : decode cX3_add 46 = .ok (.iconst 1, 1) := by decide +kernel
theorem dX3_add_47 : decode cX3_add 47 = .ok (.iadd, 1) := by decide +kernel
theorem dX3_add_48 : decode cX3_add 48 = .ok (.putfield 48, 3) := by decide +kernel
theorem dX3_add_51 : decode cX3_add 51 = .ok (.aload_n 0, 1) := by decide +kernel
theorem dX3_add_52 : decode cX3_add 52 = .ok (.getfield 48, 3) := by decide +kernel
theorem dX3_add_55 : decode cX3_add 55 = .ok (.iconst 1, 1) := by decide +kernel
theorem dX3_add_56 : decode cX3_add 56 = .ok (.isub, 1) := by decide +kernel
theorem dX3_add_57 : decode cX3_add 57 = .ok (.ireturn, 1) := by decide +kernel
set_option maxRecDepth 20000 in
theorem ggX3_solve_X3_search : GoodIn wsX3_solve wsX3_search := goodIn_r _ [9, 3, 2, 4, 10, 11, 12, 13, 14, 15, 16, 17, 18, 19, 8, 20, 21, 22, 23, 24, 25, 26, 27, 28, 29, 30, 31, 32, 33, 5, 6, 7, 34, 35, 36, 37, 38, 39, 40, 41, 42, 43, 44, 45, 46, 47, 48, 49, 50, 51, 52, 53, 54, 55, 56, 57, 58, 59, 60, 61, 62, 63, 64, 65, 66, 67, 68, 69, 70] (by decide +kernel) (by decide +kernel)
set_option maxRecDepth 20000 in
theorem gX3_solve_X3_search : GoodIn wsX3_solve (wsV RX3 57 RX3 yX3_search wsX3_search) := goodIn_app (goodIn_of _ (by decide +kernel)) ggX3_solve_X3_search
set_option maxRecDepth 20000 in
theorem ggX3_solve_X3_isAsked : GoodIn wsX3_solve wsX3_isAsked := goodIn_r _ [20, 21, 22, 23, 54, 55, 56, 57, 58, 59, 60, 61, 62, 63, 64, 65, 66] (by decide +kernel) (by decide +kernel)
set_option maxRecDepth 20000 in
theorem gX3_solve_X3_isAsked : GoodIn wsX3_solve (wsV RX3 61 RX3 yX3_isAsked wsX3_isAsked) := goodIn_app (goodIn_of _ (by decide +kernel)) ggX3_solve_X3_isAsked
set_option maxRecDepth 20000 in
theorem ggX3_solve_X3_join : GoodIn wsX3_solve wsX3_join := goodIn_r _ [37, 28, 22, 23, 38, 33, 24, 25, 26, 8, 27, 29, 30, 31, 32, 39, 40, 41, 42, 43, 44, 45, 46, 47, 48, 21, 49, 50, 51, 52, 53, 54, 55, 56, 57, 58, 59, 60, 61, 62, 63, 64, 65, 66, 67, 68, 69, 70] (by decide +kernel) (by decide +kernel)
set_option maxRecDepth 20000 in
theorem gX3_solve_X3_join : GoodIn wsX3_solve (wsV RX3 68 RX3 yX3_join wsX3_join) := goodIn_app (goodIn_of _ (by decide +kernel)) ggX3_solve_X3_join
set_option maxRecDepth 20000 in
theorem ggX3_solve_X3_pass : GoodIn wsX3_solve wsX3_pass := goodIn_r _ [27, 28, 29, 30, 31, 32, 33, 54, 55, 56, 57, 58, 59, 60, 61, 62, 63, 64, 65, 66] (by decide +kernel) (by decide +kernel)
set_option maxRecDepth 20000 in
theorem gX3_solve_X3_pass : GoodIn wsX3_solve (wsV RX3 72 RX3 yX3_pass wsX3_pass) := goodIn_app (goodIn_of _ (by decide +kernel)) ggX3_solve_X3_pass
theorem dX3_solve_0 : decode cX3_solve 0 = .ok (.aload_n 0, 1) := by decide +kernel
theorem dX3_solve_1 : decode cX3_solve 1 = .ok (.getfield 51, 3) := by decide +kernel
theorem dX3_solve_4 : decode cX3_solve 4 = .ok (.aload_n 0, 1) := by decide +kernel
theorem dX3_solve_5 : decode cX3_solve 5 = .ok (.getfield 48, 3) := by decide +kernel
theorem dX3_solve_8 : decode cX3_solve 8 = .ok (.if_icmp .ne 4, 3) := by decide +kernel
theorem dX3_solve_11 : decode cX3_solve 11 = .ok (.return_, 1) := by decide +kernel
theorem dX3_solve_12 : decode cX3_solve 12 = .ok (.aload_n 0, 1) := by decide +kernel
theorem dX3_solve_13 : decode cX3_solve 13 = .ok (.aload_n 0, 1) := by decide +kernel
theorem dX3_solve_14 : decode cX3_solve 14 = .ok (.getfield 48, 3) := by decide +kernel
theorem dX3_solve_17 : decode cX3_solve 17 = .ok (.iconst 1, 1) := by decide +kernel
theorem dX3_solve_18 : decode cX3_solve 18 = .ok (.iadd, 1) := by decide +kernel
theorem dX3_solve_19 : decode cX3_solve 19 = .ok (.putfield 54, 3) := by decide +kernel
theorem dX3_solve_22 : decode cX3_solve 22 = .ok (.aload_n 0, 1) := by decide +kernel
theorem dX3_solve_23 : decode cX3_solve 23 = .ok (.iconst 0, 1) := by decide +kernel
theorem dX3_solve_24 : decode cX3_solve 24 = .ok (.iconst 0, 1) := by decide +kernel
theorem dX3_solve_25 : decode cX3_solve 25 = .ok (.invokevirtual 57, 3) := by decide +kernel
theorem dX3_solve_28 : decode cX3_solve 28 = .ok (.iconst 0, 1) := by decide +kernel
theorem dX3_solve_29 : decode cX3_solve 29 = .ok (.istore_n 1, 1) := by decide +kernel
theorem dX3_solve_30 : decode cX3_solve 30 = .ok (.iload_n 1, 1) := by decide +kernel
theorem dX3_solve_31 : decode cX3_solve 31 = .ok (.aload_n 0, 1) := by decide +kernel
theorem dX3_solve_32 : decode cX3_solve 32 = .ok (.getfield 48, 3) := by decide +kernel
theorem dX3_solve_35 : decode cX3_solve 35 = .ok (.if_icmp .ge 41, 3) := by decide +kernel
theorem dX3_solve_38 : decode cX3_solve 38 = .ok (.aload_n 0, 1) := by decide +kernel
theorem dX3_solve_39 : decode cX3_solve 39 = .ok (.iload_n 1, 1) := by decide +kernel
theorem dX3_solve_40 : decode cX3_solve 40 = .ok (.invokevirtual 61, 3) := by decide +kernel
theorem dX3_solve_43 : decode cX3_solve 43 = .ok (.ifCond .eq 22, 3) := by decide +kernel
theorem dX3_solve_46 : decode cX3_solve 46 = .ok (.aload_n 0, 1) := by decide +kernel
theorem dX3_solve_47 : decode cX3_solve 47 = .ok (.getfield 65, 3) := by decide +kernel
theorem dX3_solve_50 : decode cX3_solve 50 = .ok (.iload_n 1, 1) := by decide +kernel
theorem dX3_solve_51 : decode cX3_solve 51 = .ok (.ishr, 1) := by decide +kernel
theorem dX3_solve_52 : decode cX3_solve 52 = .ok (.iconst 1, 1) := by decide +kernel
theorem dX3_solve_53 : decode cX3_solve 53 = .ok (.iand, 1) := by decide +kernel
theorem dX3_solve_54 : decode cX3_solve 54 = .ok (.ifCond .ne 11, 3) := by decide +kernel
theorem dX3_solve_57 : decode cX3_solve 57 = .ok (.aload_n 0, 1) := by decide +kernel
theorem dX3_solve_58 : decode cX3_solve 58 = .ok (.iload_n 1, 1) := by decide +kernel
theorem dX3_solve_59 : decode cX3_solve 59 = .ok (.invokevirtual 68, 3) := by decide +kernel
theorem dX3_solve_62 : decode cX3_solve 62 = .ok (.ifCond .ne 8, 3) := by decide +kernel
theorem dX3_solve_65 : decode cX3_solve 65 = .ok (.aload_n 0, 1) := by decide +kernel
theorem dX3_solve_66 : decode cX3_solve 66 = .ok (.iload_n 1, 1) := by decide +kernel
theorem dX3_solve_67 : decode cX3_solve 67 = .ok (.invokevirtual 72, 3) := by decide +kernel
theorem dX3_solve_70 : decode cX3_solve 70 = .ok (.iinc 1 1, 3) := by decide +kernel
theorem dX3_solve_73 : decode cX3_solve 73 = .ok (.goto (-43), 3) := by decide +kernel
theorem dX3_solve_76 : decode cX3_solve 76 = .ok (.aload_n 0, 1) := by decide +kernel
theorem dX3_solve_77 : decode cX3_solve 77 = .ok (.aload_n 0, 1) := by decide +kernel
theorem dX3_solve_78 : decode cX3_solve 78 = .ok (.getfield 48, 3) := by decide +kernel
theorem dX3_solve_81 : decode cX3_solve 81 = .ok (.putfield 51, 3) := by decide +kernel
theorem dX3_solve_84 : decode cX3_solve 84 = .ok (.return_, 1) := by decide +kernel
set_option maxRecDepth 20000 in
theorem ggX3_search_J6_bitCount_0f7a4 : GoodIn wsX3_search wsJ6_bitCount_0f7a4 := goodIn_r _ [7, 8, 9, 10] (by decide +kernel) (by decide +kernel)
set_option maxRecDepth 20000 in
theorem gX3_search_J6_bitCount_0f7a4 : GoodIn wsX3_search (va_wsS RX3 76 yJ6_bitCount_0f7a4 wsJ6_bitCount_0f7a4) := goodIn_app (goodIn_of _ (by decide +kernel)) ggX3_search_J6_bitCount_0f7a4
set_option maxRecDepth 20000 in
theorem ggX3_search_X3_isAsked : GoodIn wsX3_search wsX3_isAsked := goodIn_r _ [15, 16, 17, 18, 52, 53, 54, 55, 56, 57, 58, 59, 60, 61, 62, 63, 64] (by decide +kernel) (by decide +kernel)
set_option maxRecDepth 20000 in
theorem gX3_search_X3_isAsked : GoodIn wsX3_search (wsV RX3 61 RX3 yX3_isAsked wsX3_isAsked) := goodIn_app (goodIn_of _ (by decide +kernel)) ggX3_search_X3_isAsked
set_option maxRecDepth 20000 in
theorem ggX3_search_X3_pass : GoodIn wsX3_search wsX3_pass := goodIn_r _ [22, 23, 24, 25, 26, 27, 28, 52, 53, 54, 55, 56, 57, 58, 59, 60, 61, 62, 63, 64] (by decide +kernel) (by decide +kernel)
set_option maxRecDepth 20000 in
theorem gX3_search_X3_pass : GoodIn wsX3_search (wsV RX3 72 RX3 yX3_pass wsX3_pass) := goodIn_app (goodIn_of _ (by decide +kernel)) ggX3_search_X3_pass
set_option maxRecDepth 20000 in
theorem ggX3_search_X3_search : GoodIn wsX3_search wsX3_search := goodIn_r _ [0, 1, 2, 3, 4, 5, 6, 7, 8, 9, 10, 11, 12, 13, 14, 15, 16, 17, 18, 19, 20, 21, 22, 23, 24, 25, 26, 27, 28, 29, 30, 31, 32, 33, 34, 35, 36, 37, 38, 39, 40, 41, 42, 43, 44, 45, 46, 47, 48, 49, 50, 51, 52, 53, 54, 55, 56, 57, 58, 59, 60, 61, 62, 63, 64, 65, 66, 67, 68] (by decide +kernel) (by decide +kernel)
set_option maxRecDepth 20000 in
theorem gX3_search_X3_search : GoodIn wsX3_search (wsV RX3 57 RX3 yX3_search wsX3_search) := goodIn_app (goodIn_of _ (by decide +kernel)) ggX3_search_X3_search
set_option maxRecDepth 20000 in
theorem ggX3_search_X3_join : GoodIn wsX3_search wsX3_join := goodIn_r _ [35, 23, 17, 18, 36, 28, 19, 20, 21, 14, 22, 24, 25, 26, 27, 37, 38, 39, 40, 41, 42, 43, 44, 45, 46, 16, 47, 48, 49, 50, 51, 52, 53, 54, 55, 56, 57, 58, 59, 60, 61, 62, 63, 64, 65, 66, 67, 68] (by decide +kernel) (by decide +kernel)
set_option maxRecDepth 20000 in
theorem gX3_search_X3_join : GoodIn wsX3_search (wsV RX3 68 RX3 yX3_join wsX3_join) := goodIn_app (goodIn_of _ (by decide +kernel)) ggX3_search_X3_join
theorem dX3_search_0 : decode cX3_search 0 = .ok (.iload_n 2, 1) := by decide +kernel
theorem dX3_search_1 : decode cX3_search 1 = .ok (.invokestatic 76, 3) := by decide +kernel
theorem dX3_search_4 : decode cX3_search 4 = .ok (.istore_n 3, 1) := by decide +kernel
theorem dX3_search_5 : decode cX3_search 5 = .ok (.iload_n 3, 1) := by decide +kernel
theorem dX3_search_6 : decode cX3_search 6 = .ok (.aload_n 0, 1) := by decide +kernel
theorem dX3_search_7 : decode cX3_search 7 = .ok (.getfield 54, 3) := by decide +kernel
theorem dX3_search_10 : decode cX3_search 10 = .ok (.if_icmp .lt 4, 3) := by decide +kernel
theorem dX3_search_13 : decode cX3_search 13 = .ok (.return_, 1) := by decide +kernel
theorem dX3_search_14 : decode cX3_search 14 = .ok (.iload_n 1, 1) := by decide +kernel
theorem dX3_search_15 : decode cX3_search 15 = .ok (.aload_n 0, 1) := by decide +kernel
theorem dX3_search_16 : decode cX3_search 16 = .ok (.getfield 48, 3) := by decide +kernel
theorem dX3_search_19 : decode cX3_search 19 = .ok (.if_icmp .ge 9, 3) := by decide +kernel
theorem dX3_search_22 : decode cX3_search 22 = .ok (.iload_n 1, 1) := by decide +kernel
theorem dX3_search_23 : decode cX3_search 23 = .ok (.bipush 12, 2) := by decide +kernel
theorem dX3_search_25 : decode cX3_search 25 = .ok (.if_icmp .lt 14, 3) := by decide +kernel
theorem dX3_search_28 : decode cX3_search 28 = .ok (.aload_n 0, 1) := by decide +kernel
theorem dX3_search_29 : decode cX3_search 29 = .ok (.iload_n 3, 1) := by decide +kernel
theorem dX3_search_30 : decode cX3_search 30 = .ok (.putfield 54, 3) := by decide +kernel
theorem dX3_search_33 : decode cX3_search 33 = .ok (.aload_n 0, 1) := by decide +kernel
theorem dX3_search_34 : decode cX3_search 34 = .ok (.iload_n 2, 1) := by decide +kernel
theorem dX3_search_35 : decode cX3_search 35 = .ok (.putfield 65, 3) := by decide +kernel
theorem dX3_search_38 : decode cX3_search 38 = .ok (.return_, 1) := by decide +kernel
theorem dX3_search_39 : decode cX3_search 39 = .ok (.aload_n 0, 1) := by decide +kernel
theorem dX3_search_40 : decode cX3_search 40 = .ok (.iload_n 1, 1) := by decide +kernel
theorem dX3_search_41 : decode cX3_search 41 = .ok (.invokevirtual 61, 3) := by decide +kernel
theorem dX3_search_44 : decode cX3_search 44 = .ok (.ifCond .ne 17, 3) := by decide +kernel
theorem dX3_search_47 : decode cX3_search 47 = .ok (.aload_n 0, 1) := by decide +kernel
theorem dX3_search_48 : decode cX3_search 48 = .ok (.iload_n 1, 1) := by decide +kernel
theorem dX3_search_49 : decode cX3_search 49 = .ok (.invokevirtual 72, 3) := by decide +kernel
theorem dX3_search_52 : decode cX3_search 52 = .ok (.aload_n 0, 1) := by decide +kernel
theorem dX3_search_53 : decode cX3_search 53 = .ok (.iload_n 1, 1) := by decide +kernel
theorem dX3_search_54 : decode cX3_search 54 = .ok (.iconst 1, 1) := by decide +kernel
theorem dX3_search_55 : decode cX3_search 55 = .ok (.iadd, 1) := by decide +kernel
theorem dX3_search_56 : decode cX3_search 56 = .ok (.iload_n 2, 1) := by decide +kernel
theorem dX3_search_57 : decode cX3_search 57 = .ok (.invokevirtual 57, 3) := by decide +kernel
theorem dX3_search_60 : decode cX3_search 60 = .ok (.return_, 1) := by decide +kernel
theorem dX3_search_61 : decode cX3_search 61 = .ok (.aload_n 0, 1) := by decide +kernel
theorem dX3_search_62 : decode cX3_search 62 = .ok (.iload_n 1, 1) := by decide +kernel
theorem dX3_search_63 : decode cX3_search 63 = .ok (.invokevirtual 68, 3) := by decide +kernel
theorem dX3_search_66 : decode cX3_search 66 = .ok (.istore 4, 2) := by decide +kernel
theorem dX3_search_68 : decode cX3_search 68 = .ok (.iload 4, 2) := by decide +kernel
theorem dX3_search_70 : decode cX3_search 70 = .ok (.ifCond .eq 11, 3) := by decide +kernel
theorem dX3_search_73 : decode cX3_search 73 = .ok (.aload_n 0, 1) := by decide +kernel
theorem dX3_search_74 : decode cX3_search 74 = .ok (.iload_n 1, 1) := by decide +kernel
theorem dX3_search_75 : decode cX3_search 75 = .ok (.iconst 1, 1) := by decide +kernel
theorem dX3_search_76 : decode cX3_search 76 = .ok (.iadd, 1) := by decide +kernel
theorem dX3_search_77 : decode cX3_search 77 = .ok (.iload_n 2, 1) := by decide +kernel
theorem dX3_search_78 : decode cX3_search 78 = .ok (.invokevirtual 57, 3) := by decide +kernel
theorem dX3_search_81 : decode cX3_search 81 = .ok (.iload 4, 2) := by decide +kernel
theorem dX3_search_83 : decode cX3_search 83 = .ok (.iconst 2, 1) := by decide +kernel
theorem dX3_search_84 : decode cX3_search 84 = .ok (.if_icmp .eq 20, 3) := by decide +kernel
theorem dX3_search_87 : decode cX3_search 87 = .ok (.aload_n 0, 1) := by decide +kernel
theorem dX3_search_88 : decode cX3_search 88 = .ok (.iload_n 1, 1) := by decide +kernel
theorem dX3_search_89 : decode cX3_search 89 = .ok (.invokevirtual 72, 3) := by decide +kernel
theorem dX3_search_92 : decode cX3_search 92 = .ok (.aload_n 0, 1) := by decide +kernel
theorem dX3_search_93 : decode cX3_search 93 = .ok (.iload_n 1, 1) := by decide +kernel
theorem dX3_search_94 : decode cX3_search 94 = .ok (.iconst 1, 1) := by decide +kernel
theorem dX3_search_95 : decode cX3_search 95 = .ok (.iadd, 1) := by decide +kernel
theorem dX3_search_96 : decode cX3_search 96 = .ok (.iload_n 2, 1) := by decide +kernel
theorem dX3_search_97 : decode cX3_search 97 = .ok (.iconst 1, 1) := by decide +kernel
theorem dX3_search_98 : decode cX3_search 98 = .ok (.iload_n 1, 1) := by decide +kernel
theorem dX3_search_99 : decode cX3_search 99 = .ok (.ishl, 1) := by decide +kernel
theorem dX3_search_100 : decode cX3_search 100 = .ok (.ior, 1) := by decide +kernel
theorem dX3_search_101 : decode cX3_search 101 = .ok (.invokevirtual 57, 3) := by decide +kernel
theorem dX3_search_104 : decode cX3_search 104 = .ok (.return_, 1) := by decide +kernel
theorem dX3_isAsked_0 : decode cX3_isAsked 0 = .ok (.aload_n 0, 1) := by decide +kernel
theorem dX3_isAsked_1 : decode cX3_isAsked 1 = .ok (.getfield 11, 3) := by decide +kernel
theorem dX3_isAsked_4 : decode cX3_isAsked 4 = .ok (.aload_n 0, 1) := by decide +kernel
theorem dX3_isAsked_5 : decode cX3_isAsked 5 = .ok (.getfield 17, 3) := by decide +kernel
theorem dX3_isAsked_8 : decode cX3_isAsked 8 = .ok (.iload_n 1, 1) := by decide +kernel
theorem dX3_isAsked_9 : decode cX3_isAsked 9 = .ok (.iaload, 1) := by decide +kernel
theorem dX3_isAsked_10 : decode cX3_isAsked 10 = .ok (.aaload, 1) := by decide +kernel
theorem dX3_isAsked_11 : decode cX3_isAsked 11 = .ok (.ifnull 21, 3) := by decide +kernel
theorem dX3_isAsked_14 : decode cX3_isAsked 14 = .ok (.aload_n 0, 1) := by decide +kernel
theorem dX3_isAsked_15 : decode cX3_isAsked 15 = .ok (.getfield 11, 3) := by decide +kernel
theorem dX3_isAsked_18 : decode cX3_isAsked 18 = .ok (.aload_n 0, 1) := by decide +kernel
theorem dX3_isAsked_19 : decode cX3_isAsked 19 = .ok (.getfield 21, 3) := by decide +kernel
theorem dX3_isAsked_22 : decode cX3_isAsked 22 = .ok (.iload_n 1, 1) := by decide +kernel
theorem dX3_isAsked_23 : decode cX3_isAsked 23 = .ok (.iaload, 1) := by decide +kernel
theorem dX3_isAsked_24 : decode cX3_isAsked 24 = .ok (.aaload, 1) := by decide +kernel
theorem dX3_isAsked_25 : decode cX3_isAsked 25 = .ok (.ifnull 7, 3) := by decide +kernel
theorem dX3_isAsked_28 : decode cX3_isAsked 28 = .ok (.iconst 1, 1) := by decide +kernel
theorem dX3_isAsked_29 : decode cX3_isAsked 29 = .ok (.goto 4, 3) := by decide +kernel
theorem dX3_isAsked_32 : decode cX3_isAsked 32 = .ok (.iconst 0, 1) := by decide +kernel
theorem dX3_isAsked_33 : decode cX3_isAsked 33 = .ok (.ireturn, 1) := by decide +kernel
theorem dX3_pass_0 : decode cX3_pass 0 = .ok (.aload_n 0, 1) := by decide +kernel
theorem dX3_pass_1 : decode cX3_pass 1 = .ok (.getfield 29, 3) := by decide +kernel
theorem dX3_pass_4 : decode cX3_pass 4 = .ok (.iload_n 1, 1) := by decide +kernel
theorem dX3_pass_5 : decode cX3_pass 5 = .ok (.aaload, 1) := by decide +kernel
theorem dX3_pass_6 : decode cX3_pass 6 = .ok (.iconst 0, 1) := by decide +kernel
theorem dX3_pass_7 : decode cX3_pass 7 = .ok (.aload_n 0, 1) := by decide +kernel
theorem dX3_pass_8 : decode cX3_pass 8 = .ok (.getfield 29, 3) := by decide +kernel
theorem dX3_pass_11 : decode cX3_pass 11 = .ok (.iload_n 1, 1) := by decide +kernel
theorem dX3_pass_12 : decode cX3_pass 12 = .ok (.iconst 1, 1) := by decide +kernel
theorem dX3_pass_13 : decode cX3_pass 13 = .ok (.iadd, 1) := by decide +kernel
theorem dX3_pass_14 : decode cX3_pass 14 = .ok (.aaload, 1) := by decide +kernel
theorem dX3_pass_15 : decode cX3_pass 15 = .ok (.iconst 0, 1) := by decide +kernel
theorem dX3_pass_16 : decode cX3_pass 16 = .ok (.bipush 30, 2) := by decide +kernel
theorem dX3_pass_18 : decode cX3_pass 18 = .ok (.invokestatic 81, 3) := by decide +kernel
theorem dX3_pass_21 : decode cX3_pass 21 = .ok (.aload_n 0, 1) := by decide +kernel
theorem dX3_pass_22 : decode cX3_pass 22 = .ok (.getfield 32, 3) := by decide +kernel
theorem dX3_pass_25 : decode cX3_pass 25 = .ok (.iload_n 1, 1) := by decide +kernel
theorem dX3_pass_26 : decode cX3_pass 26 = .ok (.aaload, 1) := by decide +kernel
theorem dX3_pass_27 : decode cX3_pass 27 = .ok (.iconst 0, 1) := by decide +kernel
theorem dX3_pass_28 : decode cX3_pass 28 = .ok (.aload_n 0, 1) := by decide +kernel
theorem dX3_pass_29 : decode cX3_pass 29 = .ok (.getfield 32, 3) := by decide +kernel
theorem dX3_pass_32 : decode cX3_pass 32 = .ok (.iload_n 1, 1) := by decide +kernel
theorem dX3_pass_33 : decode cX3_pass 33 = .ok (.iconst 1, 1) := by decide +kernel
theorem dX3_pass_34 : decode cX3_pass 34 = .ok (.iadd, 1) := by decide +kernel
theorem dX3_pass_35 : decode cX3_pass 35 = .ok (.aaload, 1) := by decide +kernel
theorem dX3_pass_36 : decode cX3_pass 36 = .ok (.iconst 0, 1) := by decide +kernel
theorem dX3_pass_37 : decode cX3_pass 37 = .ok (.bipush 30, 2) := by decide +kernel
theorem dX3_pass_39 : decode cX3_pass 39 = .ok (.invokestatic 81, 3) := by decide +kernel
theorem dX3_pass_42 : decode cX3_pass 42 = .ok (.return_, 1) := by decide +kernel
set_option maxRecDepth 20000 in
theorem ggX3_join_X3_pass : GoodIn wsX3_join wsX3_pass := goodIn_r _ [10, 1, 11, 12, 13, 14, 5, 31, 32, 33, 34, 35, 36, 37, 38, 39, 40, 41, 42, 43] (by decide +kernel) (by decide +kernel)
set_option maxRecDepth 20000 in
theorem gX3_join_X3_pass : GoodIn wsX3_join (wsV RX3 72 RX3 yX3_pass wsX3_pass) := goodIn_app (goodIn_of _ (by decide +kernel)) ggX3_join_X3_pass
set_option maxRecDepth 20000 in
theorem ggX3_join_X3_meet : GoodIn wsX3_join wsX3_meet := goodIn_r _ [18, 19, 20, 21, 22, 23, 9, 24, 25, 26, 27, 28, 29, 30, 31, 32, 33, 34, 35, 36, 37, 38, 39, 40, 41, 42, 43, 44, 45, 46, 47] (by decide +kernel) (by decide +kernel)
set_option maxRecDepth 20000 in
theorem gX3_join_X3_meet : GoodIn wsX3_join (wsV RX3 87 RX3 yX3_meet wsX3_meet) := goodIn_app (goodIn_of _ (by decide +kernel)) ggX3_join_X3_meet
theorem dX3_join_0 : decode cX3_join 0 = .ok (.aload_n 0, 1) := by decide +kernel
theorem dX3_join_1 : decode cX3_join 1 = .ok (.getfield 29, 3) := by decide +kernel
theorem dX3_join_4 : decode cX3_join 4 = .ok (.iload_n 1, 1) := by decide +kernel
theorem dX3_join_5 : decode cX3_join 5 = .ok (.aaload, 1) := by decide +kernel
theorem dX3_join_6 : decode cX3_join 6 = .ok (.aload_n 0, 1) := by decide +kernel
theorem dX3_join_7 : decode cX3_join 7 = .ok (.getfield 17, 3) := by decide +kernel
theorem dX3_join_10 : decode cX3_join 10 = .ok (.iload_n 1, 1) := by decide +kernel
theorem dX3_join_11 : decode cX3_join 11 = .ok (.iaload, 1) := by decide +kernel
theorem dX3_join_12 : decode cX3_join 12 = .ok (.iaload, 1) := by decide +kernel
theorem dX3_join_13 : decode cX3_join 13 = .ok (.istore_n 2, 1) := by decide +kernel
theorem dX3_join_14 : decode cX3_join 14 = .ok (.aload_n 0, 1) := by decide +kernel
theorem dX3_join_15 : decode cX3_join 15 = .ok (.getfield 29, 3) := by decide +kernel
theorem dX3_join_18 : decode cX3_join 18 = .ok (.iload_n 1, 1) := by decide +kernel
theorem dX3_join_19 : decode cX3_join 19 = .ok (.aaload, 1) := by decide +kernel
theorem dX3_join_20 : decode cX3_join 20 = .ok (.aload_n 0, 1) := by decide +kernel
theorem dX3_join_21 : decode cX3_join 21 = .ok (.getfield 21, 3) := by decide +kernel
theorem dX3_join_24 : decode cX3_join 24 = .ok (.iload_n 1, 1) := by decide +kernel
theorem dX3_join_25 : decode cX3_join 25 = .ok (.iaload, 1) := by decide +kernel
theorem dX3_join_26 : decode cX3_join 26 = .ok (.iaload, 1) := by decide +kernel
theorem dX3_join_27 : decode cX3_join 27 = .ok (.istore_n 3, 1) := by decide +kernel
theorem dX3_join_28 : decode cX3_join 28 = .ok (.aload_n 0, 1) := by decide +kernel
theorem dX3_join_29 : decode cX3_join 29 = .ok (.getfield 24, 3) := by decide +kernel
theorem dX3_join_32 : decode cX3_join 32 = .ok (.iload_n 1, 1) := by decide +kernel
theorem dX3_join_33 : decode cX3_join 33 = .ok (.iaload, 1) := by decide +kernel
theorem dX3_join_34 : decode cX3_join 34 = .ok (.aload_n 0, 1) := by decide +kernel
theorem dX3_join_35 : decode cX3_join 35 = .ok (.getfield 32, 3) := by decide +kernel
theorem dX3_join_38 : decode cX3_join 38 = .ok (.iload_n 1, 1) := by decide +kernel
theorem dX3_join_39 : decode cX3_join 39 = .ok (.aaload, 1) := by decide +kernel
theorem dX3_join_40 : decode cX3_join 40 = .ok (.aload_n 0, 1) := by decide +kernel
theorem dX3_join_41 : decode cX3_join 41 = .ok (.getfield 17, 3) := by decide +kernel
theorem dX3_join_44 : decode cX3_join 44 = .ok (.iload_n 1, 1) := by decide +kernel
theorem dX3_join_45 : decode cX3_join 45 = .ok (.iaload, 1) := by decide +kernel
theorem dX3_join_46 : decode cX3_join 46 = .ok (.iaload, 1) := by decide +kernel
theorem dX3_join_47 : decode cX3_join 47 = .ok (.iadd, 1) := by decide +kernel
theorem dX3_join_48 : decode cX3_join 48 = .ok (.aload_n 0, 1) := by decide +kernel
theorem dX3_join_49 : decode cX3_join 49 = .ok (.getfield 32, 3) := by decide +kernel
theorem dX3_join_52 : decode cX3_join 52 = .ok (.iload_n 1, 1) := by decide +kernel
theorem dX3_join_53 : decode cX3_join 53 = .ok (.aaload, 1) := by decide +kernel
theorem dX3_join_54 : decode cX3_join 54 = .ok (.aload_n 0, 1) := by decide +kernel
theorem dX3_join_55 : decode cX3_join 55 = .ok (.getfield 21, 3) := by decide +kernel
theorem dX3_join_58 : decode cX3_join 58 = .ok (.iload_n 1, 1) := by decide +kernel
theorem dX3_join_59 : decode cX3_join 59 = .ok (.iaload, 1) := by decide +kernel
theorem dX3_join_60 : decode cX3_join 60 = .ok (.iaload, 1) := by decide +kernel
theorem dX3_join_61 : decode cX3_join 61 = .ok (.isub, 1) := by decide +kernel
theorem dX3_join_62 : decode cX3_join 62 = .ok (.istore 4, 2) := by decide +kernel
theorem dX3_join_64 : decode cX3_join 64 = .ok (.iload_n 2, 1) := by decide +kernel
theorem dX3_join_65 : decode cX3_join 65 = .ok (.iload_n 3, 1) := by decide +kernel
theorem dX3_join_66 : decode cX3_join 66 = .ok (.if_icmp .ne 17, 3) := by decide +kernel
theorem dX3_join_69 : decode cX3_join 69 = .ok (.iload 4, 2) := by decide +kernel
theorem dX3_join_71 : decode cX3_join 71 = .ok (.ifCond .eq 5, 3) := by decide +kernel
theorem dX3_join_74 : decode cX3_join 74 = .ok (.iconst 0, 1) := by decide +kernel
theorem dX3_join_75 : decode cX3_join 75 = .ok (.ireturn, 1) := by decide +kernel
theorem dX3_join_76 : decode cX3_join 76 = .ok (.aload_n 0, 1) := by decide +kernel
theorem dX3_join_77 : decode cX3_join 77 = .ok (.iload_n 1, 1) := by decide +kernel
theorem dX3_join_78 : decode cX3_join 78 = .ok (.invokevirtual 72, 3) := by decide +kernel
theorem dX3_join_81 : decode cX3_join 81 = .ok (.iconst 2, 1) := by decide +kernel
theorem dX3_join_82 : decode cX3_join 82 = .ok (.ireturn, 1) := by decide +kernel
theorem dX3_join_83 : decode cX3_join 83 = .ok (.aload_n 0, 1) := by decide +kernel
theorem dX3_join_84 : decode cX3_join 84 = .ok (.iload_n 1, 1) := by decide +kernel
theorem dX3_join_85 : decode cX3_join 85 = .ok (.iload_n 2, 1) := by decide +kernel
theorem dX3_join_86 : decode cX3_join 86 = .ok (.iload_n 3, 1) := by decide +kernel
theorem dX3_join_87 : decode cX3_join 87 = .ok (.iload 4, 2) := by decide +kernel
theorem dX3_join_89 : decode cX3_join 89 = .ok (.invokevirtual 87, 3) := by decide +kernel
theorem dX3_join_92 : decode cX3_join 92 = .ok (.ifCond .ne 5, 3) := by decide +kernel
theorem dX3_join_95 : decode cX3_join 95 = .ok (.iconst 0, 1) := by decide +kernel
theorem dX3_join_96 : decode cX3_join 96 = .ok (.ireturn, 1) := by decide +kernel
theorem dX3_join_97 : decode cX3_join 97 = .ok (.aload_n 0, 1) := by decide +kernel
theorem dX3_join_98 : decode cX3_join 98 = .ok (.iload_n 1, 1) := by decide +kernel
theorem dX3_join_99 : decode cX3_join 99 = .ok (.invokevirtual 72, 3) := by decide +kernel
theorem dX3_join_102 : decode cX3_join 102 = .ok (.iconst 0, 1) := by decide +kernel
theorem dX3_join_103 : decode cX3_join 103 = .ok (.istore 5, 2) := by decide +kernel
theorem dX3_join_105 : decode cX3_join 105 = .ok (.iload 5, 2) := by decide +kernel
theorem dX3_join_107 : decode cX3_join 107 = .ok (.bipush 30, 2) := by decide +kernel
theorem dX3_join_109 : decode cX3_join 109 = .ok (.if_icmp .ge 79, 3) := by decide +kernel
theorem dX3_join_112 : decode cX3_join 112 = .ok (.aload_n 0, 1) := by decide +kernel
theorem dX3_join_113 : decode cX3_join 113 = .ok (.getfield 29, 3) := by decide +kernel
theorem dX3_join_116 : decode cX3_join 116 = .ok (.iload_n 1, 1) := by decide +kernel
theorem dX3_join_117 : decode cX3_join 117 = .ok (.aaload, 1) := by decide +kernel
theorem dX3_join_118 : decode cX3_join 118 = .ok (.iload 5, 2) := by decide +kernel
theorem dX3_join_120 : decode cX3_join 120 = .ok (.iaload, 1) := by decide +kernel
theorem dX3_join_121 : decode cX3_join 121 = .ok (.iload_n 3, 1) := by decide +kernel
theorem dX3_join_122 : decode cX3_join 122 = .ok (.if_icmp .ne 19, 3) := by decide +kernel
theorem dX3_join_125 : decode cX3_join 125 = .ok (.aload_n 0, 1) := by decide +kernel
theorem dX3_join_126 : decode cX3_join 126 = .ok (.getfield 32, 3) := by decide +kernel
theorem dX3_join_129 : decode cX3_join 129 = .ok (.iload_n 1, 1) := by decide +kernel
theorem dX3_join_130 : decode cX3_join 130 = .ok (.iconst 1, 1) := by decide +kernel
theorem dX3_join_131 : decode cX3_join 131 = .ok (.iadd, 1) := by decide +kernel
theorem dX3_join_132 : decode cX3_join 132 = .ok (.aaload, 1) := by decide +kernel
theorem dX3_join_133 : decode cX3_join 133 = .ok (.iload 5, 2) := by decide +kernel
theorem dX3_join_135 : decode cX3_join 135 = .ok (.dup2, 1) := by decide +kernel
theorem dX3_join_136 : decode cX3_join 136 = .ok (.iaload, 1) := by decide +kernel
theorem dX3_join_137 : decode cX3_join 137 = .ok (.iload 4, 2) := by decide +kernel
theorem dX3_join_139 : decode cX3_join 139 = .ok (.iadd, 1) := by decide +kernel
theorem dX3_join_140 : decode cX3_join 140 = .ok (.iastore, 1) := by decide +kernel
theorem dX3_join_141 : decode cX3_join 141 = .ok (.aload_n 0, 1) := by decide +kernel
theorem dX3_join_142 : decode cX3_join 142 = .ok (.getfield 29, 3) := by decide +kernel
theorem dX3_join_145 : decode cX3_join 145 = .ok (.iload_n 1, 1) := by decide +kernel
theorem dX3_join_146 : decode cX3_join 146 = .ok (.aaload, 1) := by decide +kernel
theorem dX3_join_147 : decode cX3_join 147 = .ok (.iload 5, 2) := by decide +kernel
theorem dX3_join_149 : decode cX3_join 149 = .ok (.iaload, 1) := by decide +kernel
theorem dX3_join_150 : decode cX3_join 150 = .ok (.iload_n 2, 1) := by decide +kernel
theorem dX3_join_151 : decode cX3_join 151 = .ok (.if_icmp .eq 16, 3) := by decide +kernel
theorem dX3_join_154 : decode cX3_join 154 = .ok (.aload_n 0, 1) := by decide +kernel
theorem dX3_join_155 : decode cX3_join 155 = .ok (.getfield 29, 3) := by decide +kernel
theorem dX3_join_158 : decode cX3_join 158 = .ok (.iload_n 1, 1) := by decide +kernel
theorem dX3_join_159 : decode cX3_join 159 = .ok (.aaload, 1) := by decide +kernel
theorem dX3_join_160 : decode cX3_join 160 = .ok (.iload 5, 2) := by decide +kernel
theorem dX3_join_162 : decode cX3_join 162 = .ok (.iaload, 1) := by decide +kernel
theorem dX3_join_163 : decode cX3_join 163 = .ok (.iload_n 3, 1) := by decide +kernel
theorem dX3_join_164 : decode cX3_join 164 = .ok (.if_icmp .ne 18, 3) := by decide +kernel
theorem dX3_join_167 : decode cX3_join 167 = .ok (.aload_n 0, 1) := by decide +kernel
theorem dX3_join_168 : decode cX3_join 168 = .ok (.getfield 29, 3) := by decide +kernel
theorem dX3_join_171 : decode cX3_join 171 = .ok (.iload_n 1, 1) := by decide +kernel
theorem dX3_join_172 : decode cX3_join 172 = .ok (.iconst 1, 1) := by decide +kernel
theorem dX3_join_173 : decode cX3_join 173 = .ok (.iadd, 1) := by decide +kernel
theorem dX3_join_174 : decode cX3_join 174 = .ok (.aaload, 1) := by decide +kernel
theorem dX3_join_175 : decode cX3_join 175 = .ok (.iload 5, 2) := by decide +kernel
theorem dX3_join_177 : decode cX3_join 177 = .ok (.bipush 30, 2) := by decide +kernel
theorem dX3_join_179 : decode cX3_join 179 = .ok (.iload_n 1, 1) := by decide +kernel
theorem dX3_join_180 : decode cX3_join 180 = .ok (.iadd, 1) := by decide +kernel
theorem dX3_join_181 : decode cX3_join 181 = .ok (.iastore, 1) := by decide +kernel
theorem dX3_join_182 : decode cX3_join 182 = .ok (.iinc 5 1, 3) := by decide +kernel
theorem dX3_join_185 : decode cX3_join 185 = .ok (.goto (-80), 3) := by decide +kernel
theorem dX3_join_188 : decode cX3_join 188 = .ok (.iconst 1, 1) := by decide +kernel
theorem dX3_join_189 : decode cX3_join 189 = .ok (.ireturn, 1) := by decide +kernel
set_option maxRecDepth 20000 in
theorem ggX3_meet_X3_daysOf : GoodIn wsX3_meet wsX3_daysOf := goodIn_r _ [7, 1, 8, 9, 14, 15, 16, 17, 18, 19, 20, 21, 22, 23, 24, 25, 26, 27, 28, 29, 30] (by decide +kernel) (by decide +kernel)
set_option maxRecDepth 20000 in
theorem gX3_meet_X3_daysOf : GoodIn wsX3_meet (wsV RX3 91 RX3 yX3_daysOf wsX3_daysOf) := goodIn_app (goodIn_of _ (by decide +kernel)) ggX3_meet_X3_daysOf
set_option maxRecDepth 20000 in
theorem ggX3_meet_X3_sizeOf : GoodIn wsX3_meet wsX3_sizeOf := goodIn_r _ [13, 2, 8, 9, 14, 15, 16, 17, 18, 19, 20, 21, 22, 23, 24, 25, 26, 27, 28, 29, 30] (by decide +kernel) (by decide +kernel)
set_option maxRecDepth 20000 in
theorem gX3_meet_X3_sizeOf : GoodIn wsX3_meet (wsV RX3 95 RX3 yX3_sizeOf wsX3_sizeOf) := goodIn_app (goodIn_of _ (by decide +kernel)) ggX3_meet_X3_sizeOf
theorem dX3_meet_0 : decode cX3_meet 0 = .ok (.aload_n 0, 1) := by decide +kernel
theorem dX3_meet_1 : decode cX3_meet 1 = .ok (.iload_n 2, 1) := by decide +kernel
theorem dX3_meet_2 : decode cX3_meet 2 = .ok (.invokevirtual 91, 3) := by decide +kernel
theorem dX3_meet_5 : decode cX3_meet 5 = .ok (.astore 5, 2) := by decide +kernel
theorem dX3_meet_7 : decode cX3_meet 7 = .ok (.aload_n 0, 1) := by decide +kernel
theorem dX3_meet_8 : decode cX3_meet 8 = .ok (.iload_n 3, 1) := by decide +kernel
theorem dX3_meet_9 : decode cX3_meet 9 = .ok (.invokevirtual 91, 3) := by decide +kernel
theorem dX3_meet_12 : decode cX3_meet 12 = .ok (.astore 6, 2) := by decide +kernel
theorem dX3_meet_14 : decode cX3_meet 14 = .ok (.aload_n 0, 1) := by decide +kernel
theorem dX3_meet_15 : decode cX3_meet 15 = .ok (.iload_n 2, 1) := by decide +kernel
theorem dX3_meet_16 : decode cX3_meet 16 = .ok (.invokevirtual 95, 3) := by decide +kernel
theorem dX3_meet_19 : decode cX3_meet 19 = .ok (.istore 7, 2) := by decide +kernel
theorem dX3_meet_21 : decode cX3_meet 21 = .ok (.aload_n 0, 1) := by decide +kernel
theorem dX3_meet_22 : decode cX3_meet 22 = .ok (.iload_n 3, 1) := by decide +kernel
theorem dX3_meet_23 : decode cX3_meet 23 = .ok (.invokevirtual 95, 3) := by decide +kernel
theorem dX3_meet_26 : decode cX3_meet 26 = .ok (.istore 8, 2) := by decide +kernel
theorem dX3_meet_28 : decode cX3_meet 28 = .ok (.iconst 0, 1) := by decide +kernel
theorem dX3_meet_29 : decode cX3_meet 29 = .ok (.istore 9, 2) := by decide +kernel
theorem dX3_meet_31 : decode cX3_meet 31 = .ok (.iconst 0, 1) := by decide +kernel
theorem dX3_meet_32 : decode cX3_meet 32 = .ok (.istore 10, 2) := by decide +kernel
theorem dX3_meet_34 : decode cX3_meet 34 = .ok (.iconst 0, 1) := by decide +kernel
theorem dX3_meet_35 : decode cX3_meet 35 = .ok (.istore 11, 2) := by decide +kernel
theorem dX3_meet_37 : decode cX3_meet 37 = .ok (.iload 9, 2) := by decide +kernel
theorem dX3_meet_39 : decode cX3_meet 39 = .ok (.iload 7, 2) := by decide +kernel
theorem dX3_meet_41 : decode cX3_meet 41 = .ok (.if_icmp .ge 67, 3) := by decide +kernel
theorem dX3_meet_44 : decode cX3_meet 44 = .ok (.iload 10, 2) := by decide +kernel
theorem dX3_meet_46 : decode cX3_meet 46 = .ok (.iload 8, 2) := by decide +kernel
theorem dX3_meet_48 : decode cX3_meet 48 = .ok (.if_icmp .ge 60, 3) := by decide +kernel
theorem dX3_meet_51 : decode cX3_meet 51 = .ok (.aload 6, 2) := by decide +kernel
theorem dX3_meet_53 : decode cX3_meet 53 = .ok (.iload 10, 2) := by decide +kernel
theorem dX3_meet_55 : decode cX3_meet 55 = .ok (.iaload, 1) := by decide +kernel
theorem dX3_meet_56 : decode cX3_meet 56 = .ok (.aload 5, 2) := by decide +kernel
theorem dX3_meet_58 : decode cX3_meet 58 = .ok (.iload 9, 2) := by decide +kernel
theorem dX3_meet_60 : decode cX3_meet 60 = .ok (.iaload, 1) := by decide +kernel
theorem dX3_meet_61 : decode cX3_meet 61 = .ok (.isub, 1) := by decide +kernel
theorem dX3_meet_62 : decode cX3_meet 62 = .ok (.iload 4, 2) := by decide +kernel
theorem dX3_meet_64 : decode cX3_meet 64 = .ok (.isub, 1) := by decide +kernel
theorem dX3_meet_65 : decode cX3_meet 65 = .ok (.istore 12, 2) := by decide +kernel
theorem dX3_meet_67 : decode cX3_meet 67 = .ok (.iload 12, 2) := by decide +kernel
theorem dX3_meet_69 : decode cX3_meet 69 = .ok (.ifCond .ne 20, 3) := by decide +kernel
theorem dX3_meet_72 : decode cX3_meet 72 = .ok (.aload_n 0, 1) := by decide +kernel
theorem dX3_meet_73 : decode cX3_meet 73 = .ok (.getfield 35, 3) := by decide +kernel
theorem dX3_meet_76 : decode cX3_meet 76 = .ok (.iload_n 1, 1) := by decide +kernel
theorem dX3_meet_77 : decode cX3_meet 77 = .ok (.aaload, 1) := by decide +kernel
theorem dX3_meet_78 : decode cX3_meet 78 = .ok (.iload 11, 2) := by decide +kernel
theorem dX3_meet_80 : decode cX3_meet 80 = .ok (.aload 5, 2) := by decide +kernel
theorem dX3_meet_82 : decode cX3_meet 82 = .ok (.iload 9, 2) := by decide +kernel
theorem dX3_meet_84 : decode cX3_meet 84 = .ok (.iaload, 1) := by decide +kernel
theorem dX3_meet_85 : decode cX3_meet 85 = .ok (.iastore, 1) := by decide +kernel
theorem dX3_meet_86 : decode cX3_meet 86 = .ok (.iinc 11 1, 3) := by decide +kernel
theorem dX3_meet_89 : decode cX3_meet 89 = .ok (.iload 12, 2) := by decide +kernel
theorem dX3_meet_91 : decode cX3_meet 91 = .ok (.ifCond .lt 6, 3) := by decide +kernel
theorem dX3_meet_94 : decode cX3_meet 94 = .ok (.iinc 9 1, 3) := by decide +kernel
theorem dX3_meet_97 : decode cX3_meet 97 = .ok (.iload 12, 2) := by decide +kernel
theorem dX3_meet_99 : decode cX3_meet 99 = .ok (.ifCond .gt 6, 3) := by decide +kernel
theorem dX3_meet_102 : decode cX3_meet 102 = .ok (.iinc 10 1, 3) := by decide +kernel
theorem dX3_meet_105 : decode cX3_meet 105 = .ok (.goto (-68), 3) := by decide +kernel
theorem dX3_meet_108 : decode cX3_meet 108 = .ok (.aload_n 0, 1) := by decide +kernel
theorem dX3_meet_109 : decode cX3_meet 109 = .ok (.getfield 38, 3) := by decide +kernel
theorem dX3_meet_112 : decode cX3_meet 112 = .ok (.iload_n 1, 1) := by decide +kernel
theorem dX3_meet_113 : decode cX3_meet 113 = .ok (.iload 11, 2) := by decide +kernel
theorem dX3_meet_115 : decode cX3_meet 115 = .ok (.iastore, 1) := by decide +kernel
theorem dX3_meet_116 : decode cX3_meet 116 = .ok (.iload 11, 2) := by decide +kernel
theorem dX3_meet_118 : decode cX3_meet 118 = .ok (.ifCond .le 7, 3) := by decide +kernel
theorem dX3_meet_121 : decode cX3_meet 121 = .ok (.iconst 1, 1) := by decide +kernel
theorem dX3_meet_122 : decode cX3_meet 122 = .ok (.goto 4, 3) := by decide +kernel
theorem dX3_meet_125 : decode cX3_meet 125 = .ok (.iconst 0, 1) := by decide +kernel
theorem dX3_meet_126 : decode cX3_meet 126 = .ok (.ireturn, 1) := by decide +kernel
theorem dX3_daysOf_0 : decode cX3_daysOf 0 = .ok (.iload_n 1, 1) := by decide +kernel
theorem dX3_daysOf_1 : decode cX3_daysOf 1 = .ok (.bipush 30, 2) := by decide +kernel
theorem dX3_daysOf_3 : decode cX3_daysOf 3 = .ok (.if_icmp .lt 13, 3) := by decide +kernel
theorem dX3_daysOf_6 : decode cX3_daysOf 6 = .ok (.aload_n 0, 1) := by decide +kernel
theorem dX3_daysOf_7 : decode cX3_daysOf 7 = .ok (.getfield 35, 3) := by decide +kernel
theorem dX3_daysOf_10 : decode cX3_daysOf 10 = .ok (.iload_n 1, 1) := by decide +kernel
theorem dX3_daysOf_11 : decode cX3_daysOf 11 = .ok (.bipush 30, 2) := by decide +kernel
theorem dX3_daysOf_13 : decode cX3_daysOf 13 = .ok (.isub, 1) := by decide +kernel
theorem dX3_daysOf_14 : decode cX3_daysOf 14 = .ok (.aaload, 1) := by decide +kernel
theorem dX3_daysOf_15 : decode cX3_daysOf 15 = .ok (.areturn, 1) := by decide +kernel
theorem dX3_daysOf_16 : decode cX3_daysOf 16 = .ok (.aload_n 0, 1) := by decide +kernel
theorem dX3_daysOf_17 : decode cX3_daysOf 17 = .ok (.getfield 11, 3) := by decide +kernel
theorem dX3_daysOf_20 : decode cX3_daysOf 20 = .ok (.iload_n 1, 1) := by decide +kernel
theorem dX3_daysOf_21 : decode cX3_daysOf 21 = .ok (.aaload, 1) := by decide +kernel
theorem dX3_daysOf_22 : decode cX3_daysOf 22 = .ok (.astore_n 2, 1) := by decide +kernel
theorem dX3_daysOf_23 : decode cX3_daysOf 23 = .ok (.aload_n 2, 1) := by decide +kernel
theorem dX3_daysOf_24 : decode cX3_daysOf 24 = .ok (.ifnonnull 12, 3) := by decide +kernel
theorem dX3_daysOf_27 : decode cX3_daysOf 27 = .ok (.aload_n 0, 1) := by decide +kernel
theorem dX3_daysOf_28 : decode cX3_daysOf 28 = .ok (.getfield 35, 3) := by decide +kernel
theorem dX3_daysOf_31 : decode cX3_daysOf 31 = .ok (.iconst 0, 1) := by decide +kernel
theorem dX3_daysOf_32 : decode cX3_daysOf 32 = .ok (.aaload, 1) := by decide +kernel
theorem dX3_daysOf_33 : decode cX3_daysOf 33 = .ok (.goto 7, 3) := by decide +kernel
theorem dX3_daysOf_36 : decode cX3_daysOf 36 = .ok (.aload_n 2, 1) := by decide +kernel
theorem dX3_daysOf_37 : decode cX3_daysOf 37 = .ok (.getfield 98, 3) := by decide +kernel
theorem dX3_daysOf_40 : decode cX3_daysOf 40 = .ok (.areturn, 1) := by decide +kernel
theorem dX3_sizeOf_0 : decode cX3_sizeOf 0 = .ok (.iload_n 1, 1) := by decide +kernel
theorem dX3_sizeOf_1 : decode cX3_sizeOf 1 = .ok (.bipush 30, 2) := by decide +kernel
theorem dX3_sizeOf_3 : decode cX3_sizeOf 3 = .ok (.if_icmp .lt 13, 3) := by decide +kernel
theorem dX3_sizeOf_6 : decode cX3_sizeOf 6 = .ok (.aload_n 0, 1) := by decide +kernel
theorem dX3_sizeOf_7 : decode cX3_sizeOf 7 = .ok (.getfield 38, 3) := by decide +kernel
theorem dX3_sizeOf_10 : decode cX3_sizeOf 10 = .ok (.iload_n 1, 1) := by decide +kernel
theorem dX3_sizeOf_11 : decode cX3_sizeOf 11 = .ok (.bipush 30, 2) := by decide +kernel
theorem dX3_sizeOf_13 : decode cX3_sizeOf 13 = .ok (.isub, 1) := by decide +kernel
theorem dX3_sizeOf_14 : decode cX3_sizeOf 14 = .ok (.iaload, 1) := by decide +kernel
theorem dX3_sizeOf_15 : decode cX3_sizeOf 15 = .ok (.ireturn, 1) := by decide +kernel
theorem dX3_sizeOf_16 : decode cX3_sizeOf 16 = .ok (.aload_n 0, 1) := by decide +kernel
theorem dX3_sizeOf_17 : decode cX3_sizeOf 17 = .ok (.getfield 11, 3) := by decide +kernel
theorem dX3_sizeOf_20 : decode cX3_sizeOf 20 = .ok (.iload_n 1, 1) := by decide +kernel
theorem dX3_sizeOf_21 : decode cX3_sizeOf 21 = .ok (.aaload, 1) := by decide +kernel
theorem dX3_sizeOf_22 : decode cX3_sizeOf 22 = .ok (.astore_n 2, 1) := by decide +kernel
theorem dX3_sizeOf_23 : decode cX3_sizeOf 23 = .ok (.aload_n 2, 1) := by decide +kernel
theorem dX3_sizeOf_24 : decode cX3_sizeOf 24 = .ok (.ifnonnull 7, 3) := by decide +kernel
theorem dX3_sizeOf_27 : decode cX3_sizeOf 27 = .ok (.iconst 0, 1) := by decide +kernel
theorem dX3_sizeOf_28 : decode cX3_sizeOf 28 = .ok (.goto 8, 3) := by decide +kernel
theorem dX3_sizeOf_31 : decode cX3_sizeOf 31 = .ok (.aload_n 2, 1) := by decide +kernel
theorem dX3_sizeOf_32 : decode cX3_sizeOf 32 = .ok (.getfield 98, 3) := by decide +kernel
theorem dX3_sizeOf_35 : decode cX3_sizeOf 35 = .ok (.arraylength, 1) := by decide +kernel
theorem dX3_sizeOf_36 : decode cX3_sizeOf 36 = .ok (.ireturn, 1) := by decide +kernel
theorem dX3_wrongAt_0 : decode cX3_wrongAt 0 = .ok (.iload_n 1, 1) := by decide +kernel
theorem dX3_wrongAt_1 : decode cX3_wrongAt 1 = .ok (.istore_n 2, 1) := by decide +kernel
theorem dX3_wrongAt_2 : decode cX3_wrongAt 2 = .ok (.iconst 0, 1) := by decide +kernel
theorem dX3_wrongAt_3 : decode cX3_wrongAt 3 = .ok (.istore_n 3, 1) := by decide +kernel
theorem dX3_wrongAt_4 : decode cX3_wrongAt 4 = .ok (.iload_n 3, 1) := by decide +kernel
theorem dX3_wrongAt_5 : decode cX3_wrongAt 5 = .ok (.aload_n 0, 1) := by decide +kernel
theorem dX3_wrongAt_6 : decode cX3_wrongAt 6 = .ok (.getfield 48, 3) := by decide +kernel
theorem dX3_wrongAt_9 : decode cX3_wrongAt 9 = .ok (.if_icmp .ge 33, 3) := by decide +kernel
theorem dX3_wrongAt_12 : decode cX3_wrongAt 12 = .ok (.iload_n 2, 1) := by decide +kernel
theorem dX3_wrongAt_13 : decode cX3_wrongAt 13 = .ok (.ifCond .lt 29, 3) := by decide +kernel
theorem dX3_wrongAt_16 : decode cX3_wrongAt 16 = .ok (.aload_n 0, 1) := by decide +kernel
theorem dX3_wrongAt_17 : decode cX3_wrongAt 17 = .ok (.getfield 65, 3) := by decide +kernel
theorem dX3_wrongAt_20 : decode cX3_wrongAt 20 = .ok (.iload_n 3, 1) := by decide +kernel
theorem dX3_wrongAt_21 : decode cX3_wrongAt 21 = .ok (.ishr, 1) := by decide +kernel
theorem dX3_wrongAt_22 : decode cX3_wrongAt 22 = .ok (.iconst 1, 1) := by decide +kernel
theorem dX3_wrongAt_23 : decode cX3_wrongAt 23 = .ok (.iand, 1) := by decide +kernel
theorem dX3_wrongAt_24 : decode cX3_wrongAt 24 = .ok (.ifCond .eq 12, 3) := by decide +kernel
theorem dX3_wrongAt_27 : decode cX3_wrongAt 27 = .ok (.iload_n 2, 1) := by decide +kernel
theorem dX3_wrongAt_28 : decode cX3_wrongAt 28 = .ok (.ifCond .ne 5, 3) := by decide +kernel
theorem dX3_wrongAt_31 : decode cX3_wrongAt 31 = .ok (.iload_n 3, 1) := by decide +kernel
theorem dX3_wrongAt_32 : decode cX3_wrongAt 32 = .ok (.ireturn, 1) := by decide +kernel
theorem dX3_wrongAt_33 : decode cX3_wrongAt 33 = .ok (.iinc 2 (-1), 3) := by decide +kernel
theorem dX3_wrongAt_36 : decode cX3_wrongAt 36 = .ok (.iinc 3 1, 3) := by decide +kernel
theorem dX3_wrongAt_39 : decode cX3_wrongAt 39 = .ok (.goto (-35), 3) := by decide +kernel
theorem dX3_wrongAt_42 : decode cX3_wrongAt 42 = .ok (.iconst (-1), 1) := by decide +kernel
theorem dX3_wrongAt_43 : decode cX3_wrongAt 43 = .ok (.ireturn, 1) := by decide +kernel
set_option maxRecDepth 20000 in
theorem ggX3_settledSize_X3_sizeOf : GoodIn wsX3_settledSize wsX3_sizeOf := goodIn_r _ [8, 9, 1, 10, 11, 12, 13, 14, 15, 16, 17, 18, 19, 20, 21, 22, 23, 24, 25, 26, 27] (by decide +kernel) (by decide +kernel)
set_option maxRecDepth 20000 in
theorem gX3_settledSize_X3_sizeOf : GoodIn wsX3_settledSize (wsV RX3 95 RX3 yX3_sizeOf wsX3_sizeOf) := goodIn_app (goodIn_of _ (by decide +kernel)) ggX3_settledSize_X3_sizeOf
theorem dX3_settledSize_0 : decode cX3_settledSize 0 = .ok (.aload_n 0, 1) := by decide +kernel
theorem dX3_settledSize_1 : decode cX3_settledSize 1 = .ok (.getfield 11, 3) := by decide +kernel
theorem dX3_settledSize_4 : decode cX3_settledSize 4 = .ok (.iload_n 1, 1) := by decide +kernel
theorem dX3_settledSize_5 : decode cX3_settledSize 5 = .ok (.aaload, 1) := by decide +kernel
theorem dX3_settledSize_6 : decode cX3_settledSize 6 = .ok (.ifnonnull 7, 3) := by decide +kernel
theorem dX3_settledSize_9 : decode cX3_settledSize 9 = .ok (.iconst (-1), 1) := by decide +kernel
theorem dX3_settledSize_10 : decode cX3_settledSize 10 = .ok (.goto 18, 3) := by decide +kernel
theorem dX3_settledSize_13 : decode cX3_settledSize 13 = .ok (.aload_n 0, 1) := by decide +kernel
theorem dX3_settledSize_14 : decode cX3_settledSize 14 = .ok (.aload_n 0, 1) := by decide +kernel
theorem dX3_settledSize_15 : decode cX3_settledSize 15 = .ok (.getfield 29, 3) := by decide +kernel
theorem dX3_settledSize_18 : decode cX3_settledSize 18 = .ok (.aload_n 0, 1) := by decide +kernel
theorem dX3_settledSize_19 : decode cX3_settledSize 19 = .ok (.getfield 48, 3) := by decide +kernel
theorem dX3_settledSize_22 : decode cX3_settledSize 22 = .ok (.aaload, 1) := by decide +kernel
theorem dX3_settledSize_23 : decode cX3_settledSize 23 = .ok (.iload_n 1, 1) := by decide +kernel
theorem dX3_settledSize_24 : decode cX3_settledSize 24 = .ok (.iaload, 1) := by decide +kernel
theorem dX3_settledSize_25 : decode cX3_settledSize 25 = .ok (.invokevirtual 95, 3) := by decide +kernel
theorem dX3_settledSize_28 : decode cX3_settledSize 28 = .ok (.ireturn, 1) := by decide +kernel
set_option maxRecDepth 20000 in
theorem ggX3_settledAt_X3_settledSize : GoodIn wsX3_settledAt wsX3_settledSize := goodIn_r _ [8, 9, 1, 2, 10, 11, 12, 7, 13, 14, 15, 21, 22, 23, 24, 25, 26, 27, 28, 29, 30, 31, 32, 33, 34, 35, 36, 37] (by decide +kernel) (by decide +kernel)
set_option maxRecDepth 20000 in
theorem gX3_settledAt_X3_settledSize : GoodIn wsX3_settledAt (wsV RX3 99 RX3 yX3_settledSize wsX3_settledSize) := goodIn_app (goodIn_of _ (by decide +kernel)) ggX3_settledAt_X3_settledSize
set_option maxRecDepth 20000 in
theorem ggX3_settledAt_X3_daysOf : GoodIn wsX3_settledAt wsX3_daysOf := goodIn_r _ [19, 20, 9, 15, 21, 22, 23, 24, 25, 26, 27, 28, 29, 30, 31, 32, 33, 34, 35, 36, 37] (by decide +kernel) (by decide +kernel)
set_option maxRecDepth 20000 in
theorem gX3_settledAt_X3_daysOf : GoodIn wsX3_settledAt (wsV RX3 91 RX3 yX3_daysOf wsX3_daysOf) := goodIn_app (goodIn_of _ (by decide +kernel)) ggX3_settledAt_X3_daysOf
theorem dX3_settledAt_0 : decode cX3_settledAt 0 = .ok (.iload_n 2, 1) := by decide +kernel
theorem dX3_settledAt_1 : decode cX3_settledAt 1 = .ok (.ifCond .lt 12, 3) := by decide +kernel
theorem dX3_settledAt_4 : decode cX3_settledAt 4 = .ok (.iload_n 2, 1) := by decide +kernel
theorem dX3_settledAt_5 : decode cX3_settledAt 5 = .ok (.aload_n 0, 1) := by decide +kernel
theorem dX3_settledAt_6 : decode cX3_settledAt 6 = .ok (.iload_n 1, 1) := by decide +kernel
theorem dX3_settledAt_7 : decode cX3_settledAt 7 = .ok (.invokevirtual 99, 3) := by decide +kernel
theorem dX3_settledAt_10 : decode cX3_settledAt 10 = .ok (.if_icmp .lt 5, 3) := by decide +kernel
theorem dX3_settledAt_13 : decode cX3_settledAt 13 = .ok (.iconst (-1), 1) := by decide +kernel
theorem dX3_settledAt_14 : decode cX3_settledAt 14 = .ok (.ireturn, 1) := by decide +kernel
theorem dX3_settledAt_15 : decode cX3_settledAt 15 = .ok (.aload_n 0, 1) := by decide +kernel
theorem dX3_settledAt_16 : decode cX3_settledAt 16 = .ok (.aload_n 0, 1) := by decide +kernel
theorem dX3_settledAt_17 : decode cX3_settledAt 17 = .ok (.getfield 29, 3) := by decide +kernel
theorem dX3_settledAt_20 : decode cX3_settledAt 20 = .ok (.aload_n 0, 1) := by decide +kernel
theorem dX3_settledAt_21 : decode cX3_settledAt 21 = .ok (.getfield 48, 3) := by decide +kernel
theorem dX3_settledAt_24 : decode cX3_settledAt 24 = .ok (.aaload, 1) := by decide +kernel
theorem dX3_settledAt_25 : decode cX3_settledAt 25 = .ok (.iload_n 1, 1) := by decide +kernel
theorem dX3_settledAt_26 : decode cX3_settledAt 26 = .ok (.iaload, 1) := by decide +kernel
theorem dX3_settledAt_27 : decode cX3_settledAt 27 = .ok (.invokevirtual 91, 3) := by decide +kernel
theorem dX3_settledAt_30 : decode cX3_settledAt 30 = .ok (.iload_n 2, 1) := by decide +kernel
theorem dX3_settledAt_31 : decode cX3_settledAt 31 = .ok (.iaload, 1) := by decide +kernel
theorem dX3_settledAt_32 : decode cX3_settledAt 32 = .ok (.aload_n 0, 1) := by decide +kernel
theorem dX3_settledAt_33 : decode cX3_settledAt 33 = .ok (.getfield 32, 3) := by decide +kernel
theorem dX3_settledAt_36 : decode cX3_settledAt 36 = .ok (.aload_n 0, 1) := by decide +kernel
theorem dX3_settledAt_37 : decode cX3_settledAt 37 = .ok (.getfield 48, 3) := by decide +kernel
theorem dX3_settledAt_40 : decode cX3_settledAt 40 = .ok (.aaload, 1) := by decide +kernel
theorem dX3_settledAt_41 : decode cX3_settledAt 41 = .ok (.iload_n 1, 1) := by decide +kernel
theorem dX3_settledAt_42 : decode cX3_settledAt 42 = .ok (.iaload, 1) := by decide +kernel
theorem dX3_settledAt_43 : decode cX3_settledAt 43 = .ok (.iadd, 1) := by decide +kernel
theorem dX3_settledAt_44 : decode cX3_settledAt 44 = .ok (.ireturn, 1) := by decide +kernel
theorem dX4_init_0 : decode cX4_init 0 = .ok (.aload_n 0, 1) := by decide +kernel
theorem dX4_init_1 : decode cX4_init 1 = .ok (.invokespecial 3, 3) := by decide +kernel
theorem dX4_init_4 : decode cX4_init 4 = .ok (.aload_n 0, 1) := by decide +kernel
theorem dX4_init_5 : decode cX4_init 5 = .ok (.bipush 11, 2) := by decide +kernel
theorem dX4_init_7 : decode cX4_init 7 = .ok (.newarray .int, 2) := by decide +kernel
theorem dX4_init_9 : decode cX4_init 9 = .ok (.putfield 9, 3) := by decide +kernel
theorem dX4_init_12 : decode cX4_init 12 = .ok (.aload_n 0, 1) := by decide +kernel
theorem dX4_init_13 : decode cX4_init 13 = .ok (.sipush 200, 3) := by decide +kernel
theorem dX4_init_16 : decode cX4_init 16 = .ok (.newarray .int, 2) := by decide +kernel
theorem dX4_init_18 : decode cX4_init 18 = .ok (.putfield 15, 3) := by decide +kernel
theorem dX4_init_21 : decode cX4_init 21 = .ok (.return_, 1) := by decide +kernel
theorem dX4_hasRoom_0 : decode cX4_hasRoom 0 = .ok (.aload_n 0, 1) := by decide +kernel
theorem dX4_hasRoom_1 : decode cX4_hasRoom 1 = .ok (.getfield 18, 3) := by decide +kernel
theorem dX4_hasRoom_4 : decode cX4_hasRoom 4 = .ok (.bipush 20, 2) := by decide +kernel
theorem dX4_hasRoom_6 : decode cX4_hasRoom 6 = .ok (.iadd, 1) := by decide +kernel
theorem dX4_hasRoom_7 : decode cX4_hasRoom 7 = .ok (.sipush 200, 3) := by decide +kernel
theorem dX4_hasRoom_10 : decode cX4_hasRoom 10 = .ok (.if_icmp .gt 7, 3) := by decide +kernel
theorem dX4_hasRoom_13 : decode cX4_hasRoom 13 = .ok (.iconst 1, 1) := by decide +kernel
theorem dX4_hasRoom_14 : decode cX4_hasRoom 14 = .ok (.goto 4, 3) := by decide +kernel
theorem dX4_hasRoom_17 : decode cX4_hasRoom 17 = .ok (.iconst 0, 1) := by decide +kernel
theorem dX4_hasRoom_18 : decode cX4_hasRoom 18 = .ok (.ireturn, 1) := by decide +kernel
theorem dX4_put_0 : decode cX4_put 0 = .ok (.bipush 24, 2) := by decide +kernel
theorem dX4_put_2 : decode cX4_put 2 = .ok (.istore_n 2, 1) := by decide +kernel
theorem dX4_put_3 : decode cX4_put 3 = .ok (.iload_n 2, 1) := by decide +kernel
theorem dX4_put_4 : decode cX4_put 4 = .ok (.ifCond .lt 45, 3) := by decide +kernel
theorem dX4_put_7 : decode cX4_put 7 = .ok (.aload_n 0, 1) := by decide +kernel
theorem dX4_put_8 : decode cX4_put 8 = .ok (.getfield 18, 3) := by decide +kernel
theorem dX4_put_11 : decode cX4_put 11 = .ok (.sipush 200, 3) := by decide +kernel
theorem dX4_put_14 : decode cX4_put 14 = .ok (.if_icmp .ge 35, 3) := by decide +kernel
theorem dX4_put_17 : decode cX4_put 17 = .ok (.aload_n 0, 1) := by decide +kernel
theorem dX4_put_18 : decode cX4_put 18 = .ok (.getfield 15, 3) := by decide +kernel
theorem dX4_put_21 : decode cX4_put 21 = .ok (.aload_n 0, 1) := by decide +kernel
theorem dX4_put_22 : decode cX4_put 22 = .ok (.getfield 18, 3) := by decide +kernel
theorem dX4_put_25 : decode cX4_put 25 = .ok (.iload_n 1, 1) := by decide +kernel
theorem dX4_put_26 : decode cX4_put 26 = .ok (.iload_n 2, 1) := by decide +kernel
theorem dX4_put_27 : decode cX4_put 27 = .ok (.ishr, 1) := by decide +kernel
theorem dX4_put_28 : decode cX4_put 28 = .ok (.sipush 255, 3) := by decide +kernel
theorem dX4_put_31 : decode cX4_put 31 = .ok (.iand, 1) := by decide +kernel
theorem dX4_put_32 : decode cX4_put 32 = .ok (.iastore, 1) := by decide +kernel
theorem dX4_put_33 : decode cX4_put 33 = .ok (.aload_n 0, 1) := by decide +kernel
theorem dX4_put_34 : decode cX4_put 34 = .ok (.dup, 1) := by decide +kernel
theorem dX4_put_35 : decode cX4_put 35 = .ok (.getfield 18, 3) := by decide +kernel
theorem dX4_put_38 : decode cX4_put 38 = .ok (.iconst 1, 1) := by decide +kernel
theorem dX4_put_39 : decode cX4_put 39 = .ok (.iadd, 1) := by decide +kernel
theorem dX4_put_40 : decode cX4_put 40 = .ok (.putfield 18, 3) := by decide +kernel
theorem dX4_put_43 : decode cX4_put 43 = .ok (.iinc 2 (-8), 3) := by decide +kernel
theorem dX4_put_46 : decode cX4_put 46 = .ok (.goto (-43), 3) := by decide +kernel
theorem dX4_put_49 : decode cX4_put 49 = .ok (.return_, 1) := by decide +kernel
set_option maxRecDepth 20000 in
theorem ggX4_read_J7_fill_53178 : GoodIn wsX4_read wsJ7_fill_53178 := goodIn_r _ [14] (by decide +kernel) (by decide +kernel)
set_option maxRecDepth 20000 in
theorem gX4_read_J7_fill_53178 : GoodIn wsX4_read (va_wsS RX4 37 yJ7_fill_53178 wsJ7_fill_53178) := goodIn_app (goodIn_of _ (by decide +kernel)) ggX4_read_J7_fill_53178
set_option maxRecDepth 20000 in
theorem ggX4_read_X4_skipBlanks : GoodIn wsX4_read wsX4_skipBlanks := goodIn_r _ [19, 9, 8, 20, 120, 121, 122, 123, 124, 125, 126] (by decide +kernel) (by decide +kernel)
set_option maxRecDepth 20000 in
theorem gX4_read_X4_skipBlanks : GoodIn wsX4_read (wsV RX4 43 RX4 yX4_skipBlanks wsX4_skipBlanks) := goodIn_app (goodIn_of _ (by decide +kernel)) ggX4_read_X4_skipBlanks
set_option maxRecDepth 20000 in
theorem ggX4_read_X4_readClause : GoodIn wsX4_read wsX4_readClause := goodIn_r _ [24, 9, 25, 26, 27, 28, 29, 18, 30, 8, 20, 31, 32, 33, 34, 35, 36, 37, 38, 39, 40, 41, 42, 43, 44, 45, 46, 47, 48, 49, 50, 51, 52, 53, 54, 55, 56, 57, 58, 59, 60, 61, 62, 63, 64, 65, 66, 67, 68, 69, 70, 71, 72, 73, 74, 75, 76, 77, 78, 79, 80, 81, 82, 83, 84, 85, 86, 87, 88, 89, 90, 91, 92, 93, 94, 95, 96, 97, 98, 15, 16, 17, 19, 99, 100, 101, 102, 103, 104, 105, 106, 107, 108, 109, 110, 111, 112, 113, 114, 115, 116, 117, 118, 119, 10, 120, 121, 122, 123, 124, 125, 126] (by decide +kernel) (by decide +kernel)
set_option maxRecDepth 20000 in
theorem gX4_read_X4_readClause : GoodIn wsX4_read (wsV RX4 46 RX4 yX4_readClause wsX4_readClause) := goodIn_app (goodIn_of _ (by decide +kernel)) ggX4_read_X4_readClause
set_option maxRecDepth 20000 in
theorem ggX4_read_X4_refuse : GoodIn wsX4_read wsX4_refuse := goodIn_r _ [89, 90, 120, 121, 122, 123, 124, 125, 126] (by decide +kernel) (by decide +kernel)
set_option maxRecDepth 20000 in
theorem gX4_read_X4_refuse : GoodIn wsX4_read (wsV RX4 50 RX4 yX4_refuse wsX4_refuse) := goodIn_app (goodIn_of _ (by decide +kernel)) ggX4_read_X4_refuse
theorem dX4_read_0 : decode cX4_read 0 = .ok (.aload_n 0, 1) := by decide +kernel
theorem dX4_read_1 : decode cX4_read 1 = .ok (.iconst 0, 1) := by decide +kernel
theorem dX4_read_2 : decode cX4_read 2 = .ok (.iload_n 1, 1) := by decide +kernel
theorem dX4_read_3 : decode cX4_read 3 = .ok (.sipush 200, 3) := by decide +kernel
theorem dX4_read_6 : decode cX4_read 6 = .ok (.invokestatic 22, 3) := by decide +kernel
theorem dX4_read_9 : decode cX4_read 9 = .ok (.invokestatic 28, 3) := by decide +kernel
theorem dX4_read_12 : decode cX4_read 12 = .ok (.putfield 31, 3) := by decide +kernel
theorem dX4_read_15 : decode cX4_read 15 = .ok (.aload_n 0, 1) := by decide +kernel
theorem dX4_read_16 : decode cX4_read 16 = .ok (.iconst 0, 1) := by decide +kernel
theorem dX4_read_17 : decode cX4_read 17 = .ok (.putfield 34, 3) := by decide +kernel
theorem dX4_read_20 : decode cX4_read 20 = .ok (.aload_n 0, 1) := by decide +kernel
theorem dX4_read_21 : decode cX4_read 21 = .ok (.getfield 9, 3) := by decide +kernel
theorem dX4_read_24 : decode cX4_read 24 = .ok (.iconst (-1), 1) := by decide +kernel
theorem dX4_read_25 : decode cX4_read 25 = .ok (.invokestatic 37, 3) := by decide +kernel
theorem dX4_read_28 : decode cX4_read 28 = .ok (.aload_n 0, 1) := by decide +kernel
theorem dX4_read_29 : decode cX4_read 29 = .ok (.invokevirtual 43, 3) := by decide +kernel
theorem dX4_read_32 : decode cX4_read 32 = .ok (.iconst 0, 1) := by decide +kernel
theorem dX4_read_33 : decode cX4_read 33 = .ok (.istore_n 2, 1) := by decide +kernel
theorem dX4_read_34 : decode cX4_read 34 = .ok (.iload_n 2, 1) := by decide +kernel
theorem dX4_read_35 : decode cX4_read 35 = .ok (.bipush 12, 2) := by decide +kernel
theorem dX4_read_37 : decode cX4_read 37 = .ok (.if_icmp .ge 33, 3) := by decide +kernel
theorem dX4_read_40 : decode cX4_read 40 = .ok (.aload_n 0, 1) := by decide +kernel
theorem dX4_read_41 : decode cX4_read 41 = .ok (.getfield 34, 3) := by decide +kernel
theorem dX4_read_44 : decode cX4_read 44 = .ok (.aload_n 0, 1) := by decide +kernel
theorem dX4_read_45 : decode cX4_read 45 = .ok (.getfield 31, 3) := by decide +kernel
theorem dX4_read_48 : decode cX4_read 48 = .ok (.if_icmp .ge 22, 3) := by decide +kernel
theorem dX4_read_51 : decode cX4_read 51 = .ok (.aload_n 0, 1) := by decide +kernel
theorem dX4_read_52 : decode cX4_read 52 = .ok (.invokevirtual 46, 3) := by decide +kernel
theorem dX4_read_55 : decode cX4_read 55 = .ok (.ifCond .ne 5, 3) := by decide +kernel
theorem dX4_read_58 : decode cX4_read 58 = .ok (.iconst 0, 1) := by decide +kernel
theorem dX4_read_59 : decode cX4_read 59 = .ok (.ireturn, 1) := by decide +kernel
theorem dX4_read_60 : decode cX4_read 60 = .ok (.aload_n 0, 1) := by decide +kernel
theorem dX4_read_61 : decode cX4_read 61 = .ok (.invokevirtual 43, 3) := by decide +kernel
theorem dX4_read_64 : decode cX4_read 64 = .ok (.iinc 2 1, 3) := by decide +kernel
theorem dX4_read_67 : decode cX4_read 67 = .ok (.goto (-33), 3) := by decide +kernel
theorem dX4_read_70 : decode cX4_read 70 = .ok (.aload_n 0, 1) := by decide +kernel
theorem dX4_read_71 : decode cX4_read 71 = .ok (.getfield 34, 3) := by decide +kernel
theorem dX4_read_74 : decode cX4_read 74 = .ok (.aload_n 0, 1) := by decide +kernel
theorem dX4_read_75 : decode cX4_read 75 = .ok (.getfield 31, 3) := by decide +kernel
theorem dX4_read_78 : decode cX4_read 78 = .ok (.if_icmp .ge 14, 3) := by decide +kernel
theorem dX4_read_81 : decode cX4_read 81 = .ok (.aload_n 0, 1) := by decide +kernel
theorem dX4_read_82 : decode cX4_read 82 = .ok (.aload_n 0, 1) := by decide +kernel
theorem dX4_read_83 : decode cX4_read 83 = .ok (.getfield 34, 3) := by decide +kernel
theorem dX4_read_86 : decode cX4_read 86 = .ok (.invokevirtual 50, 3) := by decide +kernel
theorem dX4_read_89 : decode cX4_read 89 = .ok (.ifCond .eq 7, 3) := by decide +kernel
theorem dX4_read_92 : decode cX4_read 92 = .ok (.iconst 1, 1) := by decide +kernel
theorem dX4_read_93 : decode cX4_read 93 = .ok (.goto 4, 3) := by decide +kernel
theorem dX4_read_96 : decode cX4_read 96 = .ok (.iconst 0, 1) := by decide +kernel
theorem dX4_read_97 : decode cX4_read 97 = .ok (.ireturn, 1) := by decide +kernel
set_option maxRecDepth 20000 in
theorem ggX4_readClause_X4_readWord : GoodIn wsX4_readClause wsX4_readWord := goodIn_r _ [8, 1, 9, 10, 11, 12, 13, 14, 15, 7, 16, 17, 18, 19, 20, 21, 22, 23, 24, 25, 26, 27, 28, 29, 30, 31, 32, 33, 34, 35, 36, 37, 38, 39, 40, 41, 42, 43, 44, 45, 46, 47, 48, 49, 50, 51, 52, 53, 54, 55, 56, 57, 58, 59, 60, 61, 62, 63, 64, 65, 105, 106, 107, 108, 109, 110, 111] (by decide +kernel) (by decide +kernel)
set_option maxRecDepth 20000 in
theorem gX4_readClause_X4_readWord : GoodIn wsX4_readClause (wsV RX4 54 RX4 yX4_readWord wsX4_readWord) := goodIn_app (goodIn_of _ (by decide +kernel)) ggX4_readClause_X4_readWord
set_option maxRecDepth 20000 in
theorem ggX4_readClause_X4_refuse : GoodIn wsX4_readClause wsX4_refuse := goodIn_r _ [69, 70, 105, 106, 107, 108, 109, 110, 111] (by decide +kernel) (by decide +kernel)
set_option maxRecDepth 20000 in
theorem gX4_readClause_X4_refuse : GoodIn wsX4_readClause (wsV RX4 50 RX4 yX4_refuse wsX4_refuse) := goodIn_app (goodIn_of _ (by decide +kernel)) ggX4_readClause_X4_refuse
set_option maxRecDepth 20000 in
theorem ggX4_readClause_X4_demand : GoodIn wsX4_readClause wsX4_demand := goodIn_r _ [74, 1, 75, 76, 77, 7, 78, 9, 10, 79, 80, 81, 82, 66, 67, 68, 69, 70, 105, 106, 107, 108, 109, 110, 111] (by decide +kernel) (by decide +kernel)
set_option maxRecDepth 20000 in
theorem gX4_readClause_X4_demand : GoodIn wsX4_readClause (wsV RX4 63 RX4 yX4_demand wsX4_demand) := goodIn_app (goodIn_of _ (by decide +kernel)) ggX4_readClause_X4_demand
set_option maxRecDepth 20000 in
theorem ggX4_readClause_X4_readPart : GoodIn wsX4_readClause wsX4_readPart := goodIn_r _ [86, 87, 75, 76, 77, 7, 78, 1, 9, 10, 79, 80, 81, 82, 88, 89, 90, 91, 92, 93, 94, 95, 96, 97, 98, 99, 66, 67, 68, 69, 70, 105, 106, 107, 108, 109, 110, 111] (by decide +kernel) (by decide +kernel)
set_option maxRecDepth 20000 in
theorem gX4_readClause_X4_readPart : GoodIn wsX4_readClause (wsV RX4 67 RX4 yX4_readPart wsX4_readPart) := goodIn_app (goodIn_of _ (by decide +kernel)) ggX4_readClause_X4_readPart
set_option maxRecDepth 20000 in
theorem ggX4_readClause_X4_narrow : GoodIn wsX4_readClause wsX4_narrow := goodIn_r _ [103, 104, 87, 105, 106, 107, 108, 109, 110, 111] (by decide +kernel) (by decide +kernel)
set_option maxRecDepth 20000 in
theorem gX4_readClause_X4_narrow : GoodIn wsX4_readClause (wsV RX4 73 RX4 yX4_narrow wsX4_narrow) := goodIn_app (goodIn_of _ (by decide +kernel)) ggX4_readClause_X4_narrow
theorem dX4_readClause_0 : decode cX4_readClause 0 = .ok (.aload_n 0, 1) := by decide +kernel
theorem dX4_readClause_1 : decode cX4_readClause 1 = .ok (.getfield 34, 3) := by decide +kernel
theorem dX4_readClause_4 : decode cX4_readClause 4 = .ok (.istore_n 1, 1) := by decide +kernel
theorem dX4_readClause_5 : decode cX4_readClause 5 = .ok (.aload_n 0, 1) := by decide +kernel
theorem dX4_readClause_6 : decode cX4_readClause 6 = .ok (.invokevirtual 54, 3) := by decide +kernel
theorem dX4_readClause_9 : decode cX4_readClause 9 = .ok (.astore_n 2, 1) := by decide +kernel
theorem dX4_readClause_10 : decode cX4_readClause 10 = .ok (.aload_n 2, 1) := by decide +kernel
theorem dX4_readClause_11 : decode cX4_readClause 11 = .ok (.ifnonnull 9, 3) := by decide +kernel
theorem dX4_readClause_14 : decode cX4_readClause 14 = .ok (.aload_n 0, 1) := by decide +kernel
theorem dX4_readClause_15 : decode cX4_readClause 15 = .ok (.iload_n 1, 1) := by decide +kernel
theorem dX4_readClause_16 : decode cX4_readClause 16 = .ok (.invokevirtual 50, 3) := by decide +kernel
theorem dX4_readClause_19 : decode cX4_readClause 19 = .ok (.ireturn, 1) := by decide +kernel
theorem dX4_readClause_20 : decode cX4_readClause 20 = .ok (.iconst 0, 1) := by decide +kernel
theorem dX4_readClause_21 : decode cX4_readClause 21 = .ok (.istore_n 3, 1) := by decide +kernel
theorem dX4_readClause_22 : decode cX4_readClause 22 = .ok (.iload_n 3, 1) := by decide +kernel
theorem dX4_readClause_23 : decode cX4_readClause 23 = .ok (.aload_n 2, 1) := by decide +kernel
theorem dX4_readClause_24 : decode cX4_readClause 24 = .ok (.getfield 58, 3) := by decide +kernel
theorem dX4_readClause_27 : decode cX4_readClause 27 = .ok (.if_icmp .ge 43, 3) := by decide +kernel
theorem dX4_readClause_30 : decode cX4_readClause 30 = .ok (.iload_n 3, 1) := by decide +kernel
theorem dX4_readClause_31 : decode cX4_readClause 31 = .ok (.ifCond .le 14, 3) := by decide +kernel
theorem dX4_readClause_34 : decode cX4_readClause 34 = .ok (.aload_n 0, 1) := by decide +kernel
theorem dX4_readClause_35 : decode cX4_readClause 35 = .ok (.bipush 46, 2) := by decide +kernel
theorem dX4_readClause_37 : decode cX4_readClause 37 = .ok (.invokevirtual 63, 3) := by decide +kernel
theorem dX4_readClause_40 : decode cX4_readClause 40 = .ok (.ifCond .ne 5, 3) := by decide +kernel
theorem dX4_readClause_43 : decode cX4_readClause 43 = .ok (.iconst 0, 1) := by decide +kernel
theorem dX4_readClause_44 : decode cX4_readClause 44 = .ok (.ireturn, 1) := by decide +kernel
theorem dX4_readClause_45 : decode cX4_readClause 45 = .ok (.aload_n 0, 1) := by decide +kernel
theorem dX4_readClause_46 : decode cX4_readClause 46 = .ok (.invokevirtual 67, 3) := by decide +kernel
theorem dX4_readClause_49 : decode cX4_readClause 49 = .ok (.ifCond .ne 5, 3) := by decide +kernel
theorem dX4_readClause_52 : decode cX4_readClause 52 = .ok (.iconst 0, 1) := by decide +kernel
theorem dX4_readClause_53 : decode cX4_readClause 53 = .ok (.ireturn, 1) := by decide +kernel
theorem dX4_readClause_54 : decode cX4_readClause 54 = .ok (.aload_n 0, 1) := by decide +kernel
theorem dX4_readClause_55 : decode cX4_readClause 55 = .ok (.aload_n 2, 1) := by decide +kernel
theorem dX4_readClause_56 : decode cX4_readClause 56 = .ok (.getfield 70, 3) := by decide +kernel
theorem dX4_readClause_59 : decode cX4_readClause 59 = .ok (.iload_n 3, 1) := by decide +kernel
theorem dX4_readClause_60 : decode cX4_readClause 60 = .ok (.iadd, 1) := by decide +kernel
theorem dX4_readClause_61 : decode cX4_readClause 61 = .ok (.invokevirtual 73, 3) := by decide +kernel
theorem dX4_readClause_64 : decode cX4_readClause 64 = .ok (.iinc 3 1, 3) := by decide +kernel
theorem dX4_readClause_67 : decode cX4_readClause 67 = .ok (.goto (-45), 3) := by decide +kernel
theorem dX4_readClause_70 : decode cX4_readClause 70 = .ok (.aload_n 0, 1) := by decide +kernel
theorem dX4_readClause_71 : decode cX4_readClause 71 = .ok (.bipush 59, 2) := by decide +kernel
theorem dX4_readClause_73 : decode cX4_readClause 73 = .ok (.invokevirtual 63, 3) := by decide +kernel
theorem dX4_readClause_76 : decode cX4_readClause 76 = .ok (.ireturn, 1) := by decide +kernel
set_option maxRecDepth 20000 in
theorem ggX4_readWord_X4_isWord : GoodIn wsX4_readWord wsX4_isWord := goodIn_r _ [10, 3, 11, 12, 13, 14, 15, 16, 17, 18, 19, 20, 21, 22, 23, 24, 25, 26, 27, 28, 29, 30, 31, 32, 33, 34, 35, 36, 37, 38, 39, 40, 41, 42, 43, 44, 45, 46, 47, 48, 49, 50, 51, 52, 53, 54, 55, 56, 57, 58, 59, 60, 61, 62, 63, 64, 65, 66] (by decide +kernel) (by decide +kernel)
set_option maxRecDepth 20000 in
theorem gX4_readWord_X4_isWord : GoodIn wsX4_readWord (wsV RX4 85 RX4 yX4_isWord wsX4_isWord) := goodIn_app (goodIn_of _ (by decide +kernel)) ggX4_readWord_X4_isWord
theorem dX4_readWord_0 : decode cX4_readWord 0 = .ok (.aload_n 0, 1) := by decide +kernel
theorem dX4_readWord_1 : decode cX4_readWord 1 = .ok (.getfield 34, 3) := by decide +kernel
theorem dX4_readWord_4 : decode cX4_readWord 4 = .ok (.istore_n 1, 1) := by decide +kernel
theorem dX4_readWord_5 : decode cX4_readWord 5 = .ok (.aload_n 0, 1) := by decide +kernel
theorem dX4_readWord_6 : decode cX4_readWord 6 = .ok (.getfield 34, 3) := by decide +kernel
theorem dX4_readWord_9 : decode cX4_readWord 9 = .ok (.aload_n 0, 1) := by decide +kernel
theorem dX4_readWord_10 : decode cX4_readWord 10 = .ok (.getfield 31, 3) := by decide +kernel
theorem dX4_readWord_13 : decode cX4_readWord 13 = .ok (.if_icmp .ge 44, 3) := by decide +kernel
theorem dX4_readWord_16 : decode cX4_readWord 16 = .ok (.aload_n 0, 1) := by decide +kernel
theorem dX4_readWord_17 : decode cX4_readWord 17 = .ok (.getfield 15, 3) := by decide +kernel
theorem dX4_readWord_20 : decode cX4_readWord 20 = .ok (.aload_n 0, 1) := by decide +kernel
theorem dX4_readWord_21 : decode cX4_readWord 21 = .ok (.getfield 34, 3) := by decide +kernel
theorem dX4_readWord_24 : decode cX4_readWord 24 = .ok (.iaload, 1) := by decide +kernel
theorem dX4_readWord_25 : decode cX4_readWord 25 = .ok (.bipush 97, 2) := by decide +kernel
theorem dX4_readWord_27 : decode cX4_readWord 27 = .ok (.if_icmp .lt 30, 3) := by decide +kernel
theorem dX4_readWord_30 : decode cX4_readWord 30 = .ok (.aload_n 0, 1) := by decide +kernel
theorem dX4_readWord_31 : decode cX4_readWord 31 = .ok (.getfield 15, 3) := by decide +kernel
theorem dX4_readWord_34 : decode cX4_readWord 34 = .ok (.aload_n 0, 1) := by decide +kernel
theorem dX4_readWord_35 : decode cX4_readWord 35 = .ok (.getfield 34, 3) := by decide +kernel
theorem dX4_readWord_38 : decode cX4_readWord 38 = .ok (.iaload, 1) := by decide +kernel
theorem dX4_readWord_39 : decode cX4_readWord 39 = .ok (.bipush 122, 2) := by decide +kernel
theorem dX4_readWord_41 : decode cX4_readWord 41 = .ok (.if_icmp .gt 16, 3) := by decide +kernel
theorem dX4_readWord_44 : decode cX4_readWord 44 = .ok (.aload_n 0, 1) := by decide +kernel
theorem dX4_readWord_45 : decode cX4_readWord 45 = .ok (.dup, 1) := by decide +kernel
theorem dX4_readWord_46 : decode cX4_readWord 46 = .ok (.getfield 34, 3) := by decide +kernel
theorem dX4_readWord_49 : decode cX4_readWord 49 = .ok (.iconst 1, 1) := by decide +kernel
theorem dX4_readWord_50 : decode cX4_readWord 50 = .ok (.iadd, 1) := by decide +kernel
theorem dX4_readWord_51 : decode cX4_readWord 51 = .ok (.putfield 34, 3) := by decide +kernel
theorem dX4_readWord_54 : decode cX4_readWord 54 = .ok (.goto (-49), 3) := by decide +kernel
theorem dX4_readWord_57 : decode cX4_readWord 57 = .ok (.getstatic 77, 3) := by decide +kernel
theorem dX4_readWord_60 : decode cX4_readWord 60 = .ok (.astore_n 2, 1) := by decide +kernel
theorem dX4_readWord_61 : decode cX4_readWord 61 = .ok (.aload_n 2, 1) := by decide +kernel
theorem dX4_readWord_62 : decode cX4_readWord 62 = .ok (.arraylength, 1) := by decide +kernel
theorem dX4_readWord_63 : decode cX4_readWord 63 = .ok (.istore_n 3, 1) := by decide +kernel
theorem dX4_readWord_64 : decode cX4_readWord 64 = .ok (.iconst 0, 1) := by decide +kernel
theorem dX4_readWord_65 : decode cX4_readWord 65 = .ok (.istore 4, 2) := by decide +kernel
theorem dX4_readWord_67 : decode cX4_readWord 67 = .ok (.iload 4, 2) := by decide +kernel
theorem dX4_readWord_69 : decode cX4_readWord 69 = .ok (.iload_n 3, 1) := by decide +kernel
theorem dX4_readWord_70 : decode cX4_readWord 70 = .ok (.if_icmp .ge 35, 3) := by decide +kernel
theorem dX4_readWord_73 : decode cX4_readWord 73 = .ok (.aload_n 2, 1) := by decide +kernel
theorem dX4_readWord_74 : decode cX4_readWord 74 = .ok (.iload 4, 2) := by decide +kernel
theorem dX4_readWord_76 : decode cX4_readWord 76 = .ok (.aaload, 1) := by decide +kernel
theorem dX4_readWord_77 : decode cX4_readWord 77 = .ok (.astore 5, 2) := by decide +kernel
theorem dX4_readWord_79 : decode cX4_readWord 79 = .ok (.aload_n 0, 1) := by decide +kernel
theorem dX4_readWord_80 : decode cX4_readWord 80 = .ok (.aload 5, 2) := by decide +kernel
theorem dX4_readWord_82 : decode cX4_readWord 82 = .ok (.getfield 81, 3) := by decide +kernel
theorem dX4_readWord_85 : decode cX4_readWord 85 = .ok (.iload_n 1, 1) := by decide +kernel
theorem dX4_readWord_86 : decode cX4_readWord 86 = .ok (.aload_n 0, 1) := by decide +kernel
theorem dX4_readWord_87 : decode cX4_readWord 87 = .ok (.getfield 34, 3) := by decide +kernel
theorem dX4_readWord_90 : decode cX4_readWord 90 = .ok (.invokevirtual 85, 3) := by decide +kernel
theorem dX4_readWord_93 : decode cX4_readWord 93 = .ok (.ifCond .eq 6, 3) := by decide +kernel
theorem dX4_readWord_96 : decode cX4_readWord 96 = .ok (.aload 5, 2) := by decide +kernel
theorem dX4_readWord_98 : decode cX4_readWord 98 = .ok (.areturn, 1) := by decide +kernel
theorem dX4_readWord_99 : decode cX4_readWord 99 = .ok (.iinc 4 1, 3) := by decide +kernel
theorem dX4_readWord_102 : decode cX4_readWord 102 = .ok (.goto (-35), 3) := by decide +kernel
theorem dX4_readWord_105 : decode cX4_readWord 105 = .ok (.aconst_null, 1) := by decide +kernel
theorem dX4_readWord_106 : decode cX4_readWord 106 = .ok (.areturn, 1) := by decide +kernel
set_option maxRecDepth 20000 in
theorem ggX4_isWord_J0_length_8abf5 : GoodIn wsX4_isWord wsJ0_length_8abf5 := goodIn_r _ [6, 7, 8, 9, 10, 5, 11, 12, 13] (by decide +kernel) (by decide +kernel)
set_option maxRecDepth 20000 in
theorem gX4_isWord_J0_length_8abf5 : GoodIn wsX4_isWord (wsV RX4 89 RJ0 yJ0_length_8abf5 wsJ0_length_8abf5) := goodIn_app (goodIn_of _ (by decide +kernel)) ggX4_isWord_J0_length_8abf5
set_option maxRecDepth 20000 in
theorem ggX4_isWord_J0_charAt_5068e : GoodIn wsX4_isWord wsJ0_charAt_5068e := goodIn_r _ [17, 7, 18, 19, 20, 5, 21, 12, 13, 22, 23, 24, 25, 26, 27, 28, 29, 30, 31, 32, 33, 34, 35, 36, 37, 38, 39, 40, 41, 42, 43, 44, 45, 46, 47, 48, 49, 50] (by decide +kernel) (by decide +kernel)
set_option maxRecDepth 20000 in
theorem gX4_isWord_J0_charAt_5068e : GoodIn wsX4_isWord (wsV RX4 94 RJ0 yJ0_charAt_5068e wsJ0_charAt_5068e) := goodIn_app (goodIn_of _ (by decide +kernel)) ggX4_isWord_J0_charAt_5068e
theorem dX4_isWord_0 : decode cX4_isWord 0 = .ok (.aload_n 1, 1) := by decide +kernel
theorem dX4_isWord_1 : decode cX4_isWord 1 = .ok (.invokevirtual 89, 3) := by decide +kernel
theorem dX4_isWord_4 : decode cX4_isWord 4 = .ok (.iload_n 3, 1) := by decide +kernel
theorem dX4_isWord_5 : decode cX4_isWord 5 = .ok (.iload_n 2, 1) := by decide +kernel
theorem dX4_isWord_6 : decode cX4_isWord 6 = .ok (.isub, 1) := by decide +kernel
theorem dX4_isWord_7 : decode cX4_isWord 7 = .ok (.if_icmp .eq 5, 3) := by decide +kernel
theorem dX4_isWord_10 : decode cX4_isWord 10 = .ok (.iconst 0, 1) := by decide +kernel
theorem dX4_isWord_11 : decode cX4_isWord 11 = .ok (.ireturn, 1) := by decide +kernel
theorem dX4_isWord_12 : decode cX4_isWord 12 = .ok (.iconst 0, 1) := by decide +kernel
theorem dX4_isWord_13 : decode cX4_isWord 13 = .ok (.istore 4, 2) := by decide +kernel
theorem dX4_isWord_15 : decode cX4_isWord 15 = .ok (.iload 4, 2) := by decide +kernel
theorem dX4_isWord_17 : decode cX4_isWord 17 = .ok (.aload_n 1, 1) := by decide +kernel
theorem dX4_isWord_18 : decode cX4_isWord 18 = .ok (.invokevirtual 89, 3) := by decide +kernel
theorem dX4_isWord_21 : decode cX4_isWord 21 = .ok (.if_icmp .ge 29, 3) := by decide +kernel
theorem dX4_isWord_24 : decode cX4_isWord 24 = .ok (.aload_n 1, 1) := by decide +kernel
theorem dX4_isWord_25 : decode cX4_isWord 25 = .ok (.iload 4, 2) := by decide +kernel
theorem dX4_isWord_27 : decode cX4_isWord 27 = .ok (.invokevirtual 94, 3) := by decide +kernel
theorem dX4_isWord_30 : decode cX4_isWord 30 = .ok (.aload_n 0, 1) := by decide +kernel
theorem dX4_isWord_31 : decode cX4_isWord 31 = .ok (.getfield 15, 3) := by decide +kernel
theorem dX4_isWord_34 : decode cX4_isWord 34 = .ok (.iload_n 2, 1) := by decide +kernel
theorem dX4_isWord_35 : decode cX4_isWord 35 = .ok (.iload 4, 2) := by decide +kernel
theorem dX4_isWord_37 : decode cX4_isWord 37 = .ok (.iadd, 1) := by decide +kernel
theorem dX4_isWord_38 : decode cX4_isWord 38 = .ok (.iaload, 1) := by decide +kernel
theorem dX4_isWord_39 : decode cX4_isWord 39 = .ok (.if_icmp .eq 5, 3) := by decide +kernel
theorem dX4_isWord_42 : decode cX4_isWord 42 = .ok (.iconst 0, 1) := by decide +kernel
theorem dX4_isWord_43 : decode cX4_isWord 43 = .ok (.ireturn, 1) := by decide +kernel
theorem dX4_isWord_44 : decode cX4_isWord 44 = .ok (.iinc 4 1, 3) := by decide +kernel
theorem dX4_isWord_47 : decode cX4_isWord 47 = .ok (.goto (-32), 3) := by decide +kernel
theorem dX4_isWord_50 : decode cX4_isWord 50 = .ok (.iconst 1, 1) := by decide +kernel
theorem dX4_isWord_51 : decode cX4_isWord 51 = .ok (.ireturn, 1) := by decide +kernel
set_option maxRecDepth 20000 in
theorem ggX4_readPart_X4_takes : GoodIn wsX4_readPart wsX4_takes := goodIn_r _ [6, 7, 8, 9, 10, 11, 12, 5, 13, 31, 32, 33, 34, 35, 36, 37] (by decide +kernel) (by decide +kernel)
set_option maxRecDepth 20000 in
theorem gX4_readPart_X4_takes : GoodIn wsX4_readPart (wsV RX4 98 RX4 yX4_takes wsX4_takes) := goodIn_app (goodIn_of _ (by decide +kernel)) ggX4_readPart_X4_takes
set_option maxRecDepth 20000 in
theorem ggX4_readPart_X4_readRange : GoodIn wsX4_readPart wsX4_readRange := goodIn_r _ [17, 7, 1, 18, 19, 20, 5, 21, 9, 10, 11, 12, 13, 8, 22, 23, 24, 25, 26, 27, 28, 29, 30, 2, 3, 4, 6, 31, 32, 33, 34, 35, 36, 37] (by decide +kernel) (by decide +kernel)
set_option maxRecDepth 20000 in
theorem gX4_readPart_X4_readRange : GoodIn wsX4_readPart (wsV RX4 104 RX4 yX4_readRange wsX4_readRange) := goodIn_app (goodIn_of _ (by decide +kernel)) ggX4_readPart_X4_readRange
theorem dX4_readPart_0 : decode cX4_readPart 0 = .ok (.aload_n 0, 1) := by decide +kernel
theorem dX4_readPart_1 : decode cX4_readPart 1 = .ok (.bipush 63, 2) := by decide +kernel
theorem dX4_readPart_3 : decode cX4_readPart 3 = .ok (.invokevirtual 98, 3) := by decide +kernel
theorem dX4_readPart_6 : decode cX4_readPart 6 = .ok (.ifCond .eq 10, 3) := by decide +kernel
theorem dX4_readPart_9 : decode cX4_readPart 9 = .ok (.aload_n 0, 1) := by decide +kernel
theorem dX4_readPart_10 : decode cX4_readPart 10 = .ok (.iconst (-1), 1) := by decide +kernel
theorem dX4_readPart_11 : decode cX4_readPart 11 = .ok (.putfield 101, 3) := by decide +kernel
theorem dX4_readPart_14 : decode cX4_readPart 14 = .ok (.iconst 1, 1) := by decide +kernel
theorem dX4_readPart_15 : decode cX4_readPart 15 = .ok (.ireturn, 1) := by decide +kernel
theorem dX4_readPart_16 : decode cX4_readPart 16 = .ok (.aload_n 0, 1) := by decide +kernel
theorem dX4_readPart_17 : decode cX4_readPart 17 = .ok (.iconst 0, 1) := by decide +kernel
theorem dX4_readPart_18 : decode cX4_readPart 18 = .ok (.putfield 101, 3) := by decide +kernel
theorem dX4_readPart_21 : decode cX4_readPart 21 = .ok (.iconst 0, 1) := by decide +kernel
theorem dX4_readPart_22 : decode cX4_readPart 22 = .ok (.istore_n 1, 1) := by decide +kernel
theorem dX4_readPart_23 : decode cX4_readPart 23 = .ok (.iload_n 1, 1) := by decide +kernel
theorem dX4_readPart_24 : decode cX4_readPart 24 = .ok (.sipush 200, 3) := by decide +kernel
theorem dX4_readPart_27 : decode cX4_readPart 27 = .ok (.if_icmp .ge 29, 3) := by decide +kernel
theorem dX4_readPart_30 : decode cX4_readPart 30 = .ok (.aload_n 0, 1) := by decide +kernel
theorem dX4_readPart_31 : decode cX4_readPart 31 = .ok (.invokevirtual 104, 3) := by decide +kernel
theorem dX4_readPart_34 : decode cX4_readPart 34 = .ok (.ifCond .ne 5, 3) := by decide +kernel
theorem dX4_readPart_37 : decode cX4_readPart 37 = .ok (.iconst 0, 1) := by decide +kernel
theorem dX4_readPart_38 : decode cX4_readPart 38 = .ok (.ireturn, 1) := by decide +kernel
theorem dX4_readPart_39 : decode cX4_readPart 39 = .ok (.aload_n 0, 1) := by decide +kernel
theorem dX4_readPart_40 : decode cX4_readPart 40 = .ok (.bipush 47, 2) := by decide +kernel
theorem dX4_readPart_42 : decode cX4_readPart 42 = .ok (.invokevirtual 98, 3) := by decide +kernel
theorem dX4_readPart_45 : decode cX4_readPart 45 = .ok (.ifCond .ne 5, 3) := by decide +kernel
theorem dX4_readPart_48 : decode cX4_readPart 48 = .ok (.iconst 1, 1) := by decide +kernel
theorem dX4_readPart_49 : decode cX4_readPart 49 = .ok (.ireturn, 1) := by decide +kernel
theorem dX4_readPart_50 : decode cX4_readPart 50 = .ok (.iinc 1 1, 3) := by decide +kernel
theorem dX4_readPart_53 : decode cX4_readPart 53 = .ok (.goto (-30), 3) := by decide +kernel
theorem dX4_readPart_56 : decode cX4_readPart 56 = .ok (.iconst 1, 1) := by decide +kernel
theorem dX4_readPart_57 : decode cX4_readPart 57 = .ok (.ireturn, 1) := by decide +kernel
set_option maxRecDepth 20000 in
theorem ggX4_readRange_X4_readNumber : GoodIn wsX4_readRange wsX4_readNumber := goodIn_r _ [7, 1, 8, 9, 10, 11, 6, 12, 13, 14, 15, 16, 17, 18, 19, 20, 21, 22, 27, 28, 29, 30, 31, 32, 33] (by decide +kernel) (by decide +kernel)
set_option maxRecDepth 20000 in
theorem gX4_readRange_X4_readNumber : GoodIn wsX4_readRange (wsV RX4 107 RX4 yX4_readNumber wsX4_readNumber) := goodIn_app (goodIn_of _ (by decide +kernel)) ggX4_readRange_X4_readNumber
set_option maxRecDepth 20000 in
theorem ggX4_readRange_X4_takes : GoodIn wsX4_readRange wsX4_takes := goodIn_r _ [26, 1, 13, 8, 9, 10, 11, 6, 12, 27, 28, 29, 30, 31, 32, 33] (by decide +kernel) (by decide +kernel)
set_option maxRecDepth 20000 in
theorem gX4_readRange_X4_takes : GoodIn wsX4_readRange (wsV RX4 98 RX4 yX4_takes wsX4_takes) := goodIn_app (goodIn_of _ (by decide +kernel)) ggX4_readRange_X4_takes
set_option maxRecDepth 20000 in
theorem ggX4_readRange_X4_skipBlanks : GoodIn wsX4_readRange wsX4_skipBlanks := goodIn_r _ [12, 1, 13, 8, 27, 28, 29, 30, 31, 32, 33] (by decide +kernel) (by decide +kernel)
set_option maxRecDepth 20000 in
theorem gX4_readRange_X4_skipBlanks : GoodIn wsX4_readRange (wsV RX4 43 RX4 yX4_skipBlanks wsX4_skipBlanks) := goodIn_app (goodIn_of _ (by decide +kernel)) ggX4_readRange_X4_skipBlanks
set_option maxRecDepth 20000 in
theorem ggX4_readRange_X4_refuse : GoodIn wsX4_readRange wsX4_refuse := goodIn_r _ [21, 22, 27, 28, 29, 30, 31, 32, 33] (by decide +kernel) (by decide +kernel)
set_option maxRecDepth 20000 in
theorem gX4_readRange_X4_refuse : GoodIn wsX4_readRange (wsV RX4 50 RX4 yX4_refuse wsX4_refuse) := goodIn_app (goodIn_of _ (by decide +kernel)) ggX4_readRange_X4_refuse
theorem dX4_readRange_0 : decode cX4_readRange 0 = .ok (.aload_n 0, 1) := by decide +kernel
theorem dX4_readRange_1 : decode cX4_readRange 1 = .ok (.invokevirtual 107, 3) := by decide +kernel
theorem dX4_readRange_4 : decode cX4_readRange 4 = .ok (.istore_n 1, 1) := by decide +kernel
theorem dX4_readRange_5 : decode cX4_readRange 5 = .ok (.iload_n 1, 1) := by decide +kernel
theorem dX4_readRange_6 : decode cX4_readRange 6 = .ok (.ifCond .ge 5, 3) := by decide +kernel
theorem dX4_readRange_9 : decode cX4_readRange 9 = .ok (.iconst 0, 1) := by decide +kernel
theorem dX4_readRange_10 : decode cX4_readRange 10 = .ok (.ireturn, 1) := by decide +kernel
theorem dX4_readRange_11 : decode cX4_readRange 11 = .ok (.iload_n 1, 1) := by decide +kernel
theorem dX4_readRange_12 : decode cX4_readRange 12 = .ok (.istore_n 2, 1) := by decide +kernel
theorem dX4_readRange_13 : decode cX4_readRange 13 = .ok (.aload_n 0, 1) := by decide +kernel
theorem dX4_readRange_14 : decode cX4_readRange 14 = .ok (.bipush 45, 2) := by decide +kernel
theorem dX4_readRange_16 : decode cX4_readRange 16 = .ok (.invokevirtual 98, 3) := by decide +kernel
theorem dX4_readRange_19 : decode cX4_readRange 19 = .ok (.ifCond .eq 34, 3) := by decide +kernel
theorem dX4_readRange_22 : decode cX4_readRange 22 = .ok (.aload_n 0, 1) := by decide +kernel
theorem dX4_readRange_23 : decode cX4_readRange 23 = .ok (.invokevirtual 43, 3) := by decide +kernel
theorem dX4_readRange_26 : decode cX4_readRange 26 = .ok (.aload_n 0, 1) := by decide +kernel
theorem dX4_readRange_27 : decode cX4_readRange 27 = .ok (.getfield 34, 3) := by decide +kernel
theorem dX4_readRange_30 : decode cX4_readRange 30 = .ok (.istore_n 3, 1) := by decide +kernel
theorem dX4_readRange_31 : decode cX4_readRange 31 = .ok (.aload_n 0, 1) := by decide +kernel
theorem dX4_readRange_32 : decode cX4_readRange 32 = .ok (.invokevirtual 107, 3) := by decide +kernel
theorem dX4_readRange_35 : decode cX4_readRange 35 = .ok (.istore_n 2, 1) := by decide +kernel
theorem dX4_readRange_36 : decode cX4_readRange 36 = .ok (.iload_n 2, 1) := by decide +kernel
theorem dX4_readRange_37 : decode cX4_readRange 37 = .ok (.ifCond .ge 5, 3) := by decide +kernel
theorem dX4_readRange_40 : decode cX4_readRange 40 = .ok (.iconst 0, 1) := by decide +kernel
theorem dX4_readRange_41 : decode cX4_readRange 41 = .ok (.ireturn, 1) := by decide +kernel
theorem dX4_readRange_42 : decode cX4_readRange 42 = .ok (.iload_n 2, 1) := by decide +kernel
theorem dX4_readRange_43 : decode cX4_readRange 43 = .ok (.iload_n 1, 1) := by decide +kernel
theorem dX4_readRange_44 : decode cX4_readRange 44 = .ok (.if_icmp .ge 9, 3) := by decide +kernel
theorem dX4_readRange_47 : decode cX4_readRange 47 = .ok (.aload_n 0, 1) := by decide +kernel
theorem dX4_readRange_48 : decode cX4_readRange 48 = .ok (.iload_n 3, 1) := by decide +kernel
theorem dX4_readRange_49 : decode cX4_readRange 49 = .ok (.invokevirtual 50, 3) := by decide +kernel
theorem dX4_readRange_52 : decode cX4_readRange 52 = .ok (.ireturn, 1) := by decide +kernel
theorem dX4_readRange_53 : decode cX4_readRange 53 = .ok (.iload_n 1, 1) := by decide +kernel
theorem dX4_readRange_54 : decode cX4_readRange 54 = .ok (.istore_n 3, 1) := by decide +kernel
theorem dX4_readRange_55 : decode cX4_readRange 55 = .ok (.iload_n 3, 1) := by decide +kernel
theorem dX4_readRange_56 : decode cX4_readRange 56 = .ok (.iload_n 2, 1) := by decide +kernel
theorem dX4_readRange_57 : decode cX4_readRange 57 = .ok (.if_icmp .gt 27, 3) := by decide +kernel
theorem dX4_readRange_60 : decode cX4_readRange 60 = .ok (.iload_n 3, 1) := by decide +kernel
theorem dX4_readRange_61 : decode cX4_readRange 61 = .ok (.bipush 31, 2) := by decide +kernel
theorem dX4_readRange_63 : decode cX4_readRange 63 = .ok (.if_icmp .ge 21, 3) := by decide +kernel
theorem dX4_readRange_66 : decode cX4_readRange 66 = .ok (.aload_n 0, 1) := by decide +kernel
theorem dX4_readRange_67 : decode cX4_readRange 67 = .ok (.dup, 1) := by decide +kernel
theorem dX4_readRange_68 : decode cX4_readRange 68 = .ok (.getfield 101, 3) := by decide +kernel
theorem dX4_readRange_71 : decode cX4_readRange 71 = .ok (.iconst 1, 1) := by decide +kernel
theorem dX4_readRange_72 : decode cX4_readRange 72 = .ok (.iload_n 3, 1) := by decide +kernel
theorem dX4_readRange_73 : decode cX4_readRange 73 = .ok (.ishl, 1) := by decide +kernel
theorem dX4_readRange_74 : decode cX4_readRange 74 = .ok (.ior, 1) := by decide +kernel
theorem dX4_readRange_75 : decode cX4_readRange 75 = .ok (.putfield 101, 3) := by decide +kernel
theorem dX4_readRange_78 : decode cX4_readRange 78 = .ok (.iinc 3 1, 3) := by decide +kernel
theorem dX4_readRange_81 : decode cX4_readRange 81 = .ok (.goto (-26), 3) := by decide +kernel
theorem dX4_readRange_84 : decode cX4_readRange 84 = .ok (.iconst 1, 1) := by decide +kernel
theorem dX4_readRange_85 : decode cX4_readRange 85 = .ok (.ireturn, 1) := by decide +kernel
set_option maxRecDepth 20000 in
theorem ggX4_readNumber_X4_skipBlanks : GoodIn wsX4_readNumber wsX4_skipBlanks := goodIn_r _ [7, 1, 8, 2, 18, 19, 20, 21, 22, 23, 24] (by decide +kernel) (by decide +kernel)
set_option maxRecDepth 20000 in
theorem gX4_readNumber_X4_skipBlanks : GoodIn wsX4_readNumber (wsV RX4 43 RX4 yX4_skipBlanks wsX4_skipBlanks) := goodIn_app (goodIn_of _ (by decide +kernel)) ggX4_readNumber_X4_skipBlanks
set_option maxRecDepth 20000 in
theorem ggX4_readNumber_X4_isDigitAt : GoodIn wsX4_readNumber wsX4_isDigitAt := goodIn_r _ [12, 8, 2, 18, 19, 20, 21, 22, 23, 24] (by decide +kernel) (by decide +kernel)
set_option maxRecDepth 20000 in
theorem gX4_readNumber_X4_isDigitAt : GoodIn wsX4_readNumber (wsV RX4 110 RX4 yX4_isDigitAt wsX4_isDigitAt) := goodIn_app (goodIn_of _ (by decide +kernel)) ggX4_readNumber_X4_isDigitAt
set_option maxRecDepth 20000 in
theorem ggX4_readNumber_X4_refuse : GoodIn wsX4_readNumber wsX4_refuse := goodIn_r _ [16, 17, 18, 19, 20, 21, 22, 23, 24] (by decide +kernel) (by decide +kernel)
set_option maxRecDepth 20000 in
theorem gX4_readNumber_X4_refuse : GoodIn wsX4_readNumber (wsV RX4 50 RX4 yX4_refuse wsX4_refuse) := goodIn_app (goodIn_of _ (by decide +kernel)) ggX4_readNumber_X4_refuse
theorem dX4_readNumber_0 : decode cX4_readNumber 0 = .ok (.aload_n 0, 1) := by decide +kernel
theorem dX4_readNumber_1 : decode cX4_readNumber 1 = .ok (.invokevirtual 43, 3) := by decide +kernel
theorem dX4_readNumber_4 : decode cX4_readNumber 4 = .ok (.aload_n 0, 1) := by decide +kernel
theorem dX4_readNumber_5 : decode cX4_readNumber 5 = .ok (.getfield 34, 3) := by decide +kernel
theorem dX4_readNumber_8 : decode cX4_readNumber 8 = .ok (.istore_n 1, 1) := by decide +kernel
theorem dX4_readNumber_9 : decode cX4_readNumber 9 = .ok (.iconst 0, 1) := by decide +kernel
theorem dX4_readNumber_10 : decode cX4_readNumber 10 = .ok (.istore_n 2, 1) := by decide +kernel
theorem dX4_readNumber_11 : decode cX4_readNumber 11 = .ok (.aload_n 0, 1) := by decide +kernel
theorem dX4_readNumber_12 : decode cX4_readNumber 12 = .ok (.aload_n 0, 1) := by decide +kernel
theorem dX4_readNumber_13 : decode cX4_readNumber 13 = .ok (.getfield 34, 3) := by decide +kernel
theorem dX4_readNumber_16 : decode cX4_readNumber 16 = .ok (.invokevirtual 110, 3) := by decide +kernel
theorem dX4_readNumber_19 : decode cX4_readNumber 19 = .ok (.ifCond .eq 44, 3) := by decide +kernel
theorem dX4_readNumber_22 : decode cX4_readNumber 22 = .ok (.aload_n 0, 1) := by decide +kernel
theorem dX4_readNumber_23 : decode cX4_readNumber 23 = .ok (.getfield 34, 3) := by decide +kernel
theorem dX4_readNumber_26 : decode cX4_readNumber 26 = .ok (.iload_n 1, 1) := by decide +kernel
theorem dX4_readNumber_27 : decode cX4_readNumber 27 = .ok (.isub, 1) := by decide +kernel
theorem dX4_readNumber_28 : decode cX4_readNumber 28 = .ok (.iconst 2, 1) := by decide +kernel
theorem dX4_readNumber_29 : decode cX4_readNumber 29 = .ok (.if_icmp .ge 34, 3) := by decide +kernel
theorem dX4_readNumber_32 : decode cX4_readNumber 32 = .ok (.iload_n 2, 1) := by decide +kernel
theorem dX4_readNumber_33 : decode cX4_readNumber 33 = .ok (.bipush 10, 2) := by decide +kernel
theorem dX4_readNumber_35 : decode cX4_readNumber 35 = .ok (.imul, 1) := by decide +kernel
theorem dX4_readNumber_36 : decode cX4_readNumber 36 = .ok (.aload_n 0, 1) := by decide +kernel
theorem dX4_readNumber_37 : decode cX4_readNumber 37 = .ok (.getfield 15, 3) := by decide +kernel
theorem dX4_readNumber_40 : decode cX4_readNumber 40 = .ok (.aload_n 0, 1) := by decide +kernel
theorem dX4_readNumber_41 : decode cX4_readNumber 41 = .ok (.getfield 34, 3) := by decide +kernel
theorem dX4_readNumber_44 : decode cX4_readNumber 44 = .ok (.iaload, 1) := by decide +kernel
theorem dX4_readNumber_45 : decode cX4_readNumber 45 = .ok (.iadd, 1) := by decide +kernel
theorem dX4_readNumber_46 : decode cX4_readNumber 46 = .ok (.bipush 48, 2) := by decide +kernel
theorem dX4_readNumber_48 : decode cX4_readNumber 48 = .ok (.isub, 1) := by decide +kernel
theorem dX4_readNumber_49 : decode cX4_readNumber 49 = .ok (.istore_n 2, 1) := by decide +kernel
theorem dX4_readNumber_50 : decode cX4_readNumber 50 = .ok (.aload_n 0, 1) := by decide +kernel
theorem dX4_readNumber_51 : decode cX4_readNumber 51 = .ok (.dup, 1) := by decide +kernel
theorem dX4_readNumber_52 : decode cX4_readNumber 52 = .ok (.getfield 34, 3) := by decide +kernel
theorem dX4_readNumber_55 : decode cX4_readNumber 55 = .ok (.iconst 1, 1) := by decide +kernel
theorem dX4_readNumber_56 : decode cX4_readNumber 56 = .ok (.iadd, 1) := by decide +kernel
theorem dX4_readNumber_57 : decode cX4_readNumber 57 = .ok (.putfield 34, 3) := by decide +kernel
theorem dX4_readNumber_60 : decode cX4_readNumber 60 = .ok (.goto (-49), 3) := by decide +kernel
theorem dX4_readNumber_63 : decode cX4_readNumber 63 = .ok (.aload_n 0, 1) := by decide +kernel
theorem dX4_readNumber_64 : decode cX4_readNumber 64 = .ok (.getfield 34, 3) := by decide +kernel
theorem dX4_readNumber_67 : decode cX4_readNumber 67 = .ok (.iload_n 1, 1) := by decide +kernel
theorem dX4_readNumber_68 : decode cX4_readNumber 68 = .ok (.if_icmp .eq 14, 3) := by decide +kernel
theorem dX4_readNumber_71 : decode cX4_readNumber 71 = .ok (.aload_n 0, 1) := by decide +kernel
theorem dX4_readNumber_72 : decode cX4_readNumber 72 = .ok (.aload_n 0, 1) := by decide +kernel
theorem dX4_readNumber_73 : decode cX4_readNumber 73 = .ok (.getfield 34, 3) := by decide +kernel
theorem dX4_readNumber_76 : decode cX4_readNumber 76 = .ok (.invokevirtual 110, 3) := by decide +kernel
theorem dX4_readNumber_79 : decode cX4_readNumber 79 = .ok (.ifCond .eq 14, 3) := by decide +kernel
theorem dX4_readNumber_82 : decode cX4_readNumber 82 = .ok (.aload_n 0, 1) := by decide +kernel
theorem dX4_readNumber_83 : decode cX4_readNumber 83 = .ok (.aload_n 0, 1) := by decide +kernel
theorem dX4_readNumber_84 : decode cX4_readNumber 84 = .ok (.getfield 34, 3) := by decide +kernel
theorem dX4_readNumber_87 : decode cX4_readNumber 87 = .ok (.invokevirtual 50, 3) := by decide +kernel
theorem dX4_readNumber_90 : decode cX4_readNumber 90 = .ok (.pop, 1) := by decide +kernel
theorem dX4_readNumber_91 : decode cX4_readNumber 91 = .ok (.iconst (-1), 1) := by decide +kernel
theorem dX4_readNumber_92 : decode cX4_readNumber 92 = .ok (.ireturn, 1) := by decide +kernel
theorem dX4_readNumber_93 : decode cX4_readNumber 93 = .ok (.iload_n 2, 1) := by decide +kernel
theorem dX4_readNumber_94 : decode cX4_readNumber 94 = .ok (.ireturn, 1) := by decide +kernel
theorem dX4_isDigitAt_0 : decode cX4_isDigitAt 0 = .ok (.iload_n 1, 1) := by decide +kernel
theorem dX4_isDigitAt_1 : decode cX4_isDigitAt 1 = .ok (.aload_n 0, 1) := by decide +kernel
theorem dX4_isDigitAt_2 : decode cX4_isDigitAt 2 = .ok (.getfield 31, 3) := by decide +kernel
theorem dX4_isDigitAt_5 : decode cX4_isDigitAt 5 = .ok (.if_icmp .ge 29, 3) := by decide +kernel
theorem dX4_isDigitAt_8 : decode cX4_isDigitAt 8 = .ok (.aload_n 0, 1) := by decide +kernel
theorem dX4_isDigitAt_9 : decode cX4_isDigitAt 9 = .ok (.getfield 15, 3) := by decide +kernel
theorem dX4_isDigitAt_12 : decode cX4_isDigitAt 12 = .ok (.iload_n 1, 1) := by decide +kernel
theorem dX4_isDigitAt_13 : decode cX4_isDigitAt 13 = .ok (.iaload, 1) := by decide +kernel
theorem dX4_isDigitAt_14 : decode cX4_isDigitAt 14 = .ok (.bipush 48, 2) := by decide +kernel
theorem dX4_isDigitAt_16 : decode cX4_isDigitAt 16 = .ok (.if_icmp .lt 18, 3) := by decide +kernel
theorem dX4_isDigitAt_19 : decode cX4_isDigitAt 19 = .ok (.aload_n 0, 1) := by decide +kernel
theorem dX4_isDigitAt_20 : decode cX4_isDigitAt 20 = .ok (.getfield 15, 3) := by decide +kernel
theorem dX4_isDigitAt_23 : decode cX4_isDigitAt 23 = .ok (.iload_n 1, 1) := by decide +kernel
theorem dX4_isDigitAt_24 : decode cX4_isDigitAt 24 = .ok (.iaload, 1) := by decide +kernel
theorem dX4_isDigitAt_25 : decode cX4_isDigitAt 25 = .ok (.bipush 57, 2) := by decide +kernel
theorem dX4_isDigitAt_27 : decode cX4_isDigitAt 27 = .ok (.if_icmp .gt 7, 3) := by decide +kernel
theorem dX4_isDigitAt_30 : decode cX4_isDigitAt 30 = .ok (.iconst 1, 1) := by decide +kernel
theorem dX4_isDigitAt_31 : decode cX4_isDigitAt 31 = .ok (.goto 4, 3) := by decide +kernel
theorem dX4_isDigitAt_34 : decode cX4_isDigitAt 34 = .ok (.iconst 0, 1) := by decide +kernel
theorem dX4_isDigitAt_35 : decode cX4_isDigitAt 35 = .ok (.ireturn, 1) := by decide +kernel
theorem dX4_narrow_0 : decode cX4_narrow 0 = .ok (.iload_n 1, 1) := by decide +kernel
theorem dX4_narrow_1 : decode cX4_narrow 1 = .ok (.ifCond .lt 22, 3) := by decide +kernel
theorem dX4_narrow_4 : decode cX4_narrow 4 = .ok (.iload_n 1, 1) := by decide +kernel
theorem dX4_narrow_5 : decode cX4_narrow 5 = .ok (.bipush 11, 2) := by decide +kernel
theorem dX4_narrow_7 : decode cX4_narrow 7 = .ok (.if_icmp .ge 16, 3) := by decide +kernel
theorem dX4_narrow_10 : decode cX4_narrow 10 = .ok (.aload_n 0, 1) := by decide +kernel
theorem dX4_narrow_11 : decode cX4_narrow 11 = .ok (.getfield 9, 3) := by decide +kernel
theorem dX4_narrow_14 : decode cX4_narrow 14 = .ok (.iload_n 1, 1) := by decide +kernel
theorem dX4_narrow_15 : decode cX4_narrow 15 = .ok (.dup2, 1) := by decide +kernel
theorem dX4_narrow_16 : decode cX4_narrow 16 = .ok (.iaload, 1) := by decide +kernel
theorem dX4_narrow_17 : decode cX4_narrow 17 = .ok (.aload_n 0, 1) := by decide +kernel
theorem dX4_narrow_18 : decode cX4_narrow 18 = .ok (.getfield 101, 3) := by decide +kernel
theorem dX4_narrow_21 : decode cX4_narrow 21 = .ok (.iand, 1) := by decide +kernel
theorem dX4_narrow_22 : decode cX4_narrow 22 = .ok (.iastore, 1) := by decide +kernel
theorem dX4_narrow_23 : decode cX4_narrow 23 = .ok (.return_, 1) := by decide +kernel
set_option maxRecDepth 20000 in
theorem ggX4_takes_X4_skipBlanks : GoodIn wsX4_takes wsX4_skipBlanks := goodIn_r _ [8, 1, 2, 3, 9, 10, 11, 12, 13, 14, 15] (by decide +kernel) (by decide +kernel)
set_option maxRecDepth 20000 in
theorem gX4_takes_X4_skipBlanks : GoodIn wsX4_takes (wsV RX4 43 RX4 yX4_skipBlanks wsX4_skipBlanks) := goodIn_app (goodIn_of _ (by decide +kernel)) ggX4_takes_X4_skipBlanks
theorem dX4_takes_0 : decode cX4_takes 0 = .ok (.aload_n 0, 1) := by decide +kernel
theorem dX4_takes_1 : decode cX4_takes 1 = .ok (.invokevirtual 43, 3) := by decide +kernel
theorem dX4_takes_4 : decode cX4_takes 4 = .ok (.aload_n 0, 1) := by decide +kernel
theorem dX4_takes_5 : decode cX4_takes 5 = .ok (.getfield 34, 3) := by decide +kernel
theorem dX4_takes_8 : decode cX4_takes 8 = .ok (.aload_n 0, 1) := by decide +kernel
theorem dX4_takes_9 : decode cX4_takes 9 = .ok (.getfield 31, 3) := by decide +kernel
theorem dX4_takes_12 : decode cX4_takes 12 = .ok (.if_icmp .ge 28, 3) := by decide +kernel
theorem dX4_takes_15 : decode cX4_takes 15 = .ok (.aload_n 0, 1) := by decide +kernel
theorem dX4_takes_16 : decode cX4_takes 16 = .ok (.getfield 15, 3) := by decide +kernel
theorem dX4_takes_19 : decode cX4_takes 19 = .ok (.aload_n 0, 1) := by decide +kernel
theorem dX4_takes_20 : decode cX4_takes 20 = .ok (.getfield 34, 3) := by decide +kernel
theorem dX4_takes_23 : decode cX4_takes 23 = .ok (.iaload, 1) := by decide +kernel
theorem dX4_takes_24 : decode cX4_takes 24 = .ok (.iload_n 1, 1) := by decide +kernel
theorem dX4_takes_25 : decode cX4_takes 25 = .ok (.if_icmp .ne 15, 3) := by decide +kernel
theorem dX4_takes_28 : decode cX4_takes 28 = .ok (.aload_n 0, 1) := by decide +kernel
theorem dX4_takes_29 : decode cX4_takes 29 = .ok (.dup, 1) := by decide +kernel
theorem dX4_takes_30 : decode cX4_takes 30 = .ok (.getfield 34, 3) := by decide +kernel
theorem dX4_takes_33 : decode cX4_takes 33 = .ok (.iconst 1, 1) := by decide +kernel
theorem dX4_takes_34 : decode cX4_takes 34 = .ok (.iadd, 1) := by decide +kernel
theorem dX4_takes_35 : decode cX4_takes 35 = .ok (.putfield 34, 3) := by decide +kernel
theorem dX4_takes_38 : decode cX4_takes 38 = .ok (.iconst 1, 1) := by decide +kernel
theorem dX4_takes_39 : decode cX4_takes 39 = .ok (.ireturn, 1) := by decide +kernel
theorem dX4_takes_40 : decode cX4_takes 40 = .ok (.iconst 0, 1) := by decide +kernel
theorem dX4_takes_41 : decode cX4_takes 41 = .ok (.ireturn, 1) := by decide +kernel
set_option maxRecDepth 20000 in
theorem ggX4_demand_X4_takes : GoodIn wsX4_demand wsX4_takes := goodIn_r _ [6, 1, 7, 8, 9, 10, 11, 5, 12, 18, 19, 20, 21, 22, 23, 24] (by decide +kernel) (by decide +kernel)
set_option maxRecDepth 20000 in
theorem gX4_demand_X4_takes : GoodIn wsX4_demand (wsV RX4 98 RX4 yX4_takes wsX4_takes) := goodIn_app (goodIn_of _ (by decide +kernel)) ggX4_demand_X4_takes
set_option maxRecDepth 20000 in
theorem ggX4_demand_X4_refuse : GoodIn wsX4_demand wsX4_refuse := goodIn_r _ [16, 17, 18, 19, 20, 21, 22, 23, 24] (by decide +kernel) (by decide +kernel)
set_option maxRecDepth 20000 in
theorem gX4_demand_X4_refuse : GoodIn wsX4_demand (wsV RX4 50 RX4 yX4_refuse wsX4_refuse) := goodIn_app (goodIn_of _ (by decide +kernel)) ggX4_demand_X4_refuse
theorem dX4_demand_0 : decode cX4_demand 0 = .ok (.aload_n 0, 1) := by decide +kernel
theorem dX4_demand_1 : decode cX4_demand 1 = .ok (.iload_n 1, 1) := by decide +kernel
theorem dX4_demand_2 : decode cX4_demand 2 = .ok (.invokevirtual 98, 3) := by decide +kernel
theorem dX4_demand_5 : decode cX4_demand 5 = .ok (.ifCond .ne 14, 3) := by decide +kernel
theorem dX4_demand_8 : decode cX4_demand 8 = .ok (.aload_n 0, 1) := by decide +kernel
theorem dX4_demand_9 : decode cX4_demand 9 = .ok (.aload_n 0, 1) := by decide +kernel
theorem dX4_demand_10 : decode cX4_demand 10 = .ok (.getfield 34, 3) := by decide +kernel
theorem dX4_demand_13 : decode cX4_demand 13 = .ok (.invokevirtual 50, 3) := by decide +kernel
theorem dX4_demand_16 : decode cX4_demand 16 = .ok (.ifCond .eq 7, 3) := by decide +kernel
theorem dX4_demand_19 : decode cX4_demand 19 = .ok (.iconst 1, 1) := by decide +kernel
theorem dX4_demand_20 : decode cX4_demand 20 = .ok (.goto 4, 3) := by decide +kernel
theorem dX4_demand_23 : decode cX4_demand 23 = .ok (.iconst 0, 1) := by decide +kernel
theorem dX4_demand_24 : decode cX4_demand 24 = .ok (.ireturn, 1) := by decide +kernel
theorem dX4_refuse_0 : decode cX4_refuse 0 = .ok (.aload_n 0, 1) := by decide +kernel
theorem dX4_refuse_1 : decode cX4_refuse 1 = .ok (.iload_n 1, 1) := by decide +kernel
theorem dX4_refuse_2 : decode cX4_refuse 2 = .ok (.putfield 113, 3) := by decide +kernel
theorem dX4_refuse_5 : decode cX4_refuse 5 = .ok (.iconst 0, 1) := by decide +kernel
theorem dX4_refuse_6 : decode cX4_refuse 6 = .ok (.ireturn, 1) := by decide +kernel
theorem dX4_skipBlanks_0 : decode cX4_skipBlanks 0 = .ok (.aload_n 0, 1) := by decide +kernel
theorem dX4_skipBlanks_1 : decode cX4_skipBlanks 1 = .ok (.getfield 34, 3) := by decide +kernel
theorem dX4_skipBlanks_4 : decode cX4_skipBlanks 4 = .ok (.aload_n 0, 1) := by decide +kernel
theorem dX4_skipBlanks_5 : decode cX4_skipBlanks 5 = .ok (.getfield 31, 3) := by decide +kernel
theorem dX4_skipBlanks_8 : decode cX4_skipBlanks 8 = .ok (.if_icmp .ge 30, 3) := by decide +kernel
theorem dX4_skipBlanks_11 : decode cX4_skipBlanks 11 = .ok (.aload_n 0, 1) := by decide +kernel
theorem dX4_skipBlanks_12 : decode cX4_skipBlanks 12 = .ok (.getfield 15, 3) := by decide +kernel
theorem dX4_skipBlanks_15 : decode cX4_skipBlanks 15 = .ok (.aload_n 0, 1) := by decide +kernel
theorem dX4_skipBlanks_16 : decode cX4_skipBlanks 16 = .ok (.getfield 34, 3) := by decide +kernel
theorem dX4_skipBlanks_19 : decode cX4_skipBlanks 19 = .ok (.iaload, 1) := by decide +kernel
theorem dX4_skipBlanks_20 : decode cX4_skipBlanks 20 = .ok (.bipush 32, 2) := by decide +kernel
theorem dX4_skipBlanks_22 : decode cX4_skipBlanks 22 = .ok (.if_icmp .ne 16, 3) := by decide +kernel
theorem dX4_skipBlanks_25 : decode cX4_skipBlanks 25 = .ok (.aload_n 0, 1) := by decide +kernel
theorem dX4_skipBlanks_26 : decode cX4_skipBlanks 26 = .ok (.dup, 1) := by decide +kernel
theorem dX4_skipBlanks_27 : decode cX4_skipBlanks 27 = .ok (.getfield 34, 3) := by decide +kernel
theorem dX4_skipBlanks_30 : decode cX4_skipBlanks 30 = .ok (.iconst 1, 1) := by decide +kernel
theorem dX4_skipBlanks_31 : decode cX4_skipBlanks 31 = .ok (.iadd, 1) := by decide +kernel
theorem dX4_skipBlanks_32 : decode cX4_skipBlanks 32 = .ok (.putfield 34, 3) := by decide +kernel
theorem dX4_skipBlanks_35 : decode cX4_skipBlanks 35 = .ok (.goto (-35), 3) := by decide +kernel
theorem dX4_skipBlanks_38 : decode cX4_skipBlanks 38 = .ok (.return_, 1) := by decide +kernel
