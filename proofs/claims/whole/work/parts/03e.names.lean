set_option maxRecDepth 20000 in
theorem wsL_law_in0 : ∀ w ∈ wsL_law0, w ∈ lw_tbl := fun w h => (goodIn_p wsL_law0 [89, 92, 99, 131, 137, 141, 182, 234, 885, 389, 994, 998, 990, 480, 484, 487, 494, 1002, 1005, 1010, 503, 507, 1015, 1018, 315, 319, 323, 1024, 530, 536, 539, 543, 547, 551, 555, 561, 565, 569, 575, 579, 582, 585, 590, 593, 596, 599, 603, 613, 617, 621, 625, 629, 633, 637, 641, 645, 649, 653, 656, 661, 665, 669, 673, 677, 682, 686, 690, 697, 708, 715, 737, 1028, 1033, 1036, 1047, 1051, 1055, 1061, 1065, 1069, 1073, 1077, 1081, 1085, 1089, 744, 748, 1093, 1097, 756, 1101, 763, 767, 1105, 776, 784, 1109, 327, 331, 335, 338, 345, 349, 356, 360, 364, 368, 1115, 1119, 1123, 1126, 1130, 1134, 1138, 1142, 1146, 372, 376, 1150, 791, 795, 1154, 802, 806, 1158, 814, 820, 1162, 828, 833, 1167, 840, 844, 850, 854, 860, 864, 868, 872, 1171, 1175, 1179, 1183, 1188, 880, 1192, 380, 1196] (by decide +kernel) (by decide +kernel) w h).1
theorem wsL_law_x0 : ∀ w ∈ (vx_atS RX8 58 "java/lang/IllegalArgumentException" ["java/lang/RuntimeException", "java/lang/Exception"]).filter goodWord, w ∈ lw_tbl := by decide +kernel
theorem wsL_law_x1 : ∀ w ∈ (vx_atS RX8 65 "java/lang/IllegalStateException" ["java/lang/RuntimeException", "java/lang/Exception"]).filter goodWord, w ∈ lw_tbl := by decide +kernel
theorem wsL_law_x2 : ∀ w ∈ (vx_atS RX8 208 "java/lang/IndexOutOfBoundsException" ["java/lang/RuntimeException", "java/lang/Exception"]).filter goodWord, w ∈ lw_tbl := by decide +kernel
theorem wsL_law_in : ∀ w ∈ wsL_law, w ∈ lw_tbl := fun w h => (List.mem_append.mp h).elim (fun h => (List.mem_append.mp h).elim (fun h => (List.mem_append.mp h).elim (fun h => wsL_law_in0 w h) (fun h => wsL_law_x0 w h)) (fun h => wsL_law_x1 w h)) (fun h => wsL_law_x2 w h)
theorem inX0 : ∀ w ∈ wsX00, w ∈ lw_tbl := by decide +kernel
theorem inlX1 : ∀ w ∈ wsX10, w ∈ wsL_law := fun _ h => List.mem_append_left _ (List.mem_append_left _ (List.mem_append_left _ (List.mem_append_left _ (List.mem_append_left _ (List.mem_append_left _ (List.mem_append_left _ (List.mem_append_left _ (List.mem_append_right _ h))))))))
theorem inX1 : ∀ w ∈ wsX10, w ∈ lw_tbl := fun w h => wsL_law_in w (inlX1 w h)
theorem inX2 : ∀ w ∈ wsX20, w ∈ lw_tbl := by decide +kernel
theorem inlX3 : ∀ w ∈ wsX30, w ∈ wsL_law := fun _ h => List.mem_append_left _ (List.mem_append_left _ (List.mem_append_left _ (List.mem_append_left _ (List.mem_append_left _ (List.mem_append_left _ (List.mem_append_left _ (List.mem_append_right _ h)))))))
theorem inX3 : ∀ w ∈ wsX30, w ∈ lw_tbl := fun w h => wsL_law_in w (inlX3 w h)
theorem inlX4 : ∀ w ∈ wsX40, w ∈ wsL_law := fun _ h => List.mem_append_left _ (List.mem_append_left _ (List.mem_append_left _ (List.mem_append_left _ (List.mem_append_left _ (List.mem_append_left _ (List.mem_append_left _ (List.mem_append_left _ (List.mem_append_left _ (List.mem_append_right _ h)))))))))
theorem inX4 : ∀ w ∈ wsX40, w ∈ lw_tbl := fun w h => wsL_law_in w (inlX4 w h)
theorem inlX5 : ∀ w ∈ wsX50, w ∈ wsL_law := fun _ h => List.mem_append_left _ (List.mem_append_left _ (List.mem_append_left _ (List.mem_append_left _ (List.mem_append_left _ (List.mem_append_left _ (List.mem_append_right _ h))))))
theorem inX5 : ∀ w ∈ wsX50, w ∈ lw_tbl := fun w h => wsL_law_in w (inlX5 w h)
theorem inlX6 : ∀ w ∈ wsX60, w ∈ wsL_law := fun _ h => List.mem_append_left _ (List.mem_append_left _ (List.mem_append_left _ (List.mem_append_left _ (List.mem_append_right _ h))))
theorem inX6 : ∀ w ∈ wsX60, w ∈ lw_tbl := fun w h => wsL_law_in w (inlX6 w h)
theorem inlX7 : ∀ w ∈ wsX70, w ∈ wsL_law := fun _ h => List.mem_append_left _ (List.mem_append_left _ (List.mem_append_left _ (List.mem_append_left _ (List.mem_append_left _ (List.mem_append_right _ h)))))
theorem inX7 : ∀ w ∈ wsX70, w ∈ lw_tbl := fun w h => wsL_law_in w (inlX7 w h)
theorem inlX8 : ∀ w ∈ wsX80, w ∈ wsL_law := fun _ h => List.mem_append_left _ (List.mem_append_left _ (List.mem_append_left _ (List.mem_append_left _ (List.mem_append_left _ (List.mem_append_left _ (List.mem_append_left _ (List.mem_append_left _ (List.mem_append_left _ (List.mem_append_left _ (List.mem_append_left _ (List.mem_append_right _ h)))))))))))
theorem inX8 : ∀ w ∈ wsX80, w ∈ lw_tbl := fun w h => wsL_law_in w (inlX8 w h)
theorem inlX9 : ∀ w ∈ wsX90, w ∈ wsL_law := fun _ h => List.mem_append_left _ (List.mem_append_left _ (List.mem_append_left _ (List.mem_append_left _ (List.mem_append_left _ (List.mem_append_left _ (List.mem_append_left _ (List.mem_append_left _ (List.mem_append_left _ (List.mem_append_left _ (List.mem_append_right _ h))))))))))
theorem inX9 : ∀ w ∈ wsX90, w ∈ lw_tbl := fun w h => wsL_law_in w (inlX9 w h)
theorem inJx8e188 : ∀ w ∈ wsJx8e1880, w ∈ lw_tbl := by decide +kernel
theorem inJx29ce0 : ∀ w ∈ wsJx29ce00, w ∈ lw_tbl := by decide +kernel
theorem inJ6 : ∀ w ∈ wsJ60, w ∈ lw_tbl := by decide +kernel
theorem inJ13 : ∀ w ∈ wsJ130, w ∈ lw_tbl := by decide +kernel
theorem inJ9 : ∀ w ∈ wsJ90, w ∈ lw_tbl := by decide +kernel
theorem inJ0 : ∀ w ∈ wsJ00, w ∈ lw_tbl := by decide +kernel
theorem inJ1 : ∀ w ∈ wsJ10, w ∈ lw_tbl := by decide +kernel
theorem inJ2 : ∀ w ∈ wsJ20, w ∈ lw_tbl := by decide +kernel
theorem inJ10 : ∀ w ∈ wsJ100, w ∈ lw_tbl := by decide +kernel
theorem inJ7 : ∀ w ∈ wsJ70, w ∈ lw_tbl := by decide +kernel
theorem inJ3 : ∀ w ∈ wsJ30, w ∈ lw_tbl := by decide +kernel
set_option maxRecDepth 20000 in
theorem ggL_town_X8_town : GoodIn wsL_town wsX8_town := goodIn_ca (goodIn_ca (goodIn_r _ [7, 8, 9, 10, 11, 12, 13, 14, 15, 16, 17, 18, 19, 20, 21] (by decide +kernel) (by decide +kernel)) (goodIn_sub (fun _ h => List.mem_cons_of_mem _ (List.mem_append_left _ (List.mem_append_right _ h))) (by decide +kernel))) (goodIn_sub (fun _ h => List.mem_cons_of_mem _ (List.mem_append_right _ h)) (by decide +kernel))
set_option maxRecDepth 20000 in
theorem gL_town_X8_town : GoodIn wsL_town (wsV RL 7 RX8 yX8_town wsX8_town) := goodIn_app (goodIn_of _ (by decide +kernel)) ggL_town_X8_town
theorem dL_town_0 : decode cL_town 0 = .ok (.aload_n 2, 1) := by decide +kernel
theorem dL_town_1 : decode cL_town 1 = .ok (.iconst 0, 1) := by decide +kernel
theorem dL_town_2 : decode cL_town 2 = .ok (.aload_n 0, 1) := by decide +kernel
theorem dL_town_3 : decode cL_town 3 = .ok (.iload_n 1, 1) := by decide +kernel
theorem dL_town_4 : decode cL_town 4 = .ok (.invokevirtual 7, 3) := by decide +kernel
theorem dL_town_7 : decode cL_town 7 = .ok (.i2l, 1) := by decide +kernel
theorem dL_town_8 : decode cL_town 8 = .ok (.lastore, 1) := by decide +kernel
theorem dL_town_9 : decode cL_town 9 = .ok (.goto 9, 3) := by decide +kernel
theorem dL_town_12 : decode cL_town 12 = .ok (.astore_n 3, 1) := by decide +kernel
theorem dL_town_13 : decode cL_town 13 = .ok (.iconst 1, 1) := by decide +kernel
theorem dL_town_14 : decode cL_town 14 = .ok (.ireturn, 1) := by decide +kernel
theorem dL_town_15 : decode cL_town 15 = .ok (.astore_n 3, 1) := by decide +kernel
theorem dL_town_16 : decode cL_town 16 = .ok (.iconst 2, 1) := by decide +kernel
theorem dL_town_17 : decode cL_town 17 = .ok (.ireturn, 1) := by decide +kernel
theorem dL_town_18 : decode cL_town 18 = .ok (.iconst 0, 1) := by decide +kernel
theorem dL_town_19 : decode cL_town 19 = .ok (.ireturn, 1) := by decide +kernel
set_option maxRecDepth 20000 in
theorem ggL_of_X8_of : GoodIn wsL_of wsX8_of := goodIn_ca (goodIn_r _ [6, 7, 8, 9, 10, 11, 5, 12, 13, 14, 15, 16, 17, 18, 19, 20, 21, 22] (by decide +kernel) (by decide +kernel)) (goodIn_sub (fun _ h => List.mem_cons_of_mem _ (List.mem_append_right _ h)) (by decide +kernel))
set_option maxRecDepth 20000 in
theorem gL_of_X8_of : GoodIn wsL_of (wsV RL 17 RX8 yX8_of wsX8_of) := goodIn_app (goodIn_of _ (by decide +kernel)) ggL_of_X8_of
theorem dL_of_0 : decode cL_of 0 = .ok (.aload_n 3, 1) := by decide +kernel
theorem dL_of_1 : decode cL_of 1 = .ok (.iconst 0, 1) := by decide +kernel
theorem dL_of_2 : decode cL_of 2 = .ok (.aload_n 0, 1) := by decide +kernel
theorem dL_of_3 : decode cL_of 3 = .ok (.iload_n 1, 1) := by decide +kernel
theorem dL_of_4 : decode cL_of 4 = .ok (.iload_n 2, 1) := by decide +kernel
theorem dL_of_5 : decode cL_of 5 = .ok (.invokevirtual 17, 3) := by decide +kernel
theorem dL_of_8 : decode cL_of 8 = .ok (.i2l, 1) := by decide +kernel
theorem dL_of_9 : decode cL_of 9 = .ok (.lastore, 1) := by decide +kernel
theorem dL_of_10 : decode cL_of 10 = .ok (.goto 7, 3) := by decide +kernel
theorem dL_of_13 : decode cL_of 13 = .ok (.astore 4, 2) := by decide +kernel
theorem dL_of_15 : decode cL_of 15 = .ok (.iconst 1, 1) := by decide +kernel
theorem dL_of_16 : decode cL_of 16 = .ok (.ireturn, 1) := by decide +kernel
theorem dL_of_17 : decode cL_of 17 = .ok (.iconst 0, 1) := by decide +kernel
theorem dL_of_18 : decode cL_of 18 = .ok (.ireturn, 1) := by decide +kernel
set_option maxRecDepth 20000 in
theorem ggL_moon_X8_moon : GoodIn wsL_moon wsX8_moon := goodIn_ca (goodIn_ca (goodIn_r _ [7, 8, 9, 10, 11, 6, 12, 13, 14, 15, 16, 17, 18, 19, 20, 21, 22, 23, 24, 25, 26, 27, 28, 29, 30, 31, 32, 33, 34, 35, 36, 37, 38, 39] (by decide +kernel) (by decide +kernel)) (goodIn_sub (fun _ h => List.mem_cons_of_mem _ (List.mem_append_left _ (List.mem_append_right _ h))) (by decide +kernel))) (goodIn_sub (fun _ h => List.mem_cons_of_mem _ (List.mem_append_right _ h)) (by decide +kernel))
set_option maxRecDepth 20000 in
theorem gL_moon_X8_moon : GoodIn wsL_moon (wsV RL 21 RX8 yX8_moon wsX8_moon) := goodIn_app (goodIn_of _ (by decide +kernel)) ggL_moon_X8_moon
theorem dL_moon_0 : decode cL_moon 0 = .ok (.aload_n 3, 1) := by decide +kernel
theorem dL_moon_1 : decode cL_moon 1 = .ok (.iconst 0, 1) := by decide +kernel
theorem dL_moon_2 : decode cL_moon 2 = .ok (.aload_n 0, 1) := by decide +kernel
theorem dL_moon_3 : decode cL_moon 3 = .ok (.iload_n 1, 1) := by decide +kernel
theorem dL_moon_4 : decode cL_moon 4 = .ok (.iload_n 2, 1) := by decide +kernel
theorem dL_moon_5 : decode cL_moon 5 = .ok (.invokevirtual 21, 3) := by decide +kernel
theorem dL_moon_8 : decode cL_moon 8 = .ok (.i2l, 1) := by decide +kernel
theorem dL_moon_9 : decode cL_moon 9 = .ok (.lastore, 1) := by decide +kernel
theorem dL_moon_10 : decode cL_moon 10 = .ok (.goto 11, 3) := by decide +kernel
theorem dL_moon_13 : decode cL_moon 13 = .ok (.astore 4, 2) := by decide +kernel
theorem dL_moon_15 : decode cL_moon 15 = .ok (.iconst 1, 1) := by decide +kernel
theorem dL_moon_16 : decode cL_moon 16 = .ok (.ireturn, 1) := by decide +kernel
theorem dL_moon_17 : decode cL_moon 17 = .ok (.astore 4, 2) := by decide +kernel
theorem dL_moon_19 : decode cL_moon 19 = .ok (.iconst 2, 1) := by decide +kernel
theorem dL_moon_20 : decode cL_moon 20 = .ok (.ireturn, 1) := by decide +kernel
theorem dL_moon_21 : decode cL_moon 21 = .ok (.iconst 0, 1) := by decide +kernel
theorem dL_moon_22 : decode cL_moon 22 = .ok (.ireturn, 1) := by decide +kernel
set_option maxRecDepth 20000 in
theorem ggL_stone_X8_stone : GoodIn wsL_stone wsX8_stone := goodIn_ca (goodIn_ca (goodIn_ca (goodIn_r _ [8, 9, 10, 11, 12, 13, 14, 15, 16, 17, 18, 19, 20, 21, 22, 23, 24, 25, 26, 27, 28, 29, 30, 31, 32, 33, 34, 35, 36, 7, 37, 38, 39, 40, 41, 42, 43, 44, 45, 46, 47, 48, 49, 50, 51, 52, 53, 54, 55, 56, 57, 58, 59, 60, 61, 62, 63, 64, 65, 66, 67, 68, 69, 70, 71, 72, 73, 74, 75, 76, 77, 78, 79, 80, 81, 82, 83, 84, 85, 86, 87, 88, 89, 90, 91, 92, 93, 94, 95, 96, 97, 98, 99, 100, 101, 102, 103, 104, 105, 106, 107, 108, 109, 110, 111, 112, 113, 114, 115, 116, 117, 118, 119, 120, 121, 122, 123, 124, 125, 126, 127, 128, 129, 130, 131, 132, 133, 134, 135, 136, 137, 138, 139, 140, 141, 142, 143, 144, 145, 146, 147, 148, 149, 150, 151, 152, 153, 154, 155, 156, 157, 158, 159, 160, 161, 162, 163, 164, 165, 166, 167, 168, 169, 170, 171, 172, 173, 174, 175, 176, 177, 178, 179, 180, 181, 182, 183, 184, 185, 186, 187, 188, 189, 190, 191, 192, 193, 194, 195, 196, 197, 198, 199, 200, 201, 202, 203, 204, 205, 206, 207, 208, 209, 210, 211, 212, 213, 214, 215, 216, 217, 218, 219, 220, 221, 222, 223, 224, 225, 226, 227, 228, 229, 230, 231, 232, 233, 234, 235, 236, 237, 238, 239, 240, 241, 242, 243, 244, 245, 246, 247, 248, 249, 250, 251, 252, 253, 254, 255, 256, 257, 258, 259, 260, 261, 262, 263, 264, 265, 266, 267, 268, 269, 270, 271, 272, 273, 274, 275, 276, 277, 278, 279, 280, 281, 282, 283, 284, 285, 286, 287, 288, 289, 290, 291, 292, 293, 294, 295, 296, 297, 298, 299, 300, 301, 302, 303, 304, 305, 306, 307, 308] (by decide +kernel) (by decide +kernel)) (goodIn_sub (fun _ h => List.mem_cons_of_mem _ (List.mem_append_left _ (List.mem_append_left _ (List.mem_append_right _ h)))) (by decide +kernel))) (goodIn_sub (fun _ h => List.mem_cons_of_mem _ (List.mem_append_left _ (List.mem_append_right _ h))) (by decide +kernel))) (goodIn_sub (fun _ h => List.mem_cons_of_mem _ (List.mem_append_right _ h)) (by decide +kernel))
set_option maxRecDepth 20000 in
theorem gL_stone_X8_stone : GoodIn wsL_stone (wsV RL 26 RX8 yX8_stone wsX8_stone) := goodIn_app (goodIn_of _ (by decide +kernel)) ggL_stone_X8_stone
theorem dL_stone_0 : decode cL_stone 0 = .ok (.aload_n 3, 1) := by decide +kernel
theorem dL_stone_1 : decode cL_stone 1 = .ok (.iconst 0, 1) := by decide +kernel
theorem dL_stone_2 : decode cL_stone 2 = .ok (.aload_n 0, 1) := by decide +kernel
theorem dL_stone_3 : decode cL_stone 3 = .ok (.iload_n 1, 1) := by decide +kernel
theorem dL_stone_4 : decode cL_stone 4 = .ok (.iload_n 2, 1) := by decide +kernel
theorem dL_stone_5 : decode cL_stone 5 = .ok (.invokevirtual 26, 3) := by decide +kernel
theorem dL_stone_8 : decode cL_stone 8 = .ok (.i2l, 1) := by decide +kernel
theorem dL_stone_9 : decode cL_stone 9 = .ok (.lastore, 1) := by decide +kernel
theorem dL_stone_10 : decode cL_stone 10 = .ok (.goto 15, 3) := by decide +kernel
theorem dL_stone_13 : decode cL_stone 13 = .ok (.astore 4, 2) := by decide +kernel
theorem dL_stone_15 : decode cL_stone 15 = .ok (.iconst 1, 1) := by decide +kernel
theorem dL_stone_16 : decode cL_stone 16 = .ok (.ireturn, 1) := by decide +kernel
theorem dL_stone_17 : decode cL_stone 17 = .ok (.astore 4, 2) := by decide +kernel
theorem dL_stone_19 : decode cL_stone 19 = .ok (.iconst 2, 1) := by decide +kernel
theorem dL_stone_20 : decode cL_stone 20 = .ok (.ireturn, 1) := by decide +kernel
theorem dL_stone_21 : decode cL_stone 21 = .ok (.astore 4, 2) := by decide +kernel
theorem dL_stone_23 : decode cL_stone 23 = .ok (.iconst 3, 1) := by decide +kernel
theorem dL_stone_24 : decode cL_stone 24 = .ok (.ireturn, 1) := by decide +kernel
theorem dL_stone_25 : decode cL_stone 25 = .ok (.iconst 0, 1) := by decide +kernel
theorem dL_stone_26 : decode cL_stone 26 = .ok (.ireturn, 1) := by decide +kernel
set_option maxRecDepth 20000 in
theorem ggL_many_X8_many : GoodIn wsL_many wsX8_many := goodIn_ca (goodIn_r _ [6, 7, 8, 9, 10, 5, 11, 12, 13, 14, 15, 16, 17, 18, 19, 20, 21, 22, 23, 24, 25, 26, 27] (by decide +kernel) (by decide +kernel)) (goodIn_sub (fun _ h => List.mem_cons_of_mem _ (List.mem_append_right _ h)) (by decide +kernel))
set_option maxRecDepth 20000 in
theorem gL_many_X8_many : GoodIn wsL_many (wsV RL 29 RX8 yX8_many wsX8_many) := goodIn_app (goodIn_of _ (by decide +kernel)) ggL_many_X8_many
theorem dL_many_0 : decode cL_many 0 = .ok (.aload_n 2, 1) := by decide +kernel
theorem dL_many_1 : decode cL_many 1 = .ok (.iconst 0, 1) := by decide +kernel
theorem dL_many_2 : decode cL_many 2 = .ok (.aload_n 0, 1) := by decide +kernel
theorem dL_many_3 : decode cL_many 3 = .ok (.iload_n 1, 1) := by decide +kernel
theorem dL_many_4 : decode cL_many 4 = .ok (.invokevirtual 29, 3) := by decide +kernel
theorem dL_many_7 : decode cL_many 7 = .ok (.i2l, 1) := by decide +kernel
theorem dL_many_8 : decode cL_many 8 = .ok (.lastore, 1) := by decide +kernel
theorem dL_many_9 : decode cL_many 9 = .ok (.goto 6, 3) := by decide +kernel
theorem dL_many_12 : decode cL_many 12 = .ok (.astore_n 3, 1) := by decide +kernel
theorem dL_many_13 : decode cL_many 13 = .ok (.iconst 1, 1) := by decide +kernel
theorem dL_many_14 : decode cL_many 14 = .ok (.ireturn, 1) := by decide +kernel
theorem dL_many_15 : decode cL_many 15 = .ok (.iconst 0, 1) := by decide +kernel
theorem dL_many_16 : decode cL_many 16 = .ok (.ireturn, 1) := by decide +kernel
set_option maxRecDepth 20000 in
theorem ggL_day_X8_day : GoodIn wsL_day wsX8_day := goodIn_ca (goodIn_r _ [6, 7, 8, 9, 10, 5, 11, 12, 13, 14, 15, 16, 17, 18, 19, 20, 21, 22, 23, 24, 25, 26, 27] (by decide +kernel) (by decide +kernel)) (goodIn_sub (fun _ h => List.mem_cons_of_mem _ (List.mem_append_right _ h)) (by decide +kernel))
set_option maxRecDepth 20000 in
theorem gL_day_X8_day : GoodIn wsL_day (wsV RL 32 RX8 yX8_day wsX8_day) := goodIn_app (goodIn_of _ (by decide +kernel)) ggL_day_X8_day
theorem dL_day_0 : decode cL_day 0 = .ok (.aload_n 3, 1) := by decide +kernel
theorem dL_day_1 : decode cL_day 1 = .ok (.iconst 0, 1) := by decide +kernel
theorem dL_day_2 : decode cL_day 2 = .ok (.aload_n 0, 1) := by decide +kernel
theorem dL_day_3 : decode cL_day 3 = .ok (.iload_n 1, 1) := by decide +kernel
theorem dL_day_4 : decode cL_day 4 = .ok (.iload_n 2, 1) := by decide +kernel
theorem dL_day_5 : decode cL_day 5 = .ok (.invokevirtual 32, 3) := by decide +kernel
theorem dL_day_8 : decode cL_day 8 = .ok (.i2l, 1) := by decide +kernel
theorem dL_day_9 : decode cL_day 9 = .ok (.lastore, 1) := by decide +kernel
theorem dL_day_10 : decode cL_day 10 = .ok (.goto 7, 3) := by decide +kernel
theorem dL_day_13 : decode cL_day 13 = .ok (.astore 4, 2) := by decide +kernel
theorem dL_day_15 : decode cL_day 15 = .ok (.iconst 1, 1) := by decide +kernel
theorem dL_day_16 : decode cL_day 16 = .ok (.ireturn, 1) := by decide +kernel
theorem dL_day_17 : decode cL_day 17 = .ok (.iconst 0, 1) := by decide +kernel
theorem dL_day_18 : decode cL_day 18 = .ok (.ireturn, 1) := by decide +kernel
set_option maxRecDepth 20000 in
theorem ggL_fits_X8_fits : GoodIn wsL_fits wsX8_fits := goodIn_ca (goodIn_ca (goodIn_r _ [7, 8, 9, 10, 6, 11, 12, 13, 14, 15, 16, 17, 18, 19, 20, 21, 22, 23, 24, 25, 26, 27, 28, 29, 30, 31, 32, 33, 34, 35, 36, 37, 38, 39, 40, 41, 42, 43, 44, 45, 46, 47, 48, 49, 50, 51, 52, 53] (by decide +kernel) (by decide +kernel)) (goodIn_sub (fun _ h => List.mem_cons_of_mem _ (List.mem_append_left _ (List.mem_append_right _ h))) (by decide +kernel))) (goodIn_sub (fun _ h => List.mem_cons_of_mem _ (List.mem_append_right _ h)) (by decide +kernel))
set_option maxRecDepth 20000 in
theorem gL_fits_X8_fits : GoodIn wsL_fits (wsV RL 35 RX8 yX8_fits wsX8_fits) := goodIn_app (goodIn_of _ (by decide +kernel)) ggL_fits_X8_fits
theorem dL_fits_0 : decode cL_fits 0 = .ok (.aload_n 3, 1) := by decide +kernel
theorem dL_fits_1 : decode cL_fits 1 = .ok (.iconst 0, 1) := by decide +kernel
theorem dL_fits_2 : decode cL_fits 2 = .ok (.aload_n 0, 1) := by decide +kernel
theorem dL_fits_3 : decode cL_fits 3 = .ok (.iload_n 1, 1) := by decide +kernel
theorem dL_fits_4 : decode cL_fits 4 = .ok (.iload_n 2, 1) := by decide +kernel
theorem dL_fits_5 : decode cL_fits 5 = .ok (.invokevirtual 35, 3) := by decide +kernel
theorem dL_fits_8 : decode cL_fits 8 = .ok (.ifCond .eq 7, 3) := by decide +kernel
theorem dL_fits_11 : decode cL_fits 11 = .ok (.lconst 1, 1) := by decide +kernel
theorem dL_fits_12 : decode cL_fits 12 = .ok (.goto 4, 3) := by decide +kernel
theorem dL_fits_15 : decode cL_fits 15 = .ok (.lconst 0, 1) := by decide +kernel
theorem dL_fits_16 : decode cL_fits 16 = .ok (.lastore, 1) := by decide +kernel
theorem dL_fits_17 : decode cL_fits 17 = .ok (.goto 11, 3) := by decide +kernel
theorem dL_fits_20 : decode cL_fits 20 = .ok (.astore 4, 2) := by decide +kernel
theorem dL_fits_22 : decode cL_fits 22 = .ok (.iconst 1, 1) := by decide +kernel
theorem dL_fits_23 : decode cL_fits 23 = .ok (.ireturn, 1) := by decide +kernel
theorem dL_fits_24 : decode cL_fits 24 = .ok (.astore 4, 2) := by decide +kernel
theorem dL_fits_26 : decode cL_fits 26 = .ok (.iconst 2, 1) := by decide +kernel
theorem dL_fits_27 : decode cL_fits 27 = .ok (.ireturn, 1) := by decide +kernel
theorem dL_fits_28 : decode cL_fits 28 = .ok (.iconst 0, 1) := by decide +kernel
theorem dL_fits_29 : decode cL_fits 29 = .ok (.ireturn, 1) := by decide +kernel
set_option maxRecDepth 20000 in
theorem ggL_distance_X8_distance : GoodIn wsL_distance wsX8_distance := goodIn_ca (goodIn_ca (goodIn_ca (goodIn_r _ [8, 9, 10, 11, 12, 13, 14, 15, 16, 17, 18, 19, 7, 20, 21, 22, 23, 24, 25, 26, 27, 28, 29, 30, 31, 32, 33, 34, 35, 36, 37, 38, 39, 40, 41, 42, 43, 44, 45, 46, 47, 48, 49, 50, 51, 52, 53, 54] (by decide +kernel) (by decide +kernel)) (goodIn_sub (fun _ h => List.mem_cons_of_mem _ (List.mem_append_left _ (List.mem_append_left _ (List.mem_append_right _ h)))) (by decide +kernel))) (goodIn_sub (fun _ h => List.mem_cons_of_mem _ (List.mem_append_left _ (List.mem_append_right _ h))) (by decide +kernel))) (goodIn_sub (fun _ h => List.mem_cons_of_mem _ (List.mem_append_right _ h)) (by decide +kernel))
set_option maxRecDepth 20000 in
theorem gL_distance_X8_distance : GoodIn wsL_distance (wsV RL 39 RX8 yX8_distance wsX8_distance) := goodIn_app (goodIn_of _ (by decide +kernel)) ggL_distance_X8_distance
theorem dL_distance_0 : decode cL_distance 0 = .ok (.aload 4, 2) := by decide +kernel
theorem dL_distance_2 : decode cL_distance 2 = .ok (.iconst 0, 1) := by decide +kernel
theorem dL_distance_3 : decode cL_distance 3 = .ok (.aload_n 0, 1) := by decide +kernel
theorem dL_distance_4 : decode cL_distance 4 = .ok (.iload_n 1, 1) := by decide +kernel
theorem dL_distance_5 : decode cL_distance 5 = .ok (.iload_n 2, 1) := by decide +kernel
theorem dL_distance_6 : decode cL_distance 6 = .ok (.iload_n 3, 1) := by decide +kernel
theorem dL_distance_7 : decode cL_distance 7 = .ok (.invokevirtual 39, 3) := by decide +kernel
theorem dL_distance_10 : decode cL_distance 10 = .ok (.i2l, 1) := by decide +kernel
theorem dL_distance_11 : decode cL_distance 11 = .ok (.lastore, 1) := by decide +kernel
theorem dL_distance_12 : decode cL_distance 12 = .ok (.goto 15, 3) := by decide +kernel
theorem dL_distance_15 : decode cL_distance 15 = .ok (.astore 5, 2) := by decide +kernel
theorem dL_distance_17 : decode cL_distance 17 = .ok (.iconst 1, 1) := by decide +kernel
theorem dL_distance_18 : decode cL_distance 18 = .ok (.ireturn, 1) := by decide +kernel
theorem dL_distance_19 : decode cL_distance 19 = .ok (.astore 5, 2) := by decide +kernel
theorem dL_distance_21 : decode cL_distance 21 = .ok (.iconst 2, 1) := by decide +kernel
theorem dL_distance_22 : decode cL_distance 22 = .ok (.ireturn, 1) := by decide +kernel
theorem dL_distance_23 : decode cL_distance 23 = .ok (.astore 5, 2) := by decide +kernel
theorem dL_distance_25 : decode cL_distance 25 = .ok (.iconst 3, 1) := by decide +kernel
theorem dL_distance_26 : decode cL_distance 26 = .ok (.ireturn, 1) := by decide +kernel
theorem dL_distance_27 : decode cL_distance 27 = .ok (.iconst 0, 1) := by decide +kernel
theorem dL_distance_28 : decode cL_distance 28 = .ok (.ireturn, 1) := by decide +kernel
set_option maxRecDepth 20000 in
theorem ggL_settled_X8_settled : GoodIn wsL_settled wsX8_settled := goodIn_ca (goodIn_r _ [6, 7, 8, 9, 10, 5, 11, 12, 13, 14, 15, 16, 17, 18, 19, 20, 21, 22, 23, 24, 25, 26, 27, 28, 29, 30, 31, 32, 33, 34, 35, 36, 37, 38, 39, 40, 41, 42, 43, 44, 45, 46, 47, 48, 49, 50, 51, 52, 53, 54, 55, 56, 57, 58, 59, 60, 61, 62, 63, 64, 65, 66, 67, 68, 69, 70, 71, 72, 73, 74, 75, 76, 77, 78, 79, 80, 81, 82, 83, 84, 85, 86, 87, 88, 89, 90, 91, 92, 93, 94, 95, 96, 97, 98, 99, 100, 101] (by decide +kernel) (by decide +kernel)) (goodIn_sub (fun _ h => List.mem_cons_of_mem _ (List.mem_append_right _ h)) (by decide +kernel))
set_option maxRecDepth 20000 in
theorem gL_settled_X8_settled : GoodIn wsL_settled (wsV RL 43 RX8 yX8_settled wsX8_settled) := goodIn_app (goodIn_of _ (by decide +kernel)) ggL_settled_X8_settled
theorem dL_settled_0 : decode cL_settled 0 = .ok (.aload_n 2, 1) := by decide +kernel
theorem dL_settled_1 : decode cL_settled 1 = .ok (.iconst 0, 1) := by decide +kernel
theorem dL_settled_2 : decode cL_settled 2 = .ok (.aload_n 0, 1) := by decide +kernel
theorem dL_settled_3 : decode cL_settled 3 = .ok (.iload_n 1, 1) := by decide +kernel
theorem dL_settled_4 : decode cL_settled 4 = .ok (.invokevirtual 43, 3) := by decide +kernel
theorem dL_settled_7 : decode cL_settled 7 = .ok (.i2l, 1) := by decide +kernel
theorem dL_settled_8 : decode cL_settled 8 = .ok (.lastore, 1) := by decide +kernel
theorem dL_settled_9 : decode cL_settled 9 = .ok (.goto 6, 3) := by decide +kernel
theorem dL_settled_12 : decode cL_settled 12 = .ok (.astore_n 3, 1) := by decide +kernel
theorem dL_settled_13 : decode cL_settled 13 = .ok (.iconst 1, 1) := by decide +kernel
theorem dL_settled_14 : decode cL_settled 14 = .ok (.ireturn, 1) := by decide +kernel
theorem dL_settled_15 : decode cL_settled 15 = .ok (.iconst 0, 1) := by decide +kernel
theorem dL_settled_16 : decode cL_settled 16 = .ok (.ireturn, 1) := by decide +kernel
set_option maxRecDepth 20000 in
theorem ggL_settledDay_X8_settledDay : GoodIn wsL_settledDay wsX8_settledDay := goodIn_ca (goodIn_r _ [6, 7, 8, 9, 10, 5, 11, 12, 13, 14, 15, 16, 17, 18, 19, 20, 21, 22, 23, 24, 25, 26, 27, 28, 29, 30, 31, 32, 33, 34, 35, 36, 37, 38, 39, 40, 41, 42, 43, 44, 45, 46, 47, 48, 49, 50, 51, 52, 53, 54, 55, 56, 57, 58, 59, 60, 61, 62, 63, 64, 65, 66, 67, 68, 69, 70, 71, 72, 73, 74, 75, 76, 77, 78, 79, 80, 81, 82, 83, 84, 85, 86, 87, 88, 89, 90, 91, 92, 93, 94, 95, 96, 97, 98, 99, 100, 101, 102, 103, 104, 105] (by decide +kernel) (by decide +kernel)) (goodIn_sub (fun _ h => List.mem_cons_of_mem _ (List.mem_append_right _ h)) (by decide +kernel))
set_option maxRecDepth 20000 in
theorem gL_settledDay_X8_settledDay : GoodIn wsL_settledDay (wsV RL 46 RX8 yX8_settledDay wsX8_settledDay) := goodIn_app (goodIn_of _ (by decide +kernel)) ggL_settledDay_X8_settledDay
theorem dL_settledDay_0 : decode cL_settledDay 0 = .ok (.aload_n 3, 1) := by decide +kernel
theorem dL_settledDay_1 : decode cL_settledDay 1 = .ok (.iconst 0, 1) := by decide +kernel
theorem dL_settledDay_2 : decode cL_settledDay 2 = .ok (.aload_n 0, 1) := by decide +kernel
theorem dL_settledDay_3 : decode cL_settledDay 3 = .ok (.iload_n 1, 1) := by decide +kernel
theorem dL_settledDay_4 : decode cL_settledDay 4 = .ok (.iload_n 2, 1) := by decide +kernel
theorem dL_settledDay_5 : decode cL_settledDay 5 = .ok (.invokevirtual 46, 3) := by decide +kernel
theorem dL_settledDay_8 : decode cL_settledDay 8 = .ok (.i2l, 1) := by decide +kernel
theorem dL_settledDay_9 : decode cL_settledDay 9 = .ok (.lastore, 1) := by decide +kernel
theorem dL_settledDay_10 : decode cL_settledDay 10 = .ok (.goto 7, 3) := by decide +kernel
theorem dL_settledDay_13 : decode cL_settledDay 13 = .ok (.astore 4, 2) := by decide +kernel
theorem dL_settledDay_15 : decode cL_settledDay 15 = .ok (.iconst 1, 1) := by decide +kernel
theorem dL_settledDay_16 : decode cL_settledDay 16 = .ok (.ireturn, 1) := by decide +kernel
theorem dL_settledDay_17 : decode cL_settledDay 17 = .ok (.iconst 0, 1) := by decide +kernel
theorem dL_settledDay_18 : decode cL_settledDay 18 = .ok (.ireturn, 1) := by decide +kernel
set_option maxRecDepth 20000 in
theorem ggL_eclipse_X8_eclipse : GoodIn wsL_eclipse wsX8_eclipse := goodIn_ca (goodIn_r _ [6, 7, 8, 9, 10, 11, 12, 13, 14, 15, 16, 17, 18, 19, 20, 21, 22, 23, 24, 25, 26, 27, 28, 29, 30, 31, 32, 33, 34, 35, 36, 37, 38, 39, 40, 41, 42, 43, 44, 45] (by decide +kernel) (by decide +kernel)) (goodIn_sub (fun _ h => List.mem_cons_of_mem _ (List.mem_append_right _ h)) (by decide +kernel))
set_option maxRecDepth 20000 in
theorem gL_eclipse_X8_eclipse : GoodIn wsL_eclipse (wsV RL 49 RX8 yX8_eclipse wsX8_eclipse) := goodIn_app (goodIn_of _ (by decide +kernel)) ggL_eclipse_X8_eclipse
theorem dL_eclipse_0 : decode cL_eclipse 0 = .ok (.aload_n 2, 1) := by decide +kernel
theorem dL_eclipse_1 : decode cL_eclipse 1 = .ok (.iconst 0, 1) := by decide +kernel
theorem dL_eclipse_2 : decode cL_eclipse 2 = .ok (.aload_n 0, 1) := by decide +kernel
theorem dL_eclipse_3 : decode cL_eclipse 3 = .ok (.iload_n 1, 1) := by decide +kernel
theorem dL_eclipse_4 : decode cL_eclipse 4 = .ok (.invokevirtual 49, 3) := by decide +kernel
theorem dL_eclipse_7 : decode cL_eclipse 7 = .ok (.i2l, 1) := by decide +kernel
theorem dL_eclipse_8 : decode cL_eclipse 8 = .ok (.lastore, 1) := by decide +kernel
theorem dL_eclipse_9 : decode cL_eclipse 9 = .ok (.goto 6, 3) := by decide +kernel
theorem dL_eclipse_12 : decode cL_eclipse 12 = .ok (.astore_n 3, 1) := by decide +kernel
theorem dL_eclipse_13 : decode cL_eclipse 13 = .ok (.iconst 1, 1) := by decide +kernel
theorem dL_eclipse_14 : decode cL_eclipse 14 = .ok (.ireturn, 1) := by decide +kernel
theorem dL_eclipse_15 : decode cL_eclipse 15 = .ok (.iconst 0, 1) := by decide +kernel
theorem dL_eclipse_16 : decode cL_eclipse 16 = .ok (.ireturn, 1) := by decide +kernel
set_option maxRecDepth 20000 in
theorem ggL_names_X8_names : GoodIn wsL_names wsX8_names := goodIn_ca (goodIn_ca (goodIn_r _ [7, 8, 9, 10, 11, 12, 13, 14, 15, 6, 16, 17, 18, 19, 20, 21, 22, 23, 24, 25, 26, 27, 28, 29, 30, 31, 32, 33, 34, 35, 36, 37, 38, 39, 40, 41, 42, 43, 44, 45, 46, 47, 48, 49, 50, 51, 52, 53, 54, 55, 56] (by decide +kernel) (by decide +kernel)) (goodIn_sub (fun _ h => List.mem_cons_of_mem _ (List.mem_append_left _ (List.mem_append_right _ h))) (by decide +kernel))) (goodIn_sub (fun _ h => List.mem_cons_of_mem _ (List.mem_append_right _ h)) (by decide +kernel))
set_option maxRecDepth 20000 in
theorem gL_names_X8_names : GoodIn wsL_names (wsV RL 52 RX8 yX8_names wsX8_names) := goodIn_app (goodIn_of _ (by decide +kernel)) ggL_names_X8_names
theorem dL_names_0 : decode cL_names 0 = .ok (.aload_n 3, 1) := by decide +kernel
theorem dL_names_1 : decode cL_names 1 = .ok (.iconst 0, 1) := by decide +kernel
theorem dL_names_2 : decode cL_names 2 = .ok (.aload_n 0, 1) := by decide +kernel
theorem dL_names_3 : decode cL_names 3 = .ok (.iload_n 1, 1) := by decide +kernel
theorem dL_names_4 : decode cL_names 4 = .ok (.iload_n 2, 1) := by decide +kernel
theorem dL_names_5 : decode cL_names 5 = .ok (.invokevirtual 52, 3) := by decide +kernel
theorem dL_names_8 : decode cL_names 8 = .ok (.ifCond .eq 7, 3) := by decide +kernel
theorem dL_names_11 : decode cL_names 11 = .ok (.lconst 1, 1) := by decide +kernel
theorem dL_names_12 : decode cL_names 12 = .ok (.goto 4, 3) := by decide +kernel
theorem dL_names_15 : decode cL_names 15 = .ok (.lconst 0, 1) := by decide +kernel
theorem dL_names_16 : decode cL_names 16 = .ok (.lastore, 1) := by decide +kernel
theorem dL_names_17 : decode cL_names 17 = .ok (.goto 11, 3) := by decide +kernel
theorem dL_names_20 : decode cL_names 20 = .ok (.astore 4, 2) := by decide +kernel
theorem dL_names_22 : decode cL_names 22 = .ok (.iconst 1, 1) := by decide +kernel
theorem dL_names_23 : decode cL_names 23 = .ok (.ireturn, 1) := by decide +kernel
theorem dL_names_24 : decode cL_names 24 = .ok (.astore 4, 2) := by decide +kernel
theorem dL_names_26 : decode cL_names 26 = .ok (.iconst 2, 1) := by decide +kernel
theorem dL_names_27 : decode cL_names 27 = .ok (.ireturn, 1) := by decide +kernel
theorem dL_names_28 : decode cL_names 28 = .ok (.iconst 0, 1) := by decide +kernel
theorem dL_names_29 : decode cL_names 29 = .ok (.ireturn, 1) := by decide +kernel
set_option maxRecDepth 20000 in
theorem ggL_start_X8_start : GoodIn wsL_start wsX8_start := goodIn_ca (goodIn_ca (goodIn_r _ [7, 8, 9, 10, 11, 12, 6, 13, 14, 15, 16, 17, 18, 19, 20, 21, 22, 23, 24, 25, 26, 27, 28, 29, 30, 31, 32, 33, 34, 35, 36, 37, 38, 39, 40, 41, 42, 43, 44, 45, 46, 47, 48, 49, 50, 51, 52, 53, 54, 55, 56, 57, 58, 59, 60, 61, 62, 63, 64, 65, 66, 67, 68, 69, 70, 71, 72, 73, 74, 75, 76, 77, 78, 79, 80, 81, 82, 83, 84, 85, 86, 87, 88, 89] (by decide +kernel) (by decide +kernel)) (goodIn_sub (fun _ h => List.mem_cons_of_mem _ (List.mem_append_left _ (List.mem_append_right _ h))) (by decide +kernel))) (goodIn_sub (fun _ h => List.mem_cons_of_mem _ (List.mem_append_right _ h)) (by decide +kernel))
set_option maxRecDepth 20000 in
theorem gL_start_X8_start : GoodIn wsL_start (wsV RL 56 RX8 yX8_start wsX8_start) := goodIn_app (goodIn_of _ (by decide +kernel)) ggL_start_X8_start
theorem dL_start_0 : decode cL_start 0 = .ok (.aload_n 2, 1) := by decide +kernel
theorem dL_start_1 : decode cL_start 1 = .ok (.iconst 0, 1) := by decide +kernel
theorem dL_start_2 : decode cL_start 2 = .ok (.aload_n 0, 1) := by decide +kernel
theorem dL_start_3 : decode cL_start 3 = .ok (.iload_n 1, 1) := by decide +kernel
theorem dL_start_4 : decode cL_start 4 = .ok (.invokevirtual 56, 3) := by decide +kernel
theorem dL_start_7 : decode cL_start 7 = .ok (.i2l, 1) := by decide +kernel
theorem dL_start_8 : decode cL_start 8 = .ok (.lastore, 1) := by decide +kernel
theorem dL_start_9 : decode cL_start 9 = .ok (.goto 9, 3) := by decide +kernel
theorem dL_start_12 : decode cL_start 12 = .ok (.astore_n 3, 1) := by decide +kernel
theorem dL_start_13 : decode cL_start 13 = .ok (.iconst 1, 1) := by decide +kernel
theorem dL_start_14 : decode cL_start 14 = .ok (.ireturn, 1) := by decide +kernel
theorem dL_start_15 : decode cL_start 15 = .ok (.astore_n 3, 1) := by decide +kernel
theorem dL_start_16 : decode cL_start 16 = .ok (.iconst 2, 1) := by decide +kernel
theorem dL_start_17 : decode cL_start 17 = .ok (.ireturn, 1) := by decide +kernel
theorem dL_start_18 : decode cL_start 18 = .ok (.iconst 0, 1) := by decide +kernel
theorem dL_start_19 : decode cL_start 19 = .ok (.ireturn, 1) := by decide +kernel
set_option maxRecDepth 20000 in
theorem ggL_agrees_X8_agrees : GoodIn wsL_agrees wsX8_agrees := goodIn_ca (goodIn_ca (goodIn_r _ [7, 8, 9, 10, 11, 12, 6, 13, 14, 15, 16, 17, 18, 19, 20, 21, 22, 23, 24, 25, 26, 27, 28, 29, 30, 31, 32, 33, 34, 35, 36, 37, 38, 39, 40, 41, 42, 43, 44, 45, 46, 47, 48, 49, 50, 51, 52, 53, 54, 55, 56, 57, 58, 59, 60, 61, 62, 63, 64, 65, 66, 67, 68, 69, 70, 71, 72, 73, 74, 75, 76, 77, 78, 79, 80, 81, 82, 83, 84, 85, 86, 87, 88, 89] (by decide +kernel) (by decide +kernel)) (goodIn_sub (fun _ h => List.mem_cons_of_mem _ (List.mem_append_left _ (List.mem_append_right _ h))) (by decide +kernel))) (goodIn_sub (fun _ h => List.mem_cons_of_mem _ (List.mem_append_right _ h)) (by decide +kernel))
set_option maxRecDepth 20000 in
theorem gL_agrees_X8_agrees : GoodIn wsL_agrees (wsV RL 59 RX8 yX8_agrees wsX8_agrees) := goodIn_app (goodIn_of _ (by decide +kernel)) ggL_agrees_X8_agrees
theorem dL_agrees_0 : decode cL_agrees 0 = .ok (.aload_n 2, 1) := by decide +kernel
theorem dL_agrees_1 : decode cL_agrees 1 = .ok (.iconst 0, 1) := by decide +kernel
theorem dL_agrees_2 : decode cL_agrees 2 = .ok (.aload_n 0, 1) := by decide +kernel
theorem dL_agrees_3 : decode cL_agrees 3 = .ok (.iload_n 1, 1) := by decide +kernel
theorem dL_agrees_4 : decode cL_agrees 4 = .ok (.invokevirtual 59, 3) := by decide +kernel
theorem dL_agrees_7 : decode cL_agrees 7 = .ok (.i2l, 1) := by decide +kernel
theorem dL_agrees_8 : decode cL_agrees 8 = .ok (.lastore, 1) := by decide +kernel
theorem dL_agrees_9 : decode cL_agrees 9 = .ok (.goto 9, 3) := by decide +kernel
theorem dL_agrees_12 : decode cL_agrees 12 = .ok (.astore_n 3, 1) := by decide +kernel
theorem dL_agrees_13 : decode cL_agrees 13 = .ok (.iconst 1, 1) := by decide +kernel
theorem dL_agrees_14 : decode cL_agrees 14 = .ok (.ireturn, 1) := by decide +kernel
theorem dL_agrees_15 : decode cL_agrees 15 = .ok (.astore_n 3, 1) := by decide +kernel
theorem dL_agrees_16 : decode cL_agrees 16 = .ok (.iconst 2, 1) := by decide +kernel
theorem dL_agrees_17 : decode cL_agrees 17 = .ok (.ireturn, 1) := by decide +kernel
theorem dL_agrees_18 : decode cL_agrees 18 = .ok (.iconst 0, 1) := by decide +kernel
theorem dL_agrees_19 : decode cL_agrees 19 = .ok (.ireturn, 1) := by decide +kernel
set_option maxRecDepth 20000 in
theorem ggL_law_X8_init : GoodIn wsL_law wsX8_init := goodIn_r _ [9, 10, 11, 12, 13, 14, 15, 16, 17, 18, 19, 20, 21, 22, 23, 24, 25, 26, 27, 28, 29, 30, 31, 32, 33, 34, 35, 36, 37, 38, 39, 40, 41, 42, 43, 44, 45, 46, 47, 48, 49, 50, 51, 52, 53, 54, 55, 56, 57, 58, 59, 6, 60, 61, 62, 63, 64, 65, 66, 67, 68, 69, 70, 71, 72, 73, 74, 75, 76, 77, 78, 79, 80, 81, 82, 83, 84, 85, 825, 826, 827, 828, 829, 830, 831, 832, 866, 867, 868, 869, 870, 871, 872, 873, 874, 875, 876, 877, 878, 879, 880, 881, 882, 883, 884, 885, 886, 887, 888, 889, 890, 891, 892, 893, 894, 895, 896, 897, 898, 899, 900, 901, 902, 903, 904, 905, 906, 907, 908, 909, 910] (by decide +kernel) (by decide +kernel)
set_option maxRecDepth 20000 in
theorem gL_law_X8_init : GoodIn wsL_law (wsX8_init) := ggL_law_X8_init
set_option maxRecDepth 20000 in
theorem ggL_law_X9_init : GoodIn wsL_law wsX9_init := goodIn_r _ [88, 89, 11, 12, 13, 90, 91, 92, 6, 93, 94, 95, 96, 97, 98, 99, 100, 101, 102, 103, 79, 104, 105, 106, 833, 834, 835, 836, 837, 838, 839, 840, 841, 842, 843, 844, 845, 846, 847, 848, 849, 850, 851, 852, 853, 854, 855, 856, 857, 858, 859, 860, 861, 862, 863, 864, 865] (by decide +kernel) (by decide +kernel)
set_option maxRecDepth 20000 in
theorem gL_law_X9_init : GoodIn wsL_law (wsX9_init) := ggL_law_X9_init
set_option maxRecDepth 20000 in
theorem ggL_law_L_town : GoodIn wsL_law wsL_town := goodIn_ca (goodIn_ca (goodIn_r _ [110, 111, 112, 113, 114, 115, 2, 116, 117, 118, 119, 120, 33, 14, 825, 826, 827, 828, 829, 830, 831, 832] (by decide +kernel) (by decide +kernel)) (goodIn_sub (fun _ h => List.mem_append_left _ (List.mem_append_left _ (List.mem_append_right _ h))) (by decide +kernel))) (goodIn_sub (fun _ h => List.mem_append_left _ (List.mem_append_right _ h)) (by decide +kernel))
set_option maxRecDepth 20000 in
theorem gL_law_L_town : GoodIn wsL_law (va_wsS RL 66 yL_town wsL_town) := goodIn_app (goodIn_of _ (by decide +kernel)) ggL_law_L_town
set_option maxRecDepth 20000 in
theorem ggL_law_X9_town : GoodIn wsL_law wsX9_town := goodIn_r _ [124, 125, 126, 90, 127, 128, 129, 5, 130, 833, 834, 835, 836, 837, 838, 839, 840, 841, 842, 843, 844, 845, 846, 847, 848, 849, 850, 851, 852, 853, 854, 855, 856, 857, 858, 859, 860, 861, 862, 863, 864, 865] (by decide +kernel) (by decide +kernel)
set_option maxRecDepth 20000 in
theorem gL_law_X9_town : GoodIn wsL_law (wsV RL 71 RX9 yX9_town wsX9_town) := goodIn_app (goodIn_of _ (by decide +kernel)) ggL_law_X9_town
set_option maxRecDepth 20000 in
theorem ggL_law_X9_thrown : GoodIn wsL_law wsX9_thrown := goodIn_r _ [134, 125, 833, 834, 835, 836, 837, 838, 839, 840, 841, 842, 843, 844, 845, 846, 847, 848, 849, 850, 851, 852, 853, 854, 855, 856, 857, 858, 859, 860, 861, 862, 863, 864, 865] (by decide +kernel) (by decide +kernel)
set_option maxRecDepth 20000 in
theorem gL_law_X9_thrown : GoodIn wsL_law (wsV RL 72 RX9 yX9_thrown wsX9_thrown) := goodIn_app (goodIn_of _ (by decide +kernel)) ggL_law_X9_thrown
set_option maxRecDepth 20000 in
theorem ggL_law_L_of : GoodIn wsL_law wsL_of := goodIn_ca (goodIn_r _ [137, 111, 138, 139, 140, 2, 141, 117, 118, 142, 143, 144, 145, 146, 147, 148, 149, 150, 151, 152, 153, 154, 155] (by decide +kernel) (by decide +kernel)) (goodIn_sub (fun _ h => List.mem_append_left _ (List.mem_append_left _ (List.mem_append_right _ h))) (by decide +kernel))
set_option maxRecDepth 20000 in
theorem gL_law_L_of : GoodIn wsL_law (va_wsS RL 76 yL_of wsL_of) := goodIn_app (goodIn_of _ (by decide +kernel)) ggL_law_L_of
set_option maxRecDepth 20000 in
theorem ggL_law_X9_of : GoodIn wsL_law wsX9_of := goodIn_r _ [159, 125, 160, 161, 5, 162, 163, 164, 127, 128, 129, 130, 165, 166, 167, 168, 833, 834, 835, 836, 837, 838, 839, 840, 841, 842, 843, 844, 845, 846, 847, 848, 849, 850, 851, 852, 853, 854, 855, 856, 857, 858, 859, 860, 861, 862, 863, 864, 865] (by decide +kernel) (by decide +kernel)
set_option maxRecDepth 20000 in
theorem gL_law_X9_of : GoodIn wsL_law (wsV RL 79 RX9 yX9_of wsX9_of) := goodIn_app (goodIn_of _ (by decide +kernel)) ggL_law_X9_of
set_option maxRecDepth 20000 in
theorem ggL_law_L_moon : GoodIn wsL_law wsL_moon := goodIn_ca (goodIn_ca (goodIn_r _ [171, 111, 172, 173, 174, 175, 2, 176, 14, 142, 143, 144, 145, 117, 118, 146, 147, 148, 149, 150, 151, 177, 178, 179, 180, 181, 182, 33, 152, 153, 154, 155, 825, 826, 827, 828, 829, 830, 831, 832] (by decide +kernel) (by decide +kernel)) (goodIn_sub (fun _ h => List.mem_append_left _ (List.mem_append_left _ (List.mem_append_right _ h))) (by decide +kernel))) (goodIn_sub (fun _ h => List.mem_append_right _ h) (by decide +kernel))
set_option maxRecDepth 20000 in
theorem gL_law_L_moon : GoodIn wsL_law (va_wsS RL 80 yL_moon wsL_moon) := goodIn_app (goodIn_of _ (by decide +kernel)) ggL_law_L_moon
set_option maxRecDepth 20000 in
theorem ggL_law_X9_moon : GoodIn wsL_law wsX9_moon := goodIn_r _ [186, 125, 126, 90, 160, 161, 5, 162, 163, 164, 127, 128, 129, 130, 187, 188, 189, 190, 191, 833, 834, 835, 836, 837, 838, 839, 840, 841, 842, 843, 844, 845, 846, 847, 848, 849, 850, 851, 852, 853, 854, 855, 856, 857, 858, 859, 860, 861, 862, 863, 864, 865] (by decide +kernel) (by decide +kernel)
set_option maxRecDepth 20000 in
theorem gL_law_X9_moon : GoodIn wsL_law (wsV RL 82 RX9 yX9_moon wsX9_moon) := goodIn_app (goodIn_of _ (by decide +kernel)) ggL_law_X9_moon
set_option maxRecDepth 20000 in
theorem ggL_law_X8_feed : GoodIn wsL_law wsX8_feed := goodIn_r _ [195, 20, 196, 197, 198, 199, 19, 200, 201, 202, 203, 204, 205, 39, 825, 826, 827, 828, 829, 830, 831, 832, 866, 867, 868, 869, 870, 871, 872] (by decide +kernel) (by decide +kernel)
set_option maxRecDepth 20000 in
theorem gL_law_X8_feed : GoodIn wsL_law (wsV RL 83 RX8 yX8_feed wsX8_feed) := goodIn_app (goodIn_of _ (by decide +kernel)) ggL_law_X8_feed
set_option maxRecDepth 20000 in
theorem ggL_law_X9_feed : GoodIn wsL_law wsX9_feed := goodIn_r _ [209, 125, 210, 92, 833, 834, 835, 836, 837, 838, 839, 840, 841, 842, 843, 844, 845, 846, 847, 848, 849, 850, 851, 852, 853, 854, 855, 856, 857, 858, 859, 860, 861, 862, 863, 864, 865] (by decide +kernel) (by decide +kernel)
set_option maxRecDepth 20000 in
theorem gL_law_X9_feed : GoodIn wsL_law (wsV RL 87 RX9 yX9_feed wsX9_feed) := goodIn_app (goodIn_of _ (by decide +kernel)) ggL_law_X9_feed
set_option maxRecDepth 20000 in
theorem ggL_law_L_stone : GoodIn wsL_law wsL_stone := goodIn_ca (goodIn_ca (goodIn_ca (goodIn_r _ [213, 172, 111, 112, 214, 215, 216, 2, 217, 117, 118, 119, 120, 20, 196, 34, 218, 24, 219, 14, 15, 220, 221, 222, 223, 224, 225, 226, 227, 228, 229, 230, 16, 28, 177, 178, 179, 180, 181, 182, 33, 231, 232, 233, 19, 234, 235, 236, 57, 237, 238, 56, 58, 239, 240, 38, 241, 242, 243, 244, 245, 246, 247, 248, 39, 249, 250, 251, 252, 253, 254, 255, 256, 257, 258, 259, 260, 261, 262, 263, 264, 265, 266, 267, 268, 269, 270, 271, 272, 273, 274, 275, 276, 277, 278, 279, 280, 281, 282, 283, 284, 285, 286, 287, 288, 289, 290, 291, 292, 293, 294, 295, 296, 297, 298, 299, 300, 301, 302, 303, 304, 305, 306, 307, 308, 309, 310, 311, 312, 313, 314, 315, 316, 317, 318, 319, 320, 321, 322, 323, 324, 325, 326, 327, 328, 329, 330, 331, 332, 333, 334, 335, 336, 337, 338, 339, 340, 341, 342, 343, 344, 345, 346, 347, 348, 349, 350, 23, 351, 352, 353, 354, 355, 356, 357, 358, 359, 47, 360, 361, 362, 46, 363, 364, 60, 365, 366, 367, 368, 153, 148, 154, 155, 369, 370, 371, 372, 373, 374, 375, 55, 59, 376, 377, 378, 379, 48, 380, 381, 382, 383, 49, 384, 385, 386, 387, 50, 388, 389, 390, 391, 392, 393, 394, 395, 396, 397, 398, 399, 400, 401, 402, 403, 404, 405, 406, 407, 43, 408, 409, 410, 411, 412, 13, 413, 414, 415, 416, 417, 418, 419, 420, 421, 11, 12, 422, 423, 424, 425, 426, 427, 428, 27, 429, 430, 66, 431, 825, 826, 827, 828, 829, 830, 831, 832, 866, 867, 868, 869, 870, 871, 872, 911, 912, 913, 914, 873, 874, 875, 876, 877, 878, 879, 908, 909, 910, 880, 881, 882, 883, 884, 885, 886, 887, 888, 889, 890, 891, 892] (by decide +kernel) (by decide +kernel)) (goodIn_sub (fun _ h => List.mem_append_left _ (List.mem_append_left _ (List.mem_append_right _ h))) (by decide +kernel))) (goodIn_sub (fun _ h => List.mem_append_left _ (List.mem_append_right _ h)) (by decide +kernel))) (goodIn_sub (fun _ h => List.mem_append_right _ h) (by decide +kernel))
set_option maxRecDepth 20000 in
theorem gL_law_L_stone : GoodIn wsL_law (va_wsS RL 88 yL_stone wsL_stone) := goodIn_app (goodIn_of _ (by decide +kernel)) ggL_law_L_stone
set_option maxRecDepth 20000 in
theorem ggL_law_X9_stone : GoodIn wsL_law wsX9_stone := goodIn_r _ [435, 125, 126, 210, 436, 437, 438, 439, 93, 440, 94, 95, 441, 127, 128, 129, 5, 130, 442, 443, 444, 445, 446, 447, 448, 449, 450, 451, 452, 453, 454, 455, 456, 457, 458, 459, 460, 92, 461, 266, 267, 268, 269, 270, 271, 272, 273, 274, 275, 276, 462, 278, 279, 280, 281, 282, 283, 284, 285, 286, 287, 288, 289, 290, 291, 292, 293, 294, 295, 296, 297, 298, 299, 300, 301, 302, 303, 304, 305, 306, 307, 308, 309, 310, 311, 312, 313, 463, 464, 465, 466, 467, 468, 469, 470, 471, 472, 473, 474, 475, 476, 477, 478, 479, 480, 481, 482, 483, 484, 485, 486, 487, 488, 96, 163, 164, 97, 489, 490, 491, 492, 90, 165, 166, 167, 168, 493, 494, 495, 496, 187, 188, 189, 190, 191, 833, 834, 835, 836, 837, 838, 839, 840, 841, 842, 843, 844, 845, 846, 847, 848, 849, 850, 851, 852, 853, 854, 855, 856, 857, 858, 859, 860, 861, 862, 863, 864, 865] (by decide +kernel) (by decide +kernel)
set_option maxRecDepth 20000 in
theorem gL_law_X9_stone : GoodIn wsL_law (wsV RL 90 RX9 yX9_stone wsX9_stone) := goodIn_app (goodIn_of _ (by decide +kernel)) ggL_law_X9_stone
set_option maxRecDepth 20000 in
theorem ggL_law_L_many : GoodIn wsL_law wsL_many := goodIn_ca (goodIn_r _ [499, 172, 500, 501, 502, 2, 503, 504, 505, 506, 507, 508, 181, 182, 34, 16, 911, 912, 913, 914, 825, 826, 827, 828, 829, 830, 831, 832] (by decide +kernel) (by decide +kernel)) (goodIn_sub (fun _ h => List.mem_append_right _ h) (by decide +kernel))
set_option maxRecDepth 20000 in
theorem gL_law_L_many : GoodIn wsL_law (va_wsS RL 91 yL_many wsL_many) := goodIn_app (goodIn_of _ (by decide +kernel)) ggL_law_L_many
set_option maxRecDepth 20000 in
theorem ggL_law_X9_many : GoodIn wsL_law wsX9_many := goodIn_r _ [512, 96, 513, 514, 515, 5, 516, 436, 125, 833, 834, 835, 836, 837, 838, 839, 840, 841, 842, 843, 844, 845, 846, 847, 848, 849, 850, 851, 852, 853, 854, 855, 856, 857, 858, 859, 860, 861, 862, 863, 864, 865] (by decide +kernel) (by decide +kernel)
set_option maxRecDepth 20000 in
theorem gL_law_X9_many : GoodIn wsL_law (wsV RL 93 RX9 yX9_many wsX9_many) := goodIn_app (goodIn_of _ (by decide +kernel)) ggL_law_X9_many
set_option maxRecDepth 20000 in
theorem ggL_law_L_day : GoodIn wsL_law wsL_day := goodIn_ca (goodIn_r _ [519, 172, 520, 521, 522, 2, 523, 524, 505, 506, 507, 508, 181, 182, 34, 16, 911, 912, 913, 914, 825, 826, 827, 828, 829, 830, 831, 832] (by decide +kernel) (by decide +kernel)) (goodIn_sub (fun _ h => List.mem_append_right _ h) (by decide +kernel))
set_option maxRecDepth 20000 in
theorem gL_law_L_day : GoodIn wsL_law (va_wsS RL 94 yL_day wsL_day) := goodIn_app (goodIn_of _ (by decide +kernel)) ggL_law_L_day
set_option maxRecDepth 20000 in
theorem ggL_law_X9_day : GoodIn wsL_law wsX9_day := goodIn_r _ [528, 96, 97, 513, 514, 515, 5, 516, 436, 125, 833, 834, 835, 836, 837, 838, 839, 840, 841, 842, 843, 844, 845, 846, 847, 848, 849, 850, 851, 852, 853, 854, 855, 856, 857, 858, 859, 860, 861, 862, 863, 864, 865] (by decide +kernel) (by decide +kernel)
set_option maxRecDepth 20000 in
theorem gL_law_X9_day : GoodIn wsL_law (wsV RL 96 RX9 yX9_day wsX9_day) := goodIn_app (goodIn_of _ (by decide +kernel)) ggL_law_X9_day
set_option maxRecDepth 20000 in
theorem ggL_law_L_fits : GoodIn wsL_law wsL_fits := goodIn_ca (goodIn_ca (goodIn_r _ [531, 172, 111, 532, 533, 534, 2, 535, 505, 506, 507, 508, 181, 182, 34, 16, 142, 143, 144, 145, 117, 118, 146, 147, 148, 149, 150, 151, 536, 537, 538, 221, 539, 423, 422, 540, 153, 154, 155, 541, 370, 371, 825, 826, 827, 828, 829, 830, 831, 832, 911, 912, 913, 914] (by decide +kernel) (by decide +kernel)) (goodIn_sub (fun _ h => List.mem_append_right _ h) (by decide +kernel))) (goodIn_sub (fun _ h => List.mem_append_left _ (List.mem_append_left _ (List.mem_append_right _ h))) (by decide +kernel))
set_option maxRecDepth 20000 in
theorem gL_law_L_fits : GoodIn wsL_law (va_wsS RL 97 yL_fits wsL_fits) := goodIn_app (goodIn_of _ (by decide +kernel)) ggL_law_L_fits
set_option maxRecDepth 20000 in
theorem ggL_law_X9_fits : GoodIn wsL_law wsX9_fits := goodIn_r _ [545, 513, 514, 515, 5, 516, 436, 125, 160, 161, 162, 163, 164, 127, 128, 129, 130, 489, 490, 491, 492, 90, 95, 165, 166, 167, 168, 493, 494, 495, 496, 93, 94, 187, 188, 189, 190, 191, 833, 834, 835, 836, 837, 838, 839, 840, 841, 842, 843, 844, 845, 846, 847, 848, 849, 850, 851, 852, 853, 854, 855, 856, 857, 858, 859, 860, 861, 862, 863, 864, 865] (by decide +kernel) (by decide +kernel)
set_option maxRecDepth 20000 in
theorem gL_law_X9_fits : GoodIn wsL_law (wsV RL 99 RX9 yX9_fits wsX9_fits) := goodIn_app (goodIn_of _ (by decide +kernel)) ggL_law_X9_fits
set_option maxRecDepth 20000 in
theorem ggL_law_L_distance : GoodIn wsL_law wsL_distance := goodIn_ca (goodIn_ca (goodIn_ca (goodIn_r _ [548, 172, 111, 112, 549, 550, 551, 2, 552, 117, 118, 119, 120, 553, 554, 28, 555, 505, 506, 507, 508, 181, 182, 34, 16, 556, 557, 558, 27, 559, 560, 67, 68, 69, 825, 826, 827, 828, 829, 830, 831, 832, 880, 881, 882, 883, 884, 885, 886, 887, 888, 889, 890, 891, 892] (by decide +kernel) (by decide +kernel)) (goodIn_sub (fun _ h => List.mem_append_left _ (List.mem_append_left _ (List.mem_append_right _ h))) (by decide +kernel))) (goodIn_sub (fun _ h => List.mem_append_left _ (List.mem_append_right _ h)) (by decide +kernel))) (goodIn_sub (fun _ h => List.mem_append_right _ h) (by decide +kernel))
set_option maxRecDepth 20000 in
theorem gL_law_L_distance : GoodIn wsL_law (va_wsS RL 100 yL_distance wsL_distance) := goodIn_app (goodIn_of _ (by decide +kernel)) ggL_law_L_distance
set_option maxRecDepth 20000 in
theorem ggL_law_X9_distance : GoodIn wsL_law wsX9_distance := goodIn_r _ [564, 125, 436, 565, 566, 567, 98, 99, 100, 441, 127, 128, 129, 5, 130, 833, 834, 835, 836, 837, 838, 839, 840, 841, 842, 843, 844, 845, 846, 847, 848, 849, 850, 851, 852, 853, 854, 855, 856, 857, 858, 859, 860, 861, 862, 863, 864, 865] (by decide +kernel) (by decide +kernel)
set_option maxRecDepth 20000 in
theorem gL_law_X9_distance : GoodIn wsL_law (wsV RL 103 RX9 yX9_distance wsX9_distance) := goodIn_app (goodIn_of _ (by decide +kernel)) ggL_law_X9_distance
set_option maxRecDepth 20000 in
theorem ggL_law_X8_least : GoodIn wsL_law wsX8_least := goodIn_r _ [571, 28, 572, 573, 574, 575, 27, 576, 577, 560, 578, 579, 580, 581, 582, 583, 584, 585, 586, 587, 588, 589, 590, 591, 592, 593, 594, 66, 67, 68, 595, 596, 597, 598, 71, 599, 415, 416, 417, 72, 600, 601, 602, 603, 69, 604, 605, 606, 607, 73, 74, 608, 609, 610, 611, 612, 613, 614, 615, 616, 825, 826, 827, 828, 829, 830, 831, 832, 880, 881, 882, 883, 884, 885, 886, 887, 888, 889, 890, 891, 892, 911, 912, 913, 914] (by decide +kernel) (by decide +kernel)
set_option maxRecDepth 20000 in
theorem gL_law_X8_least : GoodIn wsL_law (wsV RL 104 RX8 yX8_least wsX8_least) := goodIn_app (goodIn_of _ (by decide +kernel)) ggL_law_X8_least
set_option maxRecDepth 20000 in
theorem ggL_law_X9_least : GoodIn wsL_law wsX9_least := goodIn_r _ [620, 125, 621, 622, 623, 624, 5, 625, 441, 626, 567, 98, 99, 101, 436, 104, 96, 97, 627, 628, 629, 630, 631, 632, 633, 634, 635, 636, 637, 638, 639, 640, 641, 102, 103, 100, 642, 643, 644, 645, 646, 647, 648, 649, 650, 651, 652, 653, 833, 834, 835, 836, 837, 838, 839, 840, 841, 842, 843, 844, 845, 846, 847, 848, 849, 850, 851, 852, 853, 854, 855, 856, 857, 858, 859, 860, 861, 862, 863, 864, 865] (by decide +kernel) (by decide +kernel)
set_option maxRecDepth 20000 in
theorem gL_law_X9_least : GoodIn wsL_law (wsV RL 107 RX9 yX9_least wsX9_least) := goodIn_app (goodIn_of _ (by decide +kernel)) ggL_law_X9_least
set_option maxRecDepth 20000 in
theorem ggL_law_X8_wrong : GoodIn wsL_law wsX8_wrong := goodIn_r _ [657, 28, 573, 574, 575, 27, 576, 577, 560, 578, 579, 580, 581, 582, 583, 584, 585, 586, 587, 588, 589, 590, 591, 592, 593, 594, 66, 67, 68, 595, 596, 597, 598, 71, 599, 415, 416, 417, 72, 600, 601, 602, 603, 69, 604, 605, 606, 607, 73, 74, 608, 609, 610, 611, 612, 613, 614, 615, 616, 658, 659, 660, 661, 825, 826, 827, 828, 829, 830, 831, 832, 880, 881, 882, 883, 884, 885, 886, 887, 888, 889, 890, 891, 892, 911, 912, 913, 914] (by decide +kernel) (by decide +kernel)
set_option maxRecDepth 20000 in
theorem gL_law_X8_wrong : GoodIn wsL_law (wsV RL 108 RX8 yX8_wrong wsX8_wrong) := goodIn_app (goodIn_of _ (by decide +kernel)) ggL_law_X8_wrong
set_option maxRecDepth 20000 in
theorem ggL_law_X9_wrong : GoodIn wsL_law wsX9_wrong := goodIn_r _ [665, 125, 626, 621, 101, 622, 623, 624, 5, 625, 441, 567, 98, 99, 436, 104, 96, 97, 627, 628, 629, 630, 631, 632, 633, 634, 635, 636, 637, 638, 639, 640, 641, 102, 103, 100, 642, 643, 644, 645, 646, 647, 648, 649, 650, 651, 652, 653, 833, 834, 835, 836, 837, 838, 839, 840, 841, 842, 843, 844, 845, 846, 847, 848, 849, 850, 851, 852, 853, 854, 855, 856, 857, 858, 859, 860, 861, 862, 863, 864, 865] (by decide +kernel) (by decide +kernel)
set_option maxRecDepth 20000 in
theorem gL_law_X9_wrong : GoodIn wsL_law (wsV RL 111 RX9 yX9_wrong wsX9_wrong) := goodIn_app (goodIn_of _ (by decide +kernel)) ggL_law_X9_wrong
set_option maxRecDepth 20000 in
theorem ggL_law_L_settled : GoodIn wsL_law wsL_settled := goodIn_ca (goodIn_r _ [668, 172, 669, 670, 671, 2, 672, 28, 505, 506, 507, 508, 181, 182, 34, 16, 573, 574, 575, 27, 576, 577, 560, 578, 579, 580, 581, 582, 583, 584, 585, 586, 587, 588, 589, 590, 591, 592, 593, 594, 66, 67, 68, 595, 596, 597, 598, 71, 599, 415, 416, 417, 72, 600, 601, 602, 603, 69, 604, 605, 606, 607, 73, 74, 608, 609, 610, 611, 612, 613, 614, 615, 616, 673, 674, 675, 676, 825, 826, 827, 828, 829, 830, 831, 832, 880, 881, 882, 883, 884, 885, 886, 887, 888, 889, 890, 891, 892, 911, 912, 913, 914] (by decide +kernel) (by decide +kernel)) (goodIn_sub (fun _ h => List.mem_append_right _ h) (by decide +kernel))
set_option maxRecDepth 20000 in
theorem gL_law_L_settled : GoodIn wsL_law (va_wsS RL 112 yL_settled wsL_settled) := goodIn_app (goodIn_of _ (by decide +kernel)) ggL_law_L_settled
set_option maxRecDepth 20000 in
theorem ggL_law_X9_settled : GoodIn wsL_law wsX9_settled := goodIn_r _ [680, 104, 513, 514, 515, 5, 516, 436, 125, 627, 628, 629, 630, 96, 622, 623, 624, 625, 441, 626, 567, 98, 99, 101, 621, 97, 631, 632, 633, 634, 635, 636, 637, 638, 639, 640, 641, 102, 103, 100, 642, 643, 644, 645, 646, 647, 648, 649, 650, 651, 652, 653, 833, 834, 835, 836, 837, 838, 839, 840, 841, 842, 843, 844, 845, 846, 847, 848, 849, 850, 851, 852, 853, 854, 855, 856, 857, 858, 859, 860, 861, 862, 863, 864, 865] (by decide +kernel) (by decide +kernel)
set_option maxRecDepth 20000 in
theorem gL_law_X9_settled : GoodIn wsL_law (wsV RL 114 RX9 yX9_settled wsX9_settled) := goodIn_app (goodIn_of _ (by decide +kernel)) ggL_law_X9_settled
set_option maxRecDepth 20000 in
theorem ggL_law_L_settledDay : GoodIn wsL_law wsL_settledDay := goodIn_ca (goodIn_r _ [683, 172, 684, 685, 686, 2, 687, 28, 505, 506, 507, 508, 181, 182, 34, 16, 573, 574, 575, 27, 576, 577, 560, 578, 579, 580, 581, 582, 583, 584, 585, 586, 587, 588, 589, 590, 591, 592, 593, 594, 66, 67, 68, 595, 596, 597, 598, 71, 599, 415, 416, 417, 72, 600, 601, 602, 603, 69, 604, 605, 606, 607, 73, 74, 608, 609, 610, 611, 612, 613, 614, 615, 616, 688, 689, 690, 691, 692, 674, 675, 676, 825, 826, 827, 828, 829, 830, 831, 832, 880, 881, 882, 883, 884, 885, 886, 887, 888, 889, 890, 891, 892, 911, 912, 913, 914] (by decide +kernel) (by decide +kernel)) (goodIn_sub (fun _ h => List.mem_append_right _ h) (by decide +kernel))
set_option maxRecDepth 20000 in
theorem gL_law_L_settledDay : GoodIn wsL_law (va_wsS RL 115 yL_settledDay wsL_settledDay) := goodIn_app (goodIn_of _ (by decide +kernel)) ggL_law_L_settledDay
set_option maxRecDepth 20000 in
theorem ggL_law_X9_settledDay : GoodIn wsL_law wsX9_settledDay := goodIn_r _ [696, 104, 97, 513, 514, 515, 5, 516, 436, 125, 627, 628, 629, 630, 96, 622, 623, 624, 625, 441, 626, 567, 98, 99, 101, 621, 631, 632, 633, 634, 635, 636, 637, 638, 639, 640, 641, 102, 103, 100, 642, 643, 644, 645, 646, 647, 648, 649, 650, 651, 652, 653, 833, 834, 835, 836, 837, 838, 839, 840, 841, 842, 843, 844, 845, 846, 847, 848, 849, 850, 851, 852, 853, 854, 855, 856, 857, 858, 859, 860, 861, 862, 863, 864, 865] (by decide +kernel) (by decide +kernel)
set_option maxRecDepth 20000 in
theorem gL_law_X9_settledDay : GoodIn wsL_law (wsV RL 117 RX9 yX9_settledDay wsX9_settledDay) := goodIn_app (goodIn_of _ (by decide +kernel)) ggL_law_X9_settledDay
set_option maxRecDepth 20000 in
theorem ggL_law_L_eclipse : GoodIn wsL_law wsL_eclipse := goodIn_ca (goodIn_r _ [699, 111, 700, 701, 702, 2, 703, 117, 118, 704, 32, 705, 706, 707, 31, 708, 709, 78, 710, 415, 416, 417, 85, 825, 826, 827, 828, 829, 830, 831, 832, 893, 894, 895, 896, 897, 898, 899, 900, 901, 902, 903, 904, 905, 906, 907] (by decide +kernel) (by decide +kernel)) (goodIn_sub (fun _ h => List.mem_append_left _ (List.mem_append_left _ (List.mem_append_right _ h))) (by decide +kernel))
set_option maxRecDepth 20000 in
theorem gL_law_L_eclipse : GoodIn wsL_law (va_wsS RL 118 yL_eclipse wsL_eclipse) := goodIn_app (goodIn_of _ (by decide +kernel)) ggL_law_L_eclipse
set_option maxRecDepth 20000 in
theorem ggL_law_X9_eclipse : GoodIn wsL_law wsX9_eclipse := goodIn_r _ [714, 125, 715, 716, 105, 127, 128, 129, 5, 130, 833, 834, 835, 836, 837, 838, 839, 840, 841, 842, 843, 844, 845, 846, 847, 848, 849, 850, 851, 852, 853, 854, 855, 856, 857, 858, 859, 860, 861, 862, 863, 864, 865] (by decide +kernel) (by decide +kernel)
set_option maxRecDepth 20000 in
theorem gL_law_X9_eclipse : GoodIn wsL_law (wsV RL 120 RX9 yX9_eclipse wsX9_eclipse) := goodIn_app (goodIn_of _ (by decide +kernel)) ggL_law_X9_eclipse
set_option maxRecDepth 20000 in
theorem ggL_law_L_names : GoodIn wsL_law wsL_names := goodIn_ca (goodIn_ca (goodIn_r _ [719, 172, 112, 720, 721, 722, 2, 723, 119, 120, 504, 524, 32, 505, 506, 507, 508, 181, 182, 34, 16, 724, 725, 726, 31, 727, 80, 81, 728, 85, 911, 912, 913, 914, 825, 826, 827, 828, 829, 830, 831, 832, 893, 894, 895, 896, 897, 898, 899, 900, 901, 902, 903, 904, 905, 906, 907] (by decide +kernel) (by decide +kernel)) (goodIn_sub (fun _ h => List.mem_append_left _ (List.mem_append_right _ h)) (by decide +kernel))) (goodIn_sub (fun _ h => List.mem_append_right _ h) (by decide +kernel))
set_option maxRecDepth 20000 in
theorem gL_law_L_names : GoodIn wsL_law (va_wsS RL 121 yL_names wsL_names) := goodIn_app (goodIn_of _ (by decide +kernel)) ggL_law_L_names
set_option maxRecDepth 20000 in
theorem ggL_law_X9_names : GoodIn wsL_law wsX9_names := goodIn_r _ [732, 96, 106, 513, 514, 515, 5, 516, 436, 125, 127, 128, 129, 130, 833, 834, 835, 836, 837, 838, 839, 840, 841, 842, 843, 844, 845, 846, 847, 848, 849, 850, 851, 852, 853, 854, 855, 856, 857, 858, 859, 860, 861, 862, 863, 864, 865] (by decide +kernel) (by decide +kernel)
set_option maxRecDepth 20000 in
theorem gL_law_X9_names : GoodIn wsL_law (wsV RL 124 RX9 yX9_names wsX9_names) := goodIn_app (goodIn_of _ (by decide +kernel)) ggL_law_X9_names
set_option maxRecDepth 20000 in
theorem ggL_law_L_start : GoodIn wsL_law wsL_start := goodIn_ca (goodIn_ca (goodIn_r _ [735, 111, 112, 736, 737, 738, 2, 739, 32, 740, 741, 742, 743, 744, 117, 118, 119, 120, 745, 746, 747, 748, 749, 31, 750, 85, 751, 752, 753, 754, 709, 82, 84, 83, 755, 756, 757, 758, 78, 759, 56, 57, 58, 760, 236, 237, 761, 762, 763, 764, 80, 81, 765, 766, 767, 768, 769, 770, 771, 772, 773, 774, 775, 776, 777, 778, 779, 825, 826, 827, 828, 829, 830, 831, 832, 893, 894, 895, 896, 897, 898, 899, 900, 901, 902, 903, 904, 905, 906, 907] (by decide +kernel) (by decide +kernel)) (goodIn_sub (fun _ h => List.mem_append_left _ (List.mem_append_left _ (List.mem_append_right _ h))) (by decide +kernel))) (goodIn_sub (fun _ h => List.mem_append_left _ (List.mem_append_right _ h)) (by decide +kernel))
set_option maxRecDepth 20000 in
theorem gL_law_L_start : GoodIn wsL_law (va_wsS RL 125 yL_start wsL_start) := goodIn_app (goodIn_of _ (by decide +kernel)) ggL_law_L_start
set_option maxRecDepth 20000 in
theorem ggL_law_X9_start : GoodIn wsL_law wsX9_start := goodIn_r _ [783, 784, 785, 786, 787, 5, 788, 125, 716, 127, 128, 129, 130, 789, 790, 791, 792, 436, 106, 793, 794, 795, 796, 797, 798, 799, 105, 97, 800, 801, 802, 803, 833, 834, 835, 836, 837, 838, 839, 840, 841, 842, 843, 844, 845, 846, 847, 848, 849, 850, 851, 852, 853, 854, 855, 856, 857, 858, 859, 860, 861, 862, 863, 864, 865] (by decide +kernel) (by decide +kernel)
set_option maxRecDepth 20000 in
theorem gL_law_X9_start : GoodIn wsL_law (wsV RL 127 RX9 yX9_start wsX9_start) := goodIn_app (goodIn_of _ (by decide +kernel)) ggL_law_X9_start
set_option maxRecDepth 20000 in
theorem ggL_law_L_agrees : GoodIn wsL_law wsL_agrees := goodIn_ca (goodIn_ca (goodIn_r _ [806, 111, 112, 807, 808, 809, 2, 810, 32, 811, 741, 742, 743, 744, 117, 118, 119, 120, 745, 746, 747, 748, 749, 31, 750, 85, 751, 752, 753, 754, 709, 82, 84, 83, 755, 756, 757, 758, 78, 759, 56, 57, 58, 760, 236, 237, 761, 762, 763, 764, 80, 81, 765, 766, 767, 768, 769, 770, 771, 772, 773, 774, 775, 776, 777, 778, 779, 825, 826, 827, 828, 829, 830, 831, 832, 893, 894, 895, 896, 897, 898, 899, 900, 901, 902, 903, 904, 905, 906, 907] (by decide +kernel) (by decide +kernel)) (goodIn_sub (fun _ h => List.mem_append_left _ (List.mem_append_left _ (List.mem_append_right _ h))) (by decide +kernel))) (goodIn_sub (fun _ h => List.mem_append_left _ (List.mem_append_right _ h)) (by decide +kernel))
set_option maxRecDepth 20000 in
theorem gL_law_L_agrees : GoodIn wsL_law (va_wsS RL 128 yL_agrees wsL_agrees) := goodIn_app (goodIn_of _ (by decide +kernel)) ggL_law_L_agrees
set_option maxRecDepth 20000 in
theorem ggL_law_X9_agrees : GoodIn wsL_law wsX9_agrees := goodIn_r _ [815, 797, 785, 786, 787, 5, 788, 125, 716, 127, 128, 129, 130, 789, 790, 791, 792, 436, 106, 793, 794, 795, 796, 798, 799, 784, 105, 97, 800, 801, 802, 803, 833, 834, 835, 836, 837, 838, 839, 840, 841, 842, 843, 844, 845, 846, 847, 848, 849, 850, 851, 852, 853, 854, 855, 856, 857, 858, 859, 860, 861, 862, 863, 864, 865] (by decide +kernel) (by decide +kernel)
set_option maxRecDepth 20000 in
theorem gL_law_X9_agrees : GoodIn wsL_law (wsV RL 130 RX9 yX9_agrees wsX9_agrees) := goodIn_app (goodIn_of _ (by decide +kernel)) ggL_law_X9_agrees
set_option maxRecDepth 20000 in
theorem ggL_law_X8_count : GoodIn wsL_law wsX8_count := goodIn_r _ [819, 33, 34, 28, 555, 32, 745, 746, 20, 196, 820, 825, 826, 827, 828, 829, 830, 831, 832, 880, 881, 882, 883, 884, 885, 886, 887, 888, 889, 890, 891, 892, 893, 894, 895, 896, 897, 898, 899, 900, 901, 902, 903, 904, 905, 906, 907, 866, 867, 868, 869, 870, 871, 872] (by decide +kernel) (by decide +kernel)
set_option maxRecDepth 20000 in
theorem gL_law_X8_count : GoodIn wsL_law (wsV RL 131 RX8 yX8_count wsX8_count) := goodIn_app (goodIn_of _ (by decide +kernel)) ggL_law_X8_count
set_option maxRecDepth 20000 in
theorem ggL_law_X9_count : GoodIn wsL_law wsX9_count := goodIn_r _ [824, 125, 126, 436, 567, 716, 210, 789, 790, 791, 5, 792, 106, 627, 628, 629, 630, 96, 833, 834, 835, 836, 837, 838, 839, 840, 841, 842, 843, 844, 845, 846, 847, 848, 849, 850, 851, 852, 853, 854, 855, 856, 857, 858, 859, 860, 861, 862, 863, 864, 865] (by decide +kernel) (by decide +kernel)
set_option maxRecDepth 20000 in
theorem gL_law_X9_count : GoodIn wsL_law (wsV RL 134 RX9 yX9_count wsX9_count) := goodIn_app (goodIn_of _ (by decide +kernel)) ggL_law_X9_count
