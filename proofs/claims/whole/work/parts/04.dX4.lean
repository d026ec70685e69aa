set_option maxRecDepth 20000 in
theorem ggX4_init_X3_init : GoodIn wsX4_init wsX3_init := goodIn_r _ [29, 30, 2, 3, 31, 13, 14, 32, 33, 34, 35, 36, 21, 37, 38, 39, 40, 41, 42, 43, 44, 45, 46, 47, 48, 49, 50, 51, 52, 53, 54, 55, 56, 57, 58, 59, 60, 61, 62, 63, 64, 65, 66, 67, 68, 69, 70, 71, 72, 73, 74, 75, 76, 77, 78, 111, 112, 113, 114, 115, 116, 117, 118, 119, 120, 121, 122, 123, 124, 125, 126, 127, 84, 85, 86, 87, 88, 89, 90, 91, 92, 93, 94, 95, 96, 97, 98, 130, 131, 132, 133, 134] (by decide +kernel) (by decide +kernel)
set_option maxRecDepth 20000 in
theorem gX4_init_X3_init_n9 : GoodIn wsX4_init (wsX3_init) := ggX4_init_X3_init
set_option maxRecDepth 20000 in
theorem ggX4_init_X2_init : GoodIn wsX4_init wsX2_init := goodIn_r _ [52, 53, 2, 3, 21, 54, 55, 56, 57, 58, 59, 60, 61, 62, 63, 64, 65, 66, 67, 68, 69, 70, 111, 112, 113, 114, 115, 116, 117, 118, 119, 120, 121, 122, 123, 124, 125, 126, 127] (by decide +kernel) (by decide +kernel)
set_option maxRecDepth 20000 in
theorem gX4_init_X2_init_n30 : GoodIn wsX4_init (wsX2_init) := ggX4_init_X2_init
set_option maxRecDepth 20000 in
theorem ggX4_init_X1_init : GoodIn wsX4_init wsX1_init := goodIn_r _ [80, 81, 2, 3, 21, 82, 83, 128, 129] (by decide +kernel) (by decide +kernel)
set_option maxRecDepth 20000 in
theorem gX4_init_X1_init_n39 : GoodIn wsX4_init (wsX1_init) := ggX4_init_X1_init
theorem dX4_init_0 : decode cX4_init 0 = .ok (.aload_n 0, 1) := by decide +kernel
theorem dX4_init_1 : decode cX4_init 1 = .ok (.invokespecial 1, 3) := by decide +kernel
theorem dX4_init_4 : decode cX4_init 4 = .ok (.aload_n 0, 1) := by decide +kernel
theorem dX4_init_5 : decode cX4_init 5 = .ok (.new 7, 3) := by decide +kernel
theorem dX4_init_8 : decode cX4_init 8 = .ok (.dup, 1) := by decide +kernel
theorem dX4_init_9 : decode cX4_init 9 = .ok (.invokespecial 9, 3) := by decide +kernel
theorem dX4_init_12 : decode cX4_init 12 = .ok (.putfield 10, 3) := by decide +kernel
theorem dX4_init_15 : decode cX4_init 15 = .ok (.aload_n 0, 1) := by decide +kernel
theorem dX4_init_16 : decode cX4_init 16 = .ok (.aload_n 0, 1) := by decide +kernel
theorem dX4_init_17 : decode cX4_init 17 = .ok (.getfield 10, 3) := by decide +kernel
theorem dX4_init_20 : decode cX4_init 20 = .ok (.getfield 16, 3) := by decide +kernel
theorem dX4_init_23 : decode cX4_init 23 = .ok (.putfield 20, 3) := by decide +kernel
theorem dX4_init_26 : decode cX4_init 26 = .ok (.aload_n 0, 1) := by decide +kernel
theorem dX4_init_27 : decode cX4_init 27 = .ok (.aload_n 0, 1) := by decide +kernel
theorem dX4_init_28 : decode cX4_init 28 = .ok (.getfield 10, 3) := by decide +kernel
theorem dX4_init_31 : decode cX4_init 31 = .ok (.getfield 23, 3) := by decide +kernel
theorem dX4_init_34 : decode cX4_init 34 = .ok (.putfield 27, 3) := by decide +kernel
theorem dX4_init_37 : decode cX4_init 37 = .ok (.aload_n 0, 1) := by decide +kernel
theorem dX4_init_38 : decode cX4_init 38 = .ok (.new 28, 3) := by decide +kernel
theorem dX4_init_41 : decode cX4_init 41 = .ok (.dup, 1) := by decide +kernel
theorem dX4_init_42 : decode cX4_init 42 = .ok (.invokespecial 30, 3) := by decide +kernel
theorem dX4_init_45 : decode cX4_init 45 = .ok (.putfield 31, 3) := by decide +kernel
theorem dX4_init_48 : decode cX4_init 48 = .ok (.aload_n 0, 1) := by decide +kernel
theorem dX4_init_49 : decode cX4_init 49 = .ok (.new 28, 3) := by decide +kernel
theorem dX4_init_52 : decode cX4_init 52 = .ok (.dup, 1) := by decide +kernel
theorem dX4_init_53 : decode cX4_init 53 = .ok (.invokespecial 30, 3) := by decide +kernel
theorem dX4_init_56 : decode cX4_init 56 = .ok (.putfield 34, 3) := by decide +kernel
theorem dX4_init_59 : decode cX4_init 59 = .ok (.aload_n 0, 1) := by decide +kernel
theorem dX4_init_60 : decode cX4_init 60 = .ok (.new 37, 3) := by decide +kernel
theorem dX4_init_63 : decode cX4_init 63 = .ok (.dup, 1) := by decide +kernel
theorem dX4_init_64 : decode cX4_init 64 = .ok (.invokespecial 39, 3) := by decide +kernel
theorem dX4_init_67 : decode cX4_init 67 = .ok (.putfield 40, 3) := by decide +kernel
theorem dX4_init_70 : decode cX4_init 70 = .ok (.aload_n 0, 1) := by decide +kernel
theorem dX4_init_71 : decode cX4_init 71 = .ok (.bipush 10, 2) := by decide +kernel
theorem dX4_init_73 : decode cX4_init 73 = .ok (.newarray .int, 2) := by decide +kernel
theorem dX4_init_75 : decode cX4_init 75 = .ok (.putfield 44, 3) := by decide +kernel
theorem dX4_init_78 : decode cX4_init 78 = .ok (.aload_n 0, 1) := by decide +kernel
theorem dX4_init_79 : decode cX4_init 79 = .ok (.iconst 5, 1) := by decide +kernel
theorem dX4_init_80 : decode cX4_init 80 = .ok (.newarray .int, 2) := by decide +kernel
theorem dX4_init_82 : decode cX4_init 82 = .ok (.putfield 48, 3) := by decide +kernel
theorem dX4_init_85 : decode cX4_init 85 = .ok (.aload_n 0, 1) := by decide +kernel
theorem dX4_init_86 : decode cX4_init 86 = .ok (.iconst 5, 1) := by decide +kernel
theorem dX4_init_87 : decode cX4_init 87 = .ok (.newarray .int, 2) := by decide +kernel
theorem dX4_init_89 : decode cX4_init 89 = .ok (.putfield 51, 3) := by decide +kernel
theorem dX4_init_92 : decode cX4_init 92 = .ok (.aload_n 0, 1) := by decide +kernel
theorem dX4_init_93 : decode cX4_init 93 = .ok (.bipush 7, 2) := by decide +kernel
theorem dX4_init_95 : decode cX4_init 95 = .ok (.newarray .int, 2) := by decide +kernel
theorem dX4_init_97 : decode cX4_init 97 = .ok (.putfield 54, 3) := by decide +kernel
theorem dX4_init_100 : decode cX4_init 100 = .ok (.aload_n 0, 1) := by decide +kernel
theorem dX4_init_101 : decode cX4_init 101 = .ok (.iconst 0, 1) := by decide +kernel
theorem dX4_init_102 : decode cX4_init 102 = .ok (.putfield 57, 3) := by decide +kernel
theorem dX4_init_105 : decode cX4_init 105 = .ok (.aload_n 0, 1) := by decide +kernel
theorem dX4_init_106 : decode cX4_init 106 = .ok (.iconst 0, 1) := by decide +kernel
theorem dX4_init_107 : decode cX4_init 107 = .ok (.putfield 61, 3) := by decide +kernel
theorem dX4_init_110 : decode cX4_init 110 = .ok (.return_, 1) := by decide +kernel
set_option maxRecDepth 20000 in
theorem ggX4_letter_X4_refuse : GoodIn wsX4_letter wsX4_refuse := goodIn_r _ [7, 8, 16, 17, 18, 19, 20, 21, 22, 23, 24, 25, 26, 27] (by decide +kernel) (by decide +kernel)
set_option maxRecDepth 20000 in
theorem gX4_letter_X4_refuse : GoodIn wsX4_letter (wsV RX4 65 RX4 yX4_refuse wsX4_refuse) := goodIn_app (goodIn_of _ (by decide +kernel)) ggX4_letter_X4_refuse
set_option maxRecDepth 20000 in
theorem ggX4_letter_X1_take : GoodIn wsX4_letter wsX1_take := goodIn_r _ [13, 14, 15, 28, 29] (by decide +kernel) (by decide +kernel)
set_option maxRecDepth 20000 in
theorem gX4_letter_X1_take : GoodIn wsX4_letter (wsV RX4 72 RX1 yX1_take wsX1_take) := goodIn_app (goodIn_of _ (by decide +kernel)) ggX4_letter_X1_take
theorem dX4_letter_0 : decode cX4_letter 0 = .ok (.iload_n 1, 1) := by decide +kernel
theorem dX4_letter_1 : decode cX4_letter 1 = .ok (.ifCond .ge 10, 3) := by decide +kernel
theorem dX4_letter_4 : decode cX4_letter 4 = .ok (.aload_n 0, 1) := by decide +kernel
theorem dX4_letter_5 : decode cX4_letter 5 = .ok (.bipush (-4), 2) := by decide +kernel
theorem dX4_letter_7 : decode cX4_letter 7 = .ok (.invokevirtual 65, 3) := by decide +kernel
theorem dX4_letter_10 : decode cX4_letter 10 = .ok (.ireturn, 1) := by decide +kernel
theorem dX4_letter_11 : decode cX4_letter 11 = .ok (.iload_n 1, 1) := by decide +kernel
theorem dX4_letter_12 : decode cX4_letter 12 = .ok (.sipush 255, 3) := by decide +kernel
theorem dX4_letter_15 : decode cX4_letter 15 = .ok (.if_icmp .gt 15, 3) := by decide +kernel
theorem dX4_letter_18 : decode cX4_letter 18 = .ok (.aload_n 0, 1) := by decide +kernel
theorem dX4_letter_19 : decode cX4_letter 19 = .ok (.getfield 40, 3) := by decide +kernel
theorem dX4_letter_22 : decode cX4_letter 22 = .ok (.getfield 69, 3) := by decide +kernel
theorem dX4_letter_25 : decode cX4_letter 25 = .ok (.bipush 96, 2) := by decide +kernel
theorem dX4_letter_27 : decode cX4_letter 27 = .ok (.if_icmp .lt 10, 3) := by decide +kernel
theorem dX4_letter_30 : decode cX4_letter 30 = .ok (.aload_n 0, 1) := by decide +kernel
theorem dX4_letter_31 : decode cX4_letter 31 = .ok (.bipush (-6), 2) := by decide +kernel
theorem dX4_letter_33 : decode cX4_letter 33 = .ok (.invokevirtual 65, 3) := by decide +kernel
theorem dX4_letter_36 : decode cX4_letter 36 = .ok (.ireturn, 1) := by decide +kernel
theorem dX4_letter_37 : decode cX4_letter 37 = .ok (.aload_n 0, 1) := by decide +kernel
theorem dX4_letter_38 : decode cX4_letter 38 = .ok (.getfield 40, 3) := by decide +kernel
theorem dX4_letter_41 : decode cX4_letter 41 = .ok (.iload_n 1, 1) := by decide +kernel
theorem dX4_letter_42 : decode cX4_letter 42 = .ok (.invokevirtual 72, 3) := by decide +kernel
theorem dX4_letter_45 : decode cX4_letter 45 = .ok (.ireturn, 1) := by decide +kernel
set_option maxRecDepth 20000 in
theorem ggX4_town_X4_tellTown : GoodIn wsX4_town wsX4_tellTown := goodIn_r _ [7, 1, 8, 9, 10, 11, 12, 13, 14, 15, 16, 17, 18, 19, 20, 21, 22, 23, 24, 25, 26, 27, 28, 29, 30, 31, 32, 33, 34, 35, 36, 37, 38, 39, 40, 41, 42, 43, 44, 45, 46, 47, 48, 49, 50, 51, 52, 53, 54, 55, 56, 57, 58, 59, 60, 61, 62, 63, 64, 65, 66, 67, 68, 69, 70, 71, 72, 73, 74, 75, 76, 77, 78, 79, 80, 81, 82, 83, 84, 85, 86, 87, 88, 89, 90, 91, 92, 93, 94, 95, 96, 97, 98, 99, 100, 101, 102, 103, 104, 105, 106, 107, 108, 109, 110, 111, 112, 113, 114, 115, 116, 117, 118, 119, 120, 121, 122, 123, 124, 125, 126, 127, 128, 129, 130, 131, 132, 133, 134, 135, 136, 137, 138, 139, 140, 141, 142, 143, 144, 145, 146, 147, 148, 149, 150, 151, 152, 153, 154, 155, 156, 157, 158, 159, 160, 161, 162, 163, 164, 165, 166, 167, 168, 169, 170, 171, 172, 173, 174, 175, 176, 177, 178, 179, 180, 181, 182, 183, 184, 185, 186, 187, 188, 189, 190, 191, 192, 193, 194, 195, 196, 197, 198, 199, 200, 201, 202, 203, 204, 205, 206, 207, 208, 209, 210, 211, 212, 213, 214, 215, 216, 217, 218, 219, 220, 221, 222, 223, 224, 225, 226, 227, 228, 229, 230, 231, 232, 233, 234, 235, 236, 237, 238, 239, 240, 241, 242, 243, 244, 245, 246, 247, 248, 249, 250, 251, 252, 253, 254, 255, 256, 257, 258, 259, 260, 261, 262, 263, 264, 265, 266, 267, 268, 269, 270, 271, 272] (by decide +kernel) (by decide +kernel)
set_option maxRecDepth 20000 in
theorem gX4_town_X4_tellTown : GoodIn wsX4_town (wsV RX4 75 RX4 yX4_tellTown wsX4_tellTown) := goodIn_app (goodIn_of _ (by decide +kernel)) ggX4_town_X4_tellTown
theorem dX4_town_0 : decode cX4_town 0 = .ok (.aload_n 0, 1) := by decide +kernel
theorem dX4_town_1 : decode cX4_town 1 = .ok (.invokevirtual 75, 3) := by decide +kernel
theorem dX4_town_4 : decode cX4_town 4 = .ok (.istore_n 1, 1) := by decide +kernel
theorem dX4_town_5 : decode cX4_town 5 = .ok (.aload_n 0, 1) := by decide +kernel
theorem dX4_town_6 : decode cX4_town 6 = .ok (.getfield 40, 3) := by decide +kernel
theorem dX4_town_9 : decode cX4_town 9 = .ok (.iconst 0, 1) := by decide +kernel
theorem dX4_town_10 : decode cX4_town 10 = .ok (.putfield 69, 3) := by decide +kernel
theorem dX4_town_13 : decode cX4_town 13 = .ok (.iload_n 1, 1) := by decide +kernel
theorem dX4_town_14 : decode cX4_town 14 = .ok (.ireturn, 1) := by decide +kernel
set_option maxRecDepth 20000 in
theorem ggX4_place_X4_isPlace : GoodIn wsX4_place wsX4_isPlace := goodIn_r _ [9, 1, 10, 43, 44, 45, 46, 47, 48, 49, 50, 51, 52, 53, 54, 55, 56, 57, 58, 59, 60, 61, 62, 63, 64, 65, 66, 67, 68, 69, 70, 71] (by decide +kernel) (by decide +kernel)
set_option maxRecDepth 20000 in
theorem gX4_place_X4_isPlace : GoodIn wsX4_place (wsV RX4 79 RX4 yX4_isPlace wsX4_isPlace) := goodIn_app (goodIn_of _ (by decide +kernel)) ggX4_place_X4_isPlace
set_option maxRecDepth 20000 in
theorem ggX4_place_X4_refuse : GoodIn wsX4_place wsX4_refuse := goodIn_r _ [14, 15, 43, 44, 45, 46, 47, 48, 49, 50, 51, 52, 53, 54] (by decide +kernel) (by decide +kernel)
set_option maxRecDepth 20000 in
theorem gX4_place_X4_refuse : GoodIn wsX4_place (wsV RX4 65 RX4 yX4_refuse wsX4_refuse) := goodIn_app (goodIn_of _ (by decide +kernel)) ggX4_place_X4_refuse
set_option maxRecDepth 20000 in
theorem ggX4_place_X2_startsAt : GoodIn wsX4_place wsX2_startsAt := goodIn_r _ [20, 21, 22, 23, 24, 19, 25, 26, 27, 28, 29, 30, 31, 32, 33, 34, 55, 56, 57, 58, 59, 60, 61, 62, 63, 64, 65, 66, 67, 68, 69, 70, 71] (by decide +kernel) (by decide +kernel)
set_option maxRecDepth 20000 in
theorem gX4_place_X2_startsAt : GoodIn wsX4_place (wsV RX4 92 RX2 yX2_startsAt wsX2_startsAt) := goodIn_app (goodIn_of _ (by decide +kernel)) ggX4_place_X2_startsAt
set_option maxRecDepth 20000 in
theorem ggX4_place_X2_pushedAt : GoodIn wsX4_place wsX2_pushedAt := goodIn_r _ [38, 21, 39, 40, 41, 19, 42, 27, 28, 29, 30, 22, 23, 24, 25, 26, 31, 32, 33, 34, 55, 56, 57, 58, 59, 60, 61, 62, 63, 64, 65, 66, 67, 68, 69, 70, 71] (by decide +kernel) (by decide +kernel)
set_option maxRecDepth 20000 in
theorem gX4_place_X2_pushedAt : GoodIn wsX4_place (wsV RX4 95 RX2 yX2_pushedAt wsX2_pushedAt) := goodIn_app (goodIn_of _ (by decide +kernel)) ggX4_place_X2_pushedAt
theorem dX4_place_0 : decode cX4_place 0 = .ok (.aload_n 0, 1) := by decide +kernel
theorem dX4_place_1 : decode cX4_place 1 = .ok (.iload_n 1, 1) := by decide +kernel
theorem dX4_place_2 : decode cX4_place 2 = .ok (.invokevirtual 79, 3) := by decide +kernel
theorem dX4_place_5 : decode cX4_place 5 = .ok (.ifCond .ne 9, 3) := by decide +kernel
theorem dX4_place_8 : decode cX4_place 8 = .ok (.aload_n 0, 1) := by decide +kernel
theorem dX4_place_9 : decode cX4_place 9 = .ok (.iconst (-1), 1) := by decide +kernel
theorem dX4_place_10 : decode cX4_place 10 = .ok (.invokevirtual 65, 3) := by decide +kernel
theorem dX4_place_13 : decode cX4_place 13 = .ok (.ireturn, 1) := by decide +kernel
theorem dX4_place_14 : decode cX4_place 14 = .ok (.iload_n 2, 1) := by decide +kernel
theorem dX4_place_15 : decode cX4_place 15 = .ok (.tableswitch 81 0 4 #[33, 43, 53, 63, 72], 33) := by decide +kernel
theorem dX4_place_48 : decode cX4_place 48 = .ok (.aload_n 0, 1) := by decide +kernel
theorem dX4_place_49 : decode cX4_place 49 = .ok (.getfield 20, 3) := by decide +kernel
theorem dX4_place_52 : decode cX4_place 52 = .ok (.getfield 83, 3) := by decide +kernel
theorem dX4_place_55 : decode cX4_place 55 = .ok (.iload_n 1, 1) := by decide +kernel
theorem dX4_place_56 : decode cX4_place 56 = .ok (.iaload, 1) := by decide +kernel
theorem dX4_place_57 : decode cX4_place 57 = .ok (.ireturn, 1) := by decide +kernel
theorem dX4_place_58 : decode cX4_place 58 = .ok (.aload_n 0, 1) := by decide +kernel
theorem dX4_place_59 : decode cX4_place 59 = .ok (.getfield 20, 3) := by decide +kernel
theorem dX4_place_62 : decode cX4_place 62 = .ok (.getfield 86, 3) := by decide +kernel
theorem dX4_place_65 : decode cX4_place 65 = .ok (.iload_n 1, 1) := by decide +kernel
theorem dX4_place_66 : decode cX4_place 66 = .ok (.iaload, 1) := by decide +kernel
theorem dX4_place_67 : decode cX4_place 67 = .ok (.ireturn, 1) := by decide +kernel
theorem dX4_place_68 : decode cX4_place 68 = .ok (.aload_n 0, 1) := by decide +kernel
theorem dX4_place_69 : decode cX4_place 69 = .ok (.getfield 20, 3) := by decide +kernel
theorem dX4_place_72 : decode cX4_place 72 = .ok (.getfield 89, 3) := by decide +kernel
theorem dX4_place_75 : decode cX4_place 75 = .ok (.iload_n 1, 1) := by decide +kernel
theorem dX4_place_76 : decode cX4_place 76 = .ok (.iaload, 1) := by decide +kernel
theorem dX4_place_77 : decode cX4_place 77 = .ok (.ireturn, 1) := by decide +kernel
theorem dX4_place_78 : decode cX4_place 78 = .ok (.aload_n 0, 1) := by decide +kernel
theorem dX4_place_79 : decode cX4_place 79 = .ok (.getfield 20, 3) := by decide +kernel
theorem dX4_place_82 : decode cX4_place 82 = .ok (.iload_n 1, 1) := by decide +kernel
theorem dX4_place_83 : decode cX4_place 83 = .ok (.invokevirtual 92, 3) := by decide +kernel
theorem dX4_place_86 : decode cX4_place 86 = .ok (.ireturn, 1) := by decide +kernel
theorem dX4_place_87 : decode cX4_place 87 = .ok (.aload_n 0, 1) := by decide +kernel
theorem dX4_place_88 : decode cX4_place 88 = .ok (.getfield 20, 3) := by decide +kernel
theorem dX4_place_91 : decode cX4_place 91 = .ok (.iload_n 1, 1) := by decide +kernel
theorem dX4_place_92 : decode cX4_place 92 = .ok (.invokevirtual 95, 3) := by decide +kernel
theorem dX4_place_95 : decode cX4_place 95 = .ok (.ireturn, 1) := by decide +kernel
theorem dX4_place_96 : decode cX4_place 96 = .ok (.aload_n 0, 1) := by decide +kernel
theorem dX4_place_97 : decode cX4_place 97 = .ok (.bipush (-2), 2) := by decide +kernel
theorem dX4_place_99 : decode cX4_place 99 = .ok (.invokevirtual 65, 3) := by decide +kernel
theorem dX4_place_102 : decode cX4_place 102 = .ok (.ireturn, 1) := by decide +kernel
set_option maxRecDepth 20000 in
theorem ggX4_slope_X4_isPlace : GoodIn wsX4_slope wsX4_isPlace := goodIn_r _ [7, 1, 8, 14, 15, 16, 17, 18, 19, 20, 21, 22, 23, 24, 25, 26, 27, 28, 29, 30, 31, 32, 33, 34, 35, 36, 37, 38, 39, 40, 41, 42] (by decide +kernel) (by decide +kernel)
set_option maxRecDepth 20000 in
theorem gX4_slope_X4_isPlace : GoodIn wsX4_slope (wsV RX4 79 RX4 yX4_isPlace wsX4_isPlace) := goodIn_app (goodIn_of _ (by decide +kernel)) ggX4_slope_X4_isPlace
set_option maxRecDepth 20000 in
theorem ggX4_slope_X4_refuse : GoodIn wsX4_slope wsX4_refuse := goodIn_r _ [12, 13, 14, 15, 16, 17, 18, 19, 20, 21, 22, 23, 24, 25] (by decide +kernel) (by decide +kernel)
set_option maxRecDepth 20000 in
theorem gX4_slope_X4_refuse : GoodIn wsX4_slope (wsV RX4 65 RX4 yX4_refuse wsX4_refuse) := goodIn_app (goodIn_of _ (by decide +kernel)) ggX4_slope_X4_refuse
theorem dX4_slope_0 : decode cX4_slope 0 = .ok (.aload_n 0, 1) := by decide +kernel
theorem dX4_slope_1 : decode cX4_slope 1 = .ok (.iload_n 1, 1) := by decide +kernel
theorem dX4_slope_2 : decode cX4_slope 2 = .ok (.invokevirtual 79, 3) := by decide +kernel
theorem dX4_slope_5 : decode cX4_slope 5 = .ok (.ifCond .ne 9, 3) := by decide +kernel
theorem dX4_slope_8 : decode cX4_slope 8 = .ok (.aload_n 0, 1) := by decide +kernel
theorem dX4_slope_9 : decode cX4_slope 9 = .ok (.iconst (-1), 1) := by decide +kernel
theorem dX4_slope_10 : decode cX4_slope 10 = .ok (.invokevirtual 65, 3) := by decide +kernel
theorem dX4_slope_13 : decode cX4_slope 13 = .ok (.ireturn, 1) := by decide +kernel
theorem dX4_slope_14 : decode cX4_slope 14 = .ok (.iload_n 2, 1) := by decide +kernel
theorem dX4_slope_15 : decode cX4_slope 15 = .ok (.ifCond .ge 10, 3) := by decide +kernel
theorem dX4_slope_18 : decode cX4_slope 18 = .ok (.aload_n 0, 1) := by decide +kernel
theorem dX4_slope_19 : decode cX4_slope 19 = .ok (.bipush (-4), 2) := by decide +kernel
theorem dX4_slope_21 : decode cX4_slope 21 = .ok (.invokevirtual 65, 3) := by decide +kernel
theorem dX4_slope_24 : decode cX4_slope 24 = .ok (.ireturn, 1) := by decide +kernel
theorem dX4_slope_25 : decode cX4_slope 25 = .ok (.iload_n 2, 1) := by decide +kernel
theorem dX4_slope_26 : decode cX4_slope 26 = .ok (.bipush 9, 2) := by decide +kernel
theorem dX4_slope_28 : decode cX4_slope 28 = .ok (.if_icmp .le 10, 3) := by decide +kernel
theorem dX4_slope_31 : decode cX4_slope 31 = .ok (.aload_n 0, 1) := by decide +kernel
theorem dX4_slope_32 : decode cX4_slope 32 = .ok (.bipush (-6), 2) := by decide +kernel
theorem dX4_slope_34 : decode cX4_slope 34 = .ok (.invokevirtual 65, 3) := by decide +kernel
theorem dX4_slope_37 : decode cX4_slope 37 = .ok (.ireturn, 1) := by decide +kernel
theorem dX4_slope_38 : decode cX4_slope 38 = .ok (.aload_n 0, 1) := by decide +kernel
theorem dX4_slope_39 : decode cX4_slope 39 = .ok (.getfield 20, 3) := by decide +kernel
theorem dX4_slope_42 : decode cX4_slope 42 = .ok (.getfield 86, 3) := by decide +kernel
theorem dX4_slope_45 : decode cX4_slope 45 = .ok (.iload_n 1, 1) := by decide +kernel
theorem dX4_slope_46 : decode cX4_slope 46 = .ok (.iaload, 1) := by decide +kernel
theorem dX4_slope_47 : decode cX4_slope 47 = .ok (.istore_n 3, 1) := by decide +kernel
theorem dX4_slope_48 : decode cX4_slope 48 = .ok (.aload_n 0, 1) := by decide +kernel
theorem dX4_slope_49 : decode cX4_slope 49 = .ok (.getfield 20, 3) := by decide +kernel
theorem dX4_slope_52 : decode cX4_slope 52 = .ok (.getfield 86, 3) := by decide +kernel
theorem dX4_slope_55 : decode cX4_slope 55 = .ok (.iload_n 1, 1) := by decide +kernel
theorem dX4_slope_56 : decode cX4_slope 56 = .ok (.iload_n 2, 1) := by decide +kernel
theorem dX4_slope_57 : decode cX4_slope 57 = .ok (.iastore, 1) := by decide +kernel
theorem dX4_slope_58 : decode cX4_slope 58 = .ok (.iload_n 3, 1) := by decide +kernel
theorem dX4_slope_59 : decode cX4_slope 59 = .ok (.ireturn, 1) := by decide +kernel
set_option maxRecDepth 20000 in
theorem ggX4_errand_X4_refuse : GoodIn wsX4_errand wsX4_refuse := goodIn_r _ [11, 12, 13, 14, 15, 16, 17, 18, 19, 20, 21, 22, 23, 24] (by decide +kernel) (by decide +kernel)
set_option maxRecDepth 20000 in
theorem gX4_errand_X4_refuse : GoodIn wsX4_errand (wsV RX4 65 RX4 yX4_refuse wsX4_refuse) := goodIn_app (goodIn_of _ (by decide +kernel)) ggX4_errand_X4_refuse
theorem dX4_errand_0 : decode cX4_errand 0 = .ok (.iload_n 1, 1) := by decide +kernel
theorem dX4_errand_1 : decode cX4_errand 1 = .ok (.ifCond .lt 14, 3) := by decide +kernel
theorem dX4_errand_4 : decode cX4_errand 4 = .ok (.iload_n 1, 1) := by decide +kernel
theorem dX4_errand_5 : decode cX4_errand 5 = .ok (.aload_n 0, 1) := by decide +kernel
theorem dX4_errand_6 : decode cX4_errand 6 = .ok (.getfield 20, 3) := by decide +kernel
theorem dX4_errand_9 : decode cX4_errand 9 = .ok (.getfield 98, 3) := by decide +kernel
theorem dX4_errand_12 : decode cX4_errand 12 = .ok (.if_icmp .lt 9, 3) := by decide +kernel
theorem dX4_errand_15 : decode cX4_errand 15 = .ok (.aload_n 0, 1) := by decide +kernel
theorem dX4_errand_16 : decode cX4_errand 16 = .ok (.iconst (-1), 1) := by decide +kernel
theorem dX4_errand_17 : decode cX4_errand 17 = .ok (.invokevirtual 65, 3) := by decide +kernel
theorem dX4_errand_20 : decode cX4_errand 20 = .ok (.ireturn, 1) := by decide +kernel
theorem dX4_errand_21 : decode cX4_errand 21 = .ok (.iload_n 2, 1) := by decide +kernel
theorem dX4_errand_22 : decode cX4_errand 22 = .ok (.tableswitch 70 0 3 #[30, 40, 50, 60], 30) := by decide +kernel
theorem dX4_errand_52 : decode cX4_errand 52 = .ok (.aload_n 0, 1) := by decide +kernel
theorem dX4_errand_53 : decode cX4_errand 53 = .ok (.getfield 20, 3) := by decide +kernel
theorem dX4_errand_56 : decode cX4_errand 56 = .ok (.getfield 101, 3) := by decide +kernel
theorem dX4_errand_59 : decode cX4_errand 59 = .ok (.iload_n 1, 1) := by decide +kernel
theorem dX4_errand_60 : decode cX4_errand 60 = .ok (.iaload, 1) := by decide +kernel
theorem dX4_errand_61 : decode cX4_errand 61 = .ok (.ireturn, 1) := by decide +kernel
theorem dX4_errand_62 : decode cX4_errand 62 = .ok (.aload_n 0, 1) := by decide +kernel
theorem dX4_errand_63 : decode cX4_errand 63 = .ok (.getfield 20, 3) := by decide +kernel
theorem dX4_errand_66 : decode cX4_errand 66 = .ok (.getfield 104, 3) := by decide +kernel
theorem dX4_errand_69 : decode cX4_errand 69 = .ok (.iload_n 1, 1) := by decide +kernel
theorem dX4_errand_70 : decode cX4_errand 70 = .ok (.iaload, 1) := by decide +kernel
theorem dX4_errand_71 : decode cX4_errand 71 = .ok (.ireturn, 1) := by decide +kernel
theorem dX4_errand_72 : decode cX4_errand 72 = .ok (.aload_n 0, 1) := by decide +kernel
theorem dX4_errand_73 : decode cX4_errand 73 = .ok (.getfield 20, 3) := by decide +kernel
theorem dX4_errand_76 : decode cX4_errand 76 = .ok (.getfield 107, 3) := by decide +kernel
theorem dX4_errand_79 : decode cX4_errand 79 = .ok (.iload_n 1, 1) := by decide +kernel
theorem dX4_errand_80 : decode cX4_errand 80 = .ok (.iaload, 1) := by decide +kernel
theorem dX4_errand_81 : decode cX4_errand 81 = .ok (.ireturn, 1) := by decide +kernel
theorem dX4_errand_82 : decode cX4_errand 82 = .ok (.aload_n 0, 1) := by decide +kernel
theorem dX4_errand_83 : decode cX4_errand 83 = .ok (.getfield 20, 3) := by decide +kernel
theorem dX4_errand_86 : decode cX4_errand 86 = .ok (.getfield 110, 3) := by decide +kernel
theorem dX4_errand_89 : decode cX4_errand 89 = .ok (.iload_n 1, 1) := by decide +kernel
theorem dX4_errand_90 : decode cX4_errand 90 = .ok (.iaload, 1) := by decide +kernel
theorem dX4_errand_91 : decode cX4_errand 91 = .ok (.ireturn, 1) := by decide +kernel
theorem dX4_errand_92 : decode cX4_errand 92 = .ok (.aload_n 0, 1) := by decide +kernel
theorem dX4_errand_93 : decode cX4_errand 93 = .ok (.bipush (-2), 2) := by decide +kernel
theorem dX4_errand_95 : decode cX4_errand 95 = .ok (.invokevirtual 65, 3) := by decide +kernel
theorem dX4_errand_98 : decode cX4_errand 98 = .ok (.ireturn, 1) := by decide +kernel
set_option maxRecDepth 20000 in
theorem ggX4_set_X4_refuse : GoodIn wsX4_set wsX4_refuse := goodIn_r _ [9, 10, 18, 19, 20, 21, 22, 23, 24, 25, 26, 27, 28, 29] (by decide +kernel) (by decide +kernel)
set_option maxRecDepth 20000 in
theorem gX4_set_X4_refuse : GoodIn wsX4_set (wsV RX4 65 RX4 yX4_refuse wsX4_refuse) := goodIn_app (goodIn_of _ (by decide +kernel)) ggX4_set_X4_refuse
set_option maxRecDepth 20000 in
theorem ggX4_set_X4_mostOfSetting : GoodIn wsX4_set wsX4_mostOfSetting := goodIn_r _ [13] (by decide +kernel) (by decide +kernel)
set_option maxRecDepth 20000 in
theorem gX4_set_X4_mostOfSetting : GoodIn wsX4_set (va_wsS RX4 113 yX4_mostOfSetting wsX4_mostOfSetting) := goodIn_app (goodIn_of _ (by decide +kernel)) ggX4_set_X4_mostOfSetting
set_option maxRecDepth 20000 in
theorem ggX4_set_X4_settingOf : GoodIn wsX4_set wsX4_settingOf := goodIn_r _ [17, 1, 2, 3, 4, 18, 19, 20, 21, 22, 23, 24, 25, 26, 27, 28, 29, 30, 31, 32, 33, 34, 35, 36, 37, 38, 39, 40, 41, 42, 43, 44, 45, 46] (by decide +kernel) (by decide +kernel)
set_option maxRecDepth 20000 in
theorem gX4_set_X4_settingOf : GoodIn wsX4_set (wsV RX4 116 RX4 yX4_settingOf wsX4_settingOf) := goodIn_app (goodIn_of _ (by decide +kernel)) ggX4_set_X4_settingOf
theorem dX4_set_0 : decode cX4_set 0 = .ok (.iload_n 1, 1) := by decide +kernel
theorem dX4_set_1 : decode cX4_set 1 = .ok (.ifCond .lt 8, 3) := by decide +kernel
theorem dX4_set_4 : decode cX4_set 4 = .ok (.iload_n 1, 1) := by decide +kernel
theorem dX4_set_5 : decode cX4_set 5 = .ok (.iconst 2, 1) := by decide +kernel
theorem dX4_set_6 : decode cX4_set 6 = .ok (.if_icmp .le 10, 3) := by decide +kernel
theorem dX4_set_9 : decode cX4_set 9 = .ok (.aload_n 0, 1) := by decide +kernel
theorem dX4_set_10 : decode cX4_set 10 = .ok (.bipush (-2), 2) := by decide +kernel
theorem dX4_set_12 : decode cX4_set 12 = .ok (.invokevirtual 65, 3) := by decide +kernel
theorem dX4_set_15 : decode cX4_set 15 = .ok (.ireturn, 1) := by decide +kernel
theorem dX4_set_16 : decode cX4_set 16 = .ok (.iload_n 2, 1) := by decide +kernel
theorem dX4_set_17 : decode cX4_set 17 = .ok (.ifCond .ge 10, 3) := by decide +kernel
theorem dX4_set_20 : decode cX4_set 20 = .ok (.aload_n 0, 1) := by decide +kernel
theorem dX4_set_21 : decode cX4_set 21 = .ok (.bipush (-4), 2) := by decide +kernel
theorem dX4_set_23 : decode cX4_set 23 = .ok (.invokevirtual 65, 3) := by decide +kernel
theorem dX4_set_26 : decode cX4_set 26 = .ok (.ireturn, 1) := by decide +kernel
theorem dX4_set_27 : decode cX4_set 27 = .ok (.iload_n 2, 1) := by decide +kernel
theorem dX4_set_28 : decode cX4_set 28 = .ok (.iload_n 1, 1) := by decide +kernel
theorem dX4_set_29 : decode cX4_set 29 = .ok (.invokestatic 113, 3) := by decide +kernel
theorem dX4_set_32 : decode cX4_set 32 = .ok (.if_icmp .le 10, 3) := by decide +kernel
theorem dX4_set_35 : decode cX4_set 35 = .ok (.aload_n 0, 1) := by decide +kernel
theorem dX4_set_36 : decode cX4_set 36 = .ok (.bipush (-6), 2) := by decide +kernel
theorem dX4_set_38 : decode cX4_set 38 = .ok (.invokevirtual 65, 3) := by decide +kernel
theorem dX4_set_41 : decode cX4_set 41 = .ok (.ireturn, 1) := by decide +kernel
theorem dX4_set_42 : decode cX4_set 42 = .ok (.aload_n 0, 1) := by decide +kernel
theorem dX4_set_43 : decode cX4_set 43 = .ok (.iload_n 1, 1) := by decide +kernel
theorem dX4_set_44 : decode cX4_set 44 = .ok (.invokevirtual 116, 3) := by decide +kernel
theorem dX4_set_47 : decode cX4_set 47 = .ok (.istore_n 3, 1) := by decide +kernel
theorem dX4_set_48 : decode cX4_set 48 = .ok (.iload_n 1, 1) := by decide +kernel
theorem dX4_set_49 : decode cX4_set 49 = .ok (.ifCond .ne 14, 3) := by decide +kernel
theorem dX4_set_52 : decode cX4_set 52 = .ok (.aload_n 0, 1) := by decide +kernel
theorem dX4_set_53 : decode cX4_set 53 = .ok (.getfield 20, 3) := by decide +kernel
theorem dX4_set_56 : decode cX4_set 56 = .ok (.iload_n 2, 1) := by decide +kernel
theorem dX4_set_57 : decode cX4_set 57 = .ok (.putfield 119, 3) := by decide +kernel
theorem dX4_set_60 : decode cX4_set 60 = .ok (.goto 27, 3) := by decide +kernel
theorem dX4_set_63 : decode cX4_set 63 = .ok (.iload_n 1, 1) := by decide +kernel
theorem dX4_set_64 : decode cX4_set 64 = .ok (.iconst 1, 1) := by decide +kernel
theorem dX4_set_65 : decode cX4_set 65 = .ok (.if_icmp .ne 14, 3) := by decide +kernel
theorem dX4_set_68 : decode cX4_set 68 = .ok (.aload_n 0, 1) := by decide +kernel
theorem dX4_set_69 : decode cX4_set 69 = .ok (.getfield 20, 3) := by decide +kernel
theorem dX4_set_72 : decode cX4_set 72 = .ok (.iload_n 2, 1) := by decide +kernel
theorem dX4_set_73 : decode cX4_set 73 = .ok (.putfield 122, 3) := by decide +kernel
theorem dX4_set_76 : decode cX4_set 76 = .ok (.goto 11, 3) := by decide +kernel
theorem dX4_set_79 : decode cX4_set 79 = .ok (.aload_n 0, 1) := by decide +kernel
theorem dX4_set_80 : decode cX4_set 80 = .ok (.getfield 20, 3) := by decide +kernel
theorem dX4_set_83 : decode cX4_set 83 = .ok (.iload_n 2, 1) := by decide +kernel
theorem dX4_set_84 : decode cX4_set 84 = .ok (.putfield 125, 3) := by decide +kernel
theorem dX4_set_87 : decode cX4_set 87 = .ok (.iload_n 3, 1) := by decide +kernel
theorem dX4_set_88 : decode cX4_set 88 = .ok (.ireturn, 1) := by decide +kernel
set_option maxRecDepth 20000 in
theorem ggX4_leg_X4_between : GoodIn wsX4_leg wsX4_between := goodIn_r _ [5, 6, 7, 8, 9, 4, 10, 11, 12, 13, 14, 15, 16, 17, 18, 19, 20, 21, 22, 23, 24, 25, 26, 27, 28, 29, 30, 31, 32, 33, 34, 35, 36, 37, 38, 39, 40, 41, 42, 43, 44, 45, 46, 47, 48, 49, 50, 51, 52, 53, 54, 55, 56, 57, 58, 59, 60, 61, 62, 63, 64] (by decide +kernel) (by decide +kernel)
set_option maxRecDepth 20000 in
theorem gX4_leg_X4_between : GoodIn wsX4_leg (wsV RX4 128 RX4 yX4_between wsX4_between) := goodIn_app (goodIn_of _ (by decide +kernel)) ggX4_leg_X4_between
theorem dX4_leg_0 : decode cX4_leg 0 = .ok (.aload_n 0, 1) := by decide +kernel
theorem dX4_leg_1 : decode cX4_leg 1 = .ok (.iload_n 1, 1) := by decide +kernel
theorem dX4_leg_2 : decode cX4_leg 2 = .ok (.iload_n 2, 1) := by decide +kernel
theorem dX4_leg_3 : decode cX4_leg 3 = .ok (.iload_n 3, 1) := by decide +kernel
theorem dX4_leg_4 : decode cX4_leg 4 = .ok (.iconst 0, 1) := by decide +kernel
theorem dX4_leg_5 : decode cX4_leg 5 = .ok (.invokevirtual 128, 3) := by decide +kernel
theorem dX4_leg_8 : decode cX4_leg 8 = .ok (.ireturn, 1) := by decide +kernel
set_option maxRecDepth 20000 in
theorem ggX4_safe_X4_between : GoodIn wsX4_safe wsX4_between := goodIn_r _ [5, 6, 7, 8, 9, 4, 10, 11, 12, 13, 14, 15, 16, 17, 18, 19, 20, 21, 22, 23, 24, 25, 26, 27, 28, 29, 30, 31, 32, 33, 34, 35, 36, 37, 38, 39, 40, 41, 42, 43, 44, 45, 46, 47, 48, 49, 50, 51, 52, 53, 54, 55, 56, 57, 58, 59, 60, 61, 62, 63, 64] (by decide +kernel) (by decide +kernel)
set_option maxRecDepth 20000 in
theorem gX4_safe_X4_between : GoodIn wsX4_safe (wsV RX4 128 RX4 yX4_between wsX4_between) := goodIn_app (goodIn_of _ (by decide +kernel)) ggX4_safe_X4_between
theorem dX4_safe_0 : decode cX4_safe 0 = .ok (.aload_n 0, 1) := by decide +kernel
theorem dX4_safe_1 : decode cX4_safe 1 = .ok (.iload_n 1, 1) := by decide +kernel
theorem dX4_safe_2 : decode cX4_safe 2 = .ok (.iload_n 2, 1) := by decide +kernel
theorem dX4_safe_3 : decode cX4_safe 3 = .ok (.iload_n 3, 1) := by decide +kernel
theorem dX4_safe_4 : decode cX4_safe 4 = .ok (.iconst 1, 1) := by decide +kernel
theorem dX4_safe_5 : decode cX4_safe 5 = .ok (.invokevirtual 128, 3) := by decide +kernel
theorem dX4_safe_8 : decode cX4_safe 8 = .ok (.ireturn, 1) := by decide +kernel
set_option maxRecDepth 20000 in
theorem ggX4_day_X4_refuse : GoodIn wsX4_day wsX4_refuse := goodIn_r _ [11, 12, 121, 122, 123, 124, 125, 126, 127, 128, 129, 130, 131, 132] (by decide +kernel) (by decide +kernel)
set_option maxRecDepth 20000 in
theorem gX4_day_X4_refuse : GoodIn wsX4_day (wsV RX4 65 RX4 yX4_refuse wsX4_refuse) := goodIn_app (goodIn_of _ (by decide +kernel)) ggX4_day_X4_refuse
set_option maxRecDepth 20000 in
theorem ggX4_day_X4_goByRow : GoodIn wsX4_day wsX4_goByRow := goodIn_r _ [16, 3, 17, 18, 19, 20, 21, 22, 23, 24, 25, 26, 27, 28, 29, 30, 31, 32, 33, 34, 35, 36, 37, 38, 39, 40, 41, 42, 43, 44, 45, 46, 47, 48, 49, 50, 51, 52, 53, 54, 55, 56, 57, 10, 58, 59, 60, 1, 61, 62, 63, 64, 65, 66, 67, 68, 69, 70, 71, 72, 73, 74, 75, 76, 77, 78, 79, 80, 81, 82, 83, 84, 85, 86, 87, 88, 89, 90, 91, 92, 93, 94, 95, 96, 97, 98, 99, 100, 101, 102, 103, 104, 105, 106, 107, 108, 109, 110, 111, 112, 113, 114, 115, 116, 117, 118, 119, 120, 121, 122, 123, 124, 125, 126, 127, 128, 129, 130, 131, 132, 150, 151, 152, 153, 154, 155, 156, 157, 158, 159, 160, 161, 162, 163, 164, 133, 134, 135, 136, 137, 138, 139, 140, 141, 142, 143, 144, 145, 146, 147, 148, 149, 165, 166, 167, 168, 169] (by decide +kernel) (by decide +kernel)
set_option maxRecDepth 20000 in
theorem gX4_day_X4_goByRow : GoodIn wsX4_day (wsV RX4 135 RX4 yX4_goByRow wsX4_goByRow) := goodIn_app (goodIn_of _ (by decide +kernel)) ggX4_day_X4_goByRow
theorem dX4_day_0 : decode cX4_day 0 = .ok (.iload_n 1, 1) := by decide +kernel
theorem dX4_day_1 : decode cX4_day 1 = .ok (.ifCond .lt 8, 3) := by decide +kernel
theorem dX4_day_4 : decode cX4_day 4 = .ok (.iload_n 1, 1) := by decide +kernel
theorem dX4_day_5 : decode cX4_day 5 = .ok (.iconst 2, 1) := by decide +kernel
theorem dX4_day_6 : decode cX4_day 6 = .ok (.if_icmp .le 10, 3) := by decide +kernel
theorem dX4_day_9 : decode cX4_day 9 = .ok (.aload_n 0, 1) := by decide +kernel
theorem dX4_day_10 : decode cX4_day 10 = .ok (.bipush (-2), 2) := by decide +kernel
theorem dX4_day_12 : decode cX4_day 12 = .ok (.invokevirtual 65, 3) := by decide +kernel
theorem dX4_day_15 : decode cX4_day 15 = .ok (.ireturn, 1) := by decide +kernel
theorem dX4_day_16 : decode cX4_day 16 = .ok (.aload_n 0, 1) := by decide +kernel
theorem dX4_day_17 : decode cX4_day 17 = .ok (.getfield 20, 3) := by decide +kernel
theorem dX4_day_20 : decode cX4_day 20 = .ok (.getfield 132, 3) := by decide +kernel
theorem dX4_day_23 : decode cX4_day 23 = .ok (.ifCond .ne 10, 3) := by decide +kernel
theorem dX4_day_26 : decode cX4_day 26 = .ok (.aload_n 0, 1) := by decide +kernel
theorem dX4_day_27 : decode cX4_day 27 = .ok (.bipush (-3), 2) := by decide +kernel
theorem dX4_day_29 : decode cX4_day 29 = .ok (.invokevirtual 65, 3) := by decide +kernel
theorem dX4_day_32 : decode cX4_day 32 = .ok (.ireturn, 1) := by decide +kernel
theorem dX4_day_33 : decode cX4_day 33 = .ok (.aload_n 0, 1) := by decide +kernel
theorem dX4_day_34 : decode cX4_day 34 = .ok (.invokevirtual 135, 3) := by decide +kernel
theorem dX4_day_37 : decode cX4_day 37 = .ok (.iload_n 1, 1) := by decide +kernel
theorem dX4_day_38 : decode cX4_day 38 = .ok (.ifCond .ne 11, 3) := by decide +kernel
theorem dX4_day_41 : decode cX4_day 41 = .ok (.aload_n 0, 1) := by decide +kernel
theorem dX4_day_42 : decode cX4_day 42 = .ok (.getfield 10, 3) := by decide +kernel
theorem dX4_day_45 : decode cX4_day 45 = .ok (.getfield 138, 3) := by decide +kernel
theorem dX4_day_48 : decode cX4_day 48 = .ok (.ireturn, 1) := by decide +kernel
theorem dX4_day_49 : decode cX4_day 49 = .ok (.iload_n 1, 1) := by decide +kernel
theorem dX4_day_50 : decode cX4_day 50 = .ok (.iconst 1, 1) := by decide +kernel
theorem dX4_day_51 : decode cX4_day 51 = .ok (.if_icmp .ne 13, 3) := by decide +kernel
theorem dX4_day_54 : decode cX4_day 54 = .ok (.aload_n 0, 1) := by decide +kernel
theorem dX4_day_55 : decode cX4_day 55 = .ok (.getfield 10, 3) := by decide +kernel
theorem dX4_day_58 : decode cX4_day 58 = .ok (.getfield 141, 3) := by decide +kernel
theorem dX4_day_61 : decode cX4_day 61 = .ok (.goto 10, 3) := by decide +kernel
theorem dX4_day_64 : decode cX4_day 64 = .ok (.aload_n 0, 1) := by decide +kernel
theorem dX4_day_65 : decode cX4_day 65 = .ok (.getfield 10, 3) := by decide +kernel
theorem dX4_day_68 : decode cX4_day 68 = .ok (.getfield 144, 3) := by decide +kernel
theorem dX4_day_71 : decode cX4_day 71 = .ok (.ireturn, 1) := by decide +kernel
set_option maxRecDepth 20000 in
theorem ggX4_likely_X4_refusalOfPart : GoodIn wsX4_likely wsX4_refusalOfPart := goodIn_r _ [7, 8, 9, 134, 135, 136, 137, 138, 139, 140, 141, 142, 143, 144, 145, 161, 162, 163, 164, 165, 166, 167, 168, 169, 170, 171, 172, 173, 174, 175, 176, 177] (by decide +kernel) (by decide +kernel)
set_option maxRecDepth 20000 in
theorem gX4_likely_X4_refusalOfPart : GoodIn wsX4_likely (wsV RX4 147 RX4 yX4_refusalOfPart wsX4_refusalOfPart) := goodIn_app (goodIn_of _ (by decide +kernel)) ggX4_likely_X4_refusalOfPart
set_option maxRecDepth 20000 in
theorem ggX4_likely_X4_refuseLong : GoodIn wsX4_likely wsX4_refuseLong := goodIn_r _ [13, 14, 15, 16, 17, 6, 18, 19, 134, 135, 136, 137, 138, 139, 140, 141, 142, 143, 144, 145] (by decide +kernel) (by decide +kernel)
set_option maxRecDepth 20000 in
theorem gX4_likely_X4_refuseLong : GoodIn wsX4_likely (wsV RX4 150 RX4 yX4_refuseLong wsX4_refuseLong) := goodIn_app (goodIn_of _ (by decide +kernel)) ggX4_likely_X4_refuseLong
set_option maxRecDepth 20000 in
theorem ggX4_likely_X4_goByRow : GoodIn wsX4_likely wsX4_goByRow := goodIn_r _ [23, 1, 24, 25, 26, 27, 28, 29, 30, 31, 32, 33, 34, 35, 36, 37, 38, 39, 40, 41, 42, 43, 44, 45, 46, 47, 48, 49, 50, 51, 52, 53, 54, 55, 56, 57, 58, 59, 60, 61, 62, 63, 64, 6, 65, 66, 67, 8, 68, 69, 70, 71, 72, 73, 74, 75, 76, 77, 78, 79, 80, 81, 82, 83, 84, 85, 86, 87, 88, 89, 90, 91, 92, 93, 94, 95, 96, 97, 98, 99, 100, 101, 102, 103, 104, 105, 106, 107, 108, 109, 110, 111, 112, 113, 114, 115, 116, 117, 118, 119, 120, 121, 122, 123, 124, 125, 126, 127, 134, 135, 136, 137, 138, 139, 140, 141, 142, 143, 144, 145, 146, 147, 148, 149, 150, 151, 152, 153, 154, 155, 156, 157, 158, 159, 160, 161, 162, 163, 164, 165, 166, 167, 168, 169, 170, 171, 172, 173, 174, 175, 176, 177, 178, 179, 180, 181, 182] (by decide +kernel) (by decide +kernel)
set_option maxRecDepth 20000 in
theorem gX4_likely_X4_goByRow : GoodIn wsX4_likely (wsV RX4 135 RX4 yX4_goByRow wsX4_goByRow) := goodIn_app (goodIn_of _ (by decide +kernel)) ggX4_likely_X4_goByRow
set_option maxRecDepth 20000 in
theorem ggX4_likely_X4_partOf : GoodIn wsX4_likely wsX4_partOf := goodIn_r _ [130, 131, 132, 133] (by decide +kernel) (by decide +kernel)
set_option maxRecDepth 20000 in
theorem gX4_likely_X4_partOf : GoodIn wsX4_likely (va_wsS RX4 158 yX4_partOf wsX4_partOf) := goodIn_app (goodIn_of _ (by decide +kernel)) ggX4_likely_X4_partOf
theorem dX4_likely_0 : decode cX4_likely 0 = .ok (.aload_n 0, 1) := by decide +kernel
theorem dX4_likely_1 : decode cX4_likely 1 = .ok (.iload_n 1, 1) := by decide +kernel
theorem dX4_likely_2 : decode cX4_likely 2 = .ok (.invokevirtual 147, 3) := by decide +kernel
theorem dX4_likely_5 : decode cX4_likely 5 = .ok (.istore_n 2, 1) := by decide +kernel
theorem dX4_likely_6 : decode cX4_likely 6 = .ok (.iload_n 2, 1) := by decide +kernel
theorem dX4_likely_7 : decode cX4_likely 7 = .ok (.ifCond .ge 9, 3) := by decide +kernel
theorem dX4_likely_10 : decode cX4_likely 10 = .ok (.aload_n 0, 1) := by decide +kernel
theorem dX4_likely_11 : decode cX4_likely 11 = .ok (.iload_n 2, 1) := by decide +kernel
theorem dX4_likely_12 : decode cX4_likely 12 = .ok (.invokevirtual 150, 3) := by decide +kernel
theorem dX4_likely_15 : decode cX4_likely 15 = .ok (.lreturn, 1) := by decide +kernel
theorem dX4_likely_16 : decode cX4_likely 16 = .ok (.aload_n 0, 1) := by decide +kernel
theorem dX4_likely_17 : decode cX4_likely 17 = .ok (.invokevirtual 135, 3) := by decide +kernel
theorem dX4_likely_20 : decode cX4_likely 20 = .ok (.aload_n 0, 1) := by decide +kernel
theorem dX4_likely_21 : decode cX4_likely 21 = .ok (.getfield 10, 3) := by decide +kernel
theorem dX4_likely_24 : decode cX4_likely 24 = .ok (.getfield 154, 3) := by decide +kernel
theorem dX4_likely_27 : decode cX4_likely 27 = .ok (.iload_n 1, 1) := by decide +kernel
theorem dX4_likely_28 : decode cX4_likely 28 = .ok (.invokestatic 158, 3) := by decide +kernel
theorem dX4_likely_31 : decode cX4_likely 31 = .ok (.lreturn, 1) := by decide +kernel
set_option maxRecDepth 20000 in
theorem ggX4_worth_X4_refusalOfPart : GoodIn wsX4_worth wsX4_refusalOfPart := goodIn_r _ [7, 8, 9, 134, 135, 136, 137, 138, 139, 140, 141, 142, 143, 144, 145, 161, 162, 163, 164, 165, 166, 167, 168, 169, 170, 171, 172, 173, 174, 175, 176, 177] (by decide +kernel) (by decide +kernel)
set_option maxRecDepth 20000 in
theorem gX4_worth_X4_refusalOfPart : GoodIn wsX4_worth (wsV RX4 147 RX4 yX4_refusalOfPart wsX4_refusalOfPart) := goodIn_app (goodIn_of _ (by decide +kernel)) ggX4_worth_X4_refusalOfPart
set_option maxRecDepth 20000 in
theorem ggX4_worth_X4_refuseLong : GoodIn wsX4_worth wsX4_refuseLong := goodIn_r _ [13, 14, 15, 16, 17, 6, 18, 19, 134, 135, 136, 137, 138, 139, 140, 141, 142, 143, 144, 145] (by decide +kernel) (by decide +kernel)
set_option maxRecDepth 20000 in
theorem gX4_worth_X4_refuseLong : GoodIn wsX4_worth (wsV RX4 150 RX4 yX4_refuseLong wsX4_refuseLong) := goodIn_app (goodIn_of _ (by decide +kernel)) ggX4_worth_X4_refuseLong
set_option maxRecDepth 20000 in
theorem ggX4_worth_X4_goByRow : GoodIn wsX4_worth wsX4_goByRow := goodIn_r _ [23, 1, 24, 25, 26, 27, 28, 29, 30, 31, 32, 33, 34, 35, 36, 37, 38, 39, 40, 41, 42, 43, 44, 45, 46, 47, 48, 49, 50, 51, 52, 53, 54, 55, 56, 57, 58, 59, 60, 61, 62, 63, 64, 6, 65, 66, 67, 8, 68, 69, 70, 71, 72, 73, 74, 75, 76, 77, 78, 79, 80, 81, 82, 83, 84, 85, 86, 87, 88, 89, 90, 91, 92, 93, 94, 95, 96, 97, 98, 99, 100, 101, 102, 103, 104, 105, 106, 107, 108, 109, 110, 111, 112, 113, 114, 115, 116, 117, 118, 119, 120, 121, 122, 123, 124, 125, 126, 127, 134, 135, 136, 137, 138, 139, 140, 141, 142, 143, 144, 145, 146, 147, 148, 149, 150, 151, 152, 153, 154, 155, 156, 157, 158, 159, 160, 161, 162, 163, 164, 165, 166, 167, 168, 169, 170, 171, 172, 173, 174, 175, 176, 177, 178, 179, 180, 181, 182] (by decide +kernel) (by decide +kernel)
set_option maxRecDepth 20000 in
theorem gX4_worth_X4_goByRow : GoodIn wsX4_worth (wsV RX4 135 RX4 yX4_goByRow wsX4_goByRow) := goodIn_app (goodIn_of _ (by decide +kernel)) ggX4_worth_X4_goByRow
set_option maxRecDepth 20000 in
theorem ggX4_worth_X4_partOf : GoodIn wsX4_worth wsX4_partOf := goodIn_r _ [130, 131, 132, 133] (by decide +kernel) (by decide +kernel)
set_option maxRecDepth 20000 in
theorem gX4_worth_X4_partOf : GoodIn wsX4_worth (va_wsS RX4 158 yX4_partOf wsX4_partOf) := goodIn_app (goodIn_of _ (by decide +kernel)) ggX4_worth_X4_partOf
theorem dX4_worth_0 : decode cX4_worth 0 = .ok (.aload_n 0, 1) := by decide +kernel
theorem dX4_worth_1 : decode cX4_worth 1 = .ok (.iload_n 1, 1) := by decide +kernel
theorem dX4_worth_2 : decode cX4_worth 2 = .ok (.invokevirtual 147, 3) := by decide +kernel
theorem dX4_worth_5 : decode cX4_worth 5 = .ok (.istore_n 2, 1) := by decide +kernel
theorem dX4_worth_6 : decode cX4_worth 6 = .ok (.iload_n 2, 1) := by decide +kernel
theorem dX4_worth_7 : decode cX4_worth 7 = .ok (.ifCond .ge 9, 3) := by decide +kernel
theorem dX4_worth_10 : decode cX4_worth 10 = .ok (.aload_n 0, 1) := by decide +kernel
theorem dX4_worth_11 : decode cX4_worth 11 = .ok (.iload_n 2, 1) := by decide +kernel
theorem dX4_worth_12 : decode cX4_worth 12 = .ok (.invokevirtual 150, 3) := by decide +kernel
theorem dX4_worth_15 : decode cX4_worth 15 = .ok (.lreturn, 1) := by decide +kernel
theorem dX4_worth_16 : decode cX4_worth 16 = .ok (.aload_n 0, 1) := by decide +kernel
theorem dX4_worth_17 : decode cX4_worth 17 = .ok (.invokevirtual 135, 3) := by decide +kernel
theorem dX4_worth_20 : decode cX4_worth 20 = .ok (.aload_n 0, 1) := by decide +kernel
theorem dX4_worth_21 : decode cX4_worth 21 = .ok (.getfield 10, 3) := by decide +kernel
theorem dX4_worth_24 : decode cX4_worth 24 = .ok (.getfield 162, 3) := by decide +kernel
theorem dX4_worth_27 : decode cX4_worth 27 = .ok (.iload_n 1, 1) := by decide +kernel
theorem dX4_worth_28 : decode cX4_worth 28 = .ok (.invokestatic 158, 3) := by decide +kernel
theorem dX4_worth_31 : decode cX4_worth 31 = .ok (.lreturn, 1) := by decide +kernel
set_option maxRecDepth 20000 in
theorem ggX4_best_X4_refusalOfBest : GoodIn wsX4_best wsX4_refusalOfBest := goodIn_r _ [8, 1, 9, 136, 137, 138, 139, 140, 141, 142, 143, 144, 145, 146, 147, 148, 149, 150, 151, 152, 153, 154, 155, 156, 157, 158, 159, 160, 161, 162, 163, 164] (by decide +kernel) (by decide +kernel)
set_option maxRecDepth 20000 in
theorem gX4_best_X4_refusalOfBest : GoodIn wsX4_best (wsV RX4 165 RX4 yX4_refusalOfBest wsX4_refusalOfBest) := goodIn_app (goodIn_of _ (by decide +kernel)) ggX4_best_X4_refusalOfBest
set_option maxRecDepth 20000 in
theorem ggX4_best_X4_refuse : GoodIn wsX4_best wsX4_refuse := goodIn_r _ [13, 14, 136, 137, 138, 139, 140, 141, 142, 143, 144, 145, 146, 147] (by decide +kernel) (by decide +kernel)
set_option maxRecDepth 20000 in
theorem gX4_best_X4_refuse : GoodIn wsX4_best (wsV RX4 65 RX4 yX4_refuse wsX4_refuse) := goodIn_app (goodIn_of _ (by decide +kernel)) ggX4_best_X4_refuse
set_option maxRecDepth 20000 in
theorem ggX4_best_X4_goByBest : GoodIn wsX4_best wsX4_goByBest := goodIn_r _ [18, 1, 2, 19, 20, 3, 21, 22, 23, 24, 25, 26, 27, 28, 29, 30, 31, 32, 33, 34, 35, 36, 37, 38, 39, 40, 41, 42, 43, 44, 45, 46, 47, 48, 49, 50, 51, 52, 53, 54, 55, 56, 57, 58, 59, 60, 61, 62, 63, 64, 65, 66, 67, 68, 69, 70, 71, 72, 73, 74, 75, 76, 77, 78, 79, 80, 81, 82, 83, 84, 85, 86, 87, 88, 89, 90, 91, 92, 93, 94, 95, 96, 97, 98, 99, 100, 101, 102, 103, 104, 105, 106, 107, 108, 109, 110, 111, 112, 113, 114, 115, 116, 117, 118, 119, 120, 121, 122, 123, 7, 124, 125, 126, 127, 128, 129, 130, 131, 132, 133, 134, 135, 136, 137, 138, 139, 140, 141, 142, 143, 144, 145, 146, 147, 148, 149, 150, 151, 152, 153, 154, 155, 156, 157, 158, 159, 160, 161, 162, 163, 164, 165, 166, 167, 168, 169, 170, 171, 172, 173, 174, 175, 176, 177, 178, 179, 180, 181, 182, 183, 184] (by decide +kernel) (by decide +kernel)
set_option maxRecDepth 20000 in
theorem gX4_best_X4_goByBest : GoodIn wsX4_best (wsV RX4 168 RX4 yX4_goByBest wsX4_goByBest) := goodIn_app (goodIn_of _ (by decide +kernel)) ggX4_best_X4_goByBest
theorem dX4_best_0 : decode cX4_best 0 = .ok (.aload_n 0, 1) := by decide +kernel
theorem dX4_best_1 : decode cX4_best 1 = .ok (.iload_n 1, 1) := by decide +kernel
theorem dX4_best_2 : decode cX4_best 2 = .ok (.invokevirtual 165, 3) := by decide +kernel
theorem dX4_best_5 : decode cX4_best 5 = .ok (.istore_n 3, 1) := by decide +kernel
theorem dX4_best_6 : decode cX4_best 6 = .ok (.iload_n 3, 1) := by decide +kernel
theorem dX4_best_7 : decode cX4_best 7 = .ok (.ifCond .ge 9, 3) := by decide +kernel
theorem dX4_best_10 : decode cX4_best 10 = .ok (.aload_n 0, 1) := by decide +kernel
theorem dX4_best_11 : decode cX4_best 11 = .ok (.iload_n 3, 1) := by decide +kernel
theorem dX4_best_12 : decode cX4_best 12 = .ok (.invokevirtual 65, 3) := by decide +kernel
theorem dX4_best_15 : decode cX4_best 15 = .ok (.ireturn, 1) := by decide +kernel
theorem dX4_best_16 : decode cX4_best 16 = .ok (.iload_n 2, 1) := by decide +kernel
theorem dX4_best_17 : decode cX4_best 17 = .ok (.ifCond .lt 14, 3) := by decide +kernel
theorem dX4_best_20 : decode cX4_best 20 = .ok (.iload_n 2, 1) := by decide +kernel
theorem dX4_best_21 : decode cX4_best 21 = .ok (.aload_n 0, 1) := by decide +kernel
theorem dX4_best_22 : decode cX4_best 22 = .ok (.getfield 20, 3) := by decide +kernel
theorem dX4_best_25 : decode cX4_best 25 = .ok (.getfield 98, 3) := by decide +kernel
theorem dX4_best_28 : decode cX4_best 28 = .ok (.if_icmp .lt 9, 3) := by decide +kernel
theorem dX4_best_31 : decode cX4_best 31 = .ok (.aload_n 0, 1) := by decide +kernel
theorem dX4_best_32 : decode cX4_best 32 = .ok (.iconst (-1), 1) := by decide +kernel
theorem dX4_best_33 : decode cX4_best 33 = .ok (.invokevirtual 65, 3) := by decide +kernel
theorem dX4_best_36 : decode cX4_best 36 = .ok (.ireturn, 1) := by decide +kernel
theorem dX4_best_37 : decode cX4_best 37 = .ok (.aload_n 0, 1) := by decide +kernel
theorem dX4_best_38 : decode cX4_best 38 = .ok (.iload_n 1, 1) := by decide +kernel
theorem dX4_best_39 : decode cX4_best 39 = .ok (.invokevirtual 168, 3) := by decide +kernel
theorem dX4_best_42 : decode cX4_best 42 = .ok (.aload_n 0, 1) := by decide +kernel
theorem dX4_best_43 : decode cX4_best 43 = .ok (.getfield 51, 3) := by decide +kernel
theorem dX4_best_46 : decode cX4_best 46 = .ok (.iload_n 2, 1) := by decide +kernel
theorem dX4_best_47 : decode cX4_best 47 = .ok (.iaload, 1) := by decide +kernel
theorem dX4_best_48 : decode cX4_best 48 = .ok (.ireturn, 1) := by decide +kernel
set_option maxRecDepth 20000 in
theorem ggX4_bestMinutes_X4_refusalOfBest : GoodIn wsX4_bestMinutes wsX4_refusalOfBest := goodIn_r _ [7, 8, 9, 136, 137, 138, 139, 140, 141, 142, 143, 144, 145, 146, 147, 163, 164, 165, 166, 167, 168, 169, 170, 171, 172, 173, 174, 175, 176, 177, 178, 179] (by decide +kernel) (by decide +kernel)
set_option maxRecDepth 20000 in
theorem gX4_bestMinutes_X4_refusalOfBest : GoodIn wsX4_bestMinutes (wsV RX4 165 RX4 yX4_refusalOfBest wsX4_refusalOfBest) := goodIn_app (goodIn_of _ (by decide +kernel)) ggX4_bestMinutes_X4_refusalOfBest
set_option maxRecDepth 20000 in
theorem ggX4_bestMinutes_X4_refuse : GoodIn wsX4_bestMinutes wsX4_refuse := goodIn_r _ [13, 14, 136, 137, 138, 139, 140, 141, 142, 143, 144, 145, 146, 147] (by decide +kernel) (by decide +kernel)
set_option maxRecDepth 20000 in
theorem gX4_bestMinutes_X4_refuse : GoodIn wsX4_bestMinutes (wsV RX4 65 RX4 yX4_refuse wsX4_refuse) := goodIn_app (goodIn_of _ (by decide +kernel)) ggX4_bestMinutes_X4_refuse
set_option maxRecDepth 20000 in
theorem ggX4_bestMinutes_X4_goByBest : GoodIn wsX4_bestMinutes wsX4_goByBest := goodIn_r _ [18, 8, 19, 20, 1, 21, 22, 23, 24, 25, 26, 27, 28, 29, 30, 31, 32, 33, 34, 35, 36, 37, 38, 39, 40, 41, 42, 43, 44, 45, 46, 47, 48, 49, 50, 51, 52, 53, 54, 55, 56, 57, 58, 59, 60, 61, 62, 63, 64, 65, 66, 67, 68, 69, 70, 71, 72, 73, 74, 75, 76, 77, 78, 79, 80, 81, 82, 83, 84, 85, 86, 87, 88, 89, 90, 91, 92, 93, 94, 95, 96, 97, 98, 99, 100, 101, 102, 103, 104, 105, 106, 107, 108, 109, 110, 111, 112, 113, 114, 115, 116, 117, 118, 119, 120, 121, 122, 123, 124, 6, 125, 2, 126, 127, 128, 129, 130, 131, 132, 133, 134, 135, 136, 137, 138, 139, 140, 141, 142, 143, 144, 145, 146, 147, 163, 164, 165, 166, 167, 168, 169, 170, 171, 172, 173, 174, 175, 176, 177, 178, 179, 148, 149, 150, 151, 152, 153, 154, 155, 156, 157, 158, 159, 160, 161, 162, 180, 181, 182, 183, 184] (by decide +kernel) (by decide +kernel)
set_option maxRecDepth 20000 in
theorem gX4_bestMinutes_X4_goByBest : GoodIn wsX4_bestMinutes (wsV RX4 168 RX4 yX4_goByBest wsX4_goByBest) := goodIn_app (goodIn_of _ (by decide +kernel)) ggX4_bestMinutes_X4_goByBest
theorem dX4_bestMinutes_0 : decode cX4_bestMinutes 0 = .ok (.aload_n 0, 1) := by decide +kernel
theorem dX4_bestMinutes_1 : decode cX4_bestMinutes 1 = .ok (.iload_n 1, 1) := by decide +kernel
theorem dX4_bestMinutes_2 : decode cX4_bestMinutes 2 = .ok (.invokevirtual 165, 3) := by decide +kernel
theorem dX4_bestMinutes_5 : decode cX4_bestMinutes 5 = .ok (.istore_n 2, 1) := by decide +kernel
theorem dX4_bestMinutes_6 : decode cX4_bestMinutes 6 = .ok (.iload_n 2, 1) := by decide +kernel
theorem dX4_bestMinutes_7 : decode cX4_bestMinutes 7 = .ok (.ifCond .ge 9, 3) := by decide +kernel
theorem dX4_bestMinutes_10 : decode cX4_bestMinutes 10 = .ok (.aload_n 0, 1) := by decide +kernel
theorem dX4_bestMinutes_11 : decode cX4_bestMinutes 11 = .ok (.iload_n 2, 1) := by decide +kernel
theorem dX4_bestMinutes_12 : decode cX4_bestMinutes 12 = .ok (.invokevirtual 65, 3) := by decide +kernel
theorem dX4_bestMinutes_15 : decode cX4_bestMinutes 15 = .ok (.ireturn, 1) := by decide +kernel
theorem dX4_bestMinutes_16 : decode cX4_bestMinutes 16 = .ok (.aload_n 0, 1) := by decide +kernel
theorem dX4_bestMinutes_17 : decode cX4_bestMinutes 17 = .ok (.iload_n 1, 1) := by decide +kernel
theorem dX4_bestMinutes_18 : decode cX4_bestMinutes 18 = .ok (.invokevirtual 168, 3) := by decide +kernel
theorem dX4_bestMinutes_21 : decode cX4_bestMinutes 21 = .ok (.aload_n 0, 1) := by decide +kernel
theorem dX4_bestMinutes_22 : decode cX4_bestMinutes 22 = .ok (.getfield 10, 3) := by decide +kernel
theorem dX4_bestMinutes_25 : decode cX4_bestMinutes 25 = .ok (.getfield 138, 3) := by decide +kernel
theorem dX4_bestMinutes_28 : decode cX4_bestMinutes 28 = .ok (.ireturn, 1) := by decide +kernel
set_option maxRecDepth 20000 in
theorem ggX4_bestLikely_X4_refusalOfBestPart : GoodIn wsX4_bestLikely wsX4_refusalOfBestPart := goodIn_r _ [7, 8, 9, 10, 6, 11, 12, 13, 151, 152, 153, 154, 155, 156, 157, 158, 159, 160, 161, 162, 178, 179, 180, 181, 182, 183, 184, 185, 186, 187, 188, 189, 190, 191, 192, 193, 194] (by decide +kernel) (by decide +kernel)
set_option maxRecDepth 20000 in
theorem gX4_bestLikely_X4_refusalOfBestPart : GoodIn wsX4_bestLikely (wsV RX4 172 RX4 yX4_refusalOfBestPart wsX4_refusalOfBestPart) := goodIn_app (goodIn_of _ (by decide +kernel)) ggX4_bestLikely_X4_refusalOfBestPart
set_option maxRecDepth 20000 in
theorem ggX4_bestLikely_X4_refuseLong : GoodIn wsX4_bestLikely wsX4_refuseLong := goodIn_r _ [17, 18, 19, 20, 21, 6, 22, 23, 151, 152, 153, 154, 155, 156, 157, 158, 159, 160, 161, 162] (by decide +kernel) (by decide +kernel)
set_option maxRecDepth 20000 in
theorem gX4_bestLikely_X4_refuseLong : GoodIn wsX4_bestLikely (wsV RX4 150 RX4 yX4_refuseLong wsX4_refuseLong) := goodIn_app (goodIn_of _ (by decide +kernel)) ggX4_bestLikely_X4_refuseLong
set_option maxRecDepth 20000 in
theorem ggX4_bestLikely_X4_goByBest : GoodIn wsX4_bestLikely wsX4_goByBest := goodIn_r _ [27, 12, 28, 29, 1, 30, 31, 32, 33, 34, 35, 36, 37, 38, 39, 40, 41, 42, 43, 44, 45, 46, 47, 48, 49, 50, 51, 52, 53, 54, 55, 56, 57, 58, 59, 60, 61, 62, 63, 64, 65, 66, 67, 68, 69, 70, 71, 72, 73, 74, 75, 76, 77, 78, 79, 80, 81, 82, 83, 84, 85, 86, 87, 88, 89, 90, 91, 92, 93, 94, 95, 96, 97, 98, 99, 100, 101, 102, 103, 104, 105, 106, 107, 108, 109, 110, 111, 112, 113, 114, 115, 116, 117, 118, 119, 120, 121, 122, 123, 124, 125, 126, 127, 128, 129, 130, 131, 132, 133, 6, 134, 135, 2, 136, 137, 138, 139, 140, 141, 142, 143, 144, 151, 152, 153, 154, 155, 156, 157, 158, 159, 160, 161, 162, 178, 179, 180, 181, 182, 183, 184, 185, 186, 187, 188, 189, 190, 191, 192, 193, 194, 163, 164, 165, 166, 167, 168, 169, 170, 171, 172, 173, 174, 175, 176, 177, 195, 196, 197, 198, 199] (by decide +kernel) (by decide +kernel)
set_option maxRecDepth 20000 in
theorem gX4_bestLikely_X4_goByBest : GoodIn wsX4_bestLikely (wsV RX4 168 RX4 yX4_goByBest wsX4_goByBest) := goodIn_app (goodIn_of _ (by decide +kernel)) ggX4_bestLikely_X4_goByBest
set_option maxRecDepth 20000 in
theorem ggX4_bestLikely_X4_partOf : GoodIn wsX4_bestLikely wsX4_partOf := goodIn_r _ [147, 148, 149, 150] (by decide +kernel) (by decide +kernel)
set_option maxRecDepth 20000 in
theorem gX4_bestLikely_X4_partOf : GoodIn wsX4_bestLikely (va_wsS RX4 158 yX4_partOf wsX4_partOf) := goodIn_app (goodIn_of _ (by decide +kernel)) ggX4_bestLikely_X4_partOf
theorem dX4_bestLikely_0 : decode cX4_bestLikely 0 = .ok (.aload_n 0, 1) := by decide +kernel
theorem dX4_bestLikely_1 : decode cX4_bestLikely 1 = .ok (.iload_n 1, 1) := by decide +kernel
theorem dX4_bestLikely_2 : decode cX4_bestLikely 2 = .ok (.iload_n 2, 1) := by decide +kernel
theorem dX4_bestLikely_3 : decode cX4_bestLikely 3 = .ok (.invokevirtual 172, 3) := by decide +kernel
theorem dX4_bestLikely_6 : decode cX4_bestLikely 6 = .ok (.istore_n 3, 1) := by decide +kernel
theorem dX4_bestLikely_7 : decode cX4_bestLikely 7 = .ok (.iload_n 3, 1) := by decide +kernel
theorem dX4_bestLikely_8 : decode cX4_bestLikely 8 = .ok (.ifCond .ge 9, 3) := by decide +kernel
theorem dX4_bestLikely_11 : decode cX4_bestLikely 11 = .ok (.aload_n 0, 1) := by decide +kernel
theorem dX4_bestLikely_12 : decode cX4_bestLikely 12 = .ok (.iload_n 3, 1) := by decide +kernel
theorem dX4_bestLikely_13 : decode cX4_bestLikely 13 = .ok (.invokevirtual 150, 3) := by decide +kernel
theorem dX4_bestLikely_16 : decode cX4_bestLikely 16 = .ok (.lreturn, 1) := by decide +kernel
theorem dX4_bestLikely_17 : decode cX4_bestLikely 17 = .ok (.aload_n 0, 1) := by decide +kernel
theorem dX4_bestLikely_18 : decode cX4_bestLikely 18 = .ok (.iload_n 1, 1) := by decide +kernel
theorem dX4_bestLikely_19 : decode cX4_bestLikely 19 = .ok (.invokevirtual 168, 3) := by decide +kernel
theorem dX4_bestLikely_22 : decode cX4_bestLikely 22 = .ok (.aload_n 0, 1) := by decide +kernel
theorem dX4_bestLikely_23 : decode cX4_bestLikely 23 = .ok (.getfield 10, 3) := by decide +kernel
theorem dX4_bestLikely_26 : decode cX4_bestLikely 26 = .ok (.getfield 154, 3) := by decide +kernel
theorem dX4_bestLikely_29 : decode cX4_bestLikely 29 = .ok (.iload_n 2, 1) := by decide +kernel
theorem dX4_bestLikely_30 : decode cX4_bestLikely 30 = .ok (.invokestatic 158, 3) := by decide +kernel
theorem dX4_bestLikely_33 : decode cX4_bestLikely 33 = .ok (.lreturn, 1) := by decide +kernel
set_option maxRecDepth 20000 in
theorem ggX4_bestWorth_X4_refusalOfBestPart : GoodIn wsX4_bestWorth wsX4_refusalOfBestPart := goodIn_r _ [7, 8, 9, 10, 6, 11, 12, 13, 151, 152, 153, 154, 155, 156, 157, 158, 159, 160, 161, 162, 178, 179, 180, 181, 182, 183, 184, 185, 186, 187, 188, 189, 190, 191, 192, 193, 194] (by decide +kernel) (by decide +kernel)
set_option maxRecDepth 20000 in
theorem gX4_bestWorth_X4_refusalOfBestPart : GoodIn wsX4_bestWorth (wsV RX4 172 RX4 yX4_refusalOfBestPart wsX4_refusalOfBestPart) := goodIn_app (goodIn_of _ (by decide +kernel)) ggX4_bestWorth_X4_refusalOfBestPart
set_option maxRecDepth 20000 in
theorem ggX4_bestWorth_X4_refuseLong : GoodIn wsX4_bestWorth wsX4_refuseLong := goodIn_r _ [17, 18, 19, 20, 21, 6, 22, 23, 151, 152, 153, 154, 155, 156, 157, 158, 159, 160, 161, 162] (by decide +kernel) (by decide +kernel)
set_option maxRecDepth 20000 in
theorem gX4_bestWorth_X4_refuseLong : GoodIn wsX4_bestWorth (wsV RX4 150 RX4 yX4_refuseLong wsX4_refuseLong) := goodIn_app (goodIn_of _ (by decide +kernel)) ggX4_bestWorth_X4_refuseLong
set_option maxRecDepth 20000 in
theorem ggX4_bestWorth_X4_goByBest : GoodIn wsX4_bestWorth wsX4_goByBest := goodIn_r _ [27, 12, 28, 29, 1, 30, 31, 32, 33, 34, 35, 36, 37, 38, 39, 40, 41, 42, 43, 44, 45, 46, 47, 48, 49, 50, 51, 52, 53, 54, 55, 56, 57, 58, 59, 60, 61, 62, 63, 64, 65, 66, 67, 68, 69, 70, 71, 72, 73, 74, 75, 76, 77, 78, 79, 80, 81, 82, 83, 84, 85, 86, 87, 88, 89, 90, 91, 92, 93, 94, 95, 96, 97, 98, 99, 100, 101, 102, 103, 104, 105, 106, 107, 108, 109, 110, 111, 112, 113, 114, 115, 116, 117, 118, 119, 120, 121, 122, 123, 124, 125, 126, 127, 128, 129, 130, 131, 132, 133, 6, 134, 135, 136, 2, 137, 138, 139, 140, 141, 142, 143, 144, 151, 152, 153, 154, 155, 156, 157, 158, 159, 160, 161, 162, 178, 179, 180, 181, 182, 183, 184, 185, 186, 187, 188, 189, 190, 191, 192, 193, 194, 163, 164, 165, 166, 167, 168, 169, 170, 171, 172, 173, 174, 175, 176, 177, 195, 196, 197, 198, 199] (by decide +kernel) (by decide +kernel)
set_option maxRecDepth 20000 in
theorem gX4_bestWorth_X4_goByBest : GoodIn wsX4_bestWorth (wsV RX4 168 RX4 yX4_goByBest wsX4_goByBest) := goodIn_app (goodIn_of _ (by decide +kernel)) ggX4_bestWorth_X4_goByBest
set_option maxRecDepth 20000 in
theorem ggX4_bestWorth_X4_partOf : GoodIn wsX4_bestWorth wsX4_partOf := goodIn_r _ [147, 148, 149, 150] (by decide +kernel) (by decide +kernel)
set_option maxRecDepth 20000 in
theorem gX4_bestWorth_X4_partOf : GoodIn wsX4_bestWorth (va_wsS RX4 158 yX4_partOf wsX4_partOf) := goodIn_app (goodIn_of _ (by decide +kernel)) ggX4_bestWorth_X4_partOf
theorem dX4_bestWorth_0 : decode cX4_bestWorth 0 = .ok (.aload_n 0, 1) := by decide +kernel
theorem dX4_bestWorth_1 : decode cX4_bestWorth 1 = .ok (.iload_n 1, 1) := by decide +kernel
theorem dX4_bestWorth_2 : decode cX4_bestWorth 2 = .ok (.iload_n 2, 1) := by decide +kernel
theorem dX4_bestWorth_3 : decode cX4_bestWorth 3 = .ok (.invokevirtual 172, 3) := by decide +kernel
theorem dX4_bestWorth_6 : decode cX4_bestWorth 6 = .ok (.istore_n 3, 1) := by decide +kernel
theorem dX4_bestWorth_7 : decode cX4_bestWorth 7 = .ok (.iload_n 3, 1) := by decide +kernel
theorem dX4_bestWorth_8 : decode cX4_bestWorth 8 = .ok (.ifCond .ge 9, 3) := by decide +kernel
theorem dX4_bestWorth_11 : decode cX4_bestWorth 11 = .ok (.aload_n 0, 1) := by decide +kernel
theorem dX4_bestWorth_12 : decode cX4_bestWorth 12 = .ok (.iload_n 3, 1) := by decide +kernel
theorem dX4_bestWorth_13 : decode cX4_bestWorth 13 = .ok (.invokevirtual 150, 3) := by decide +kernel
theorem dX4_bestWorth_16 : decode cX4_bestWorth 16 = .ok (.lreturn, 1) := by decide +kernel
theorem dX4_bestWorth_17 : decode cX4_bestWorth 17 = .ok (.aload_n 0, 1) := by decide +kernel
theorem dX4_bestWorth_18 : decode cX4_bestWorth 18 = .ok (.iload_n 1, 1) := by decide +kernel
theorem dX4_bestWorth_19 : decode cX4_bestWorth 19 = .ok (.invokevirtual 168, 3) := by decide +kernel
theorem dX4_bestWorth_22 : decode cX4_bestWorth 22 = .ok (.aload_n 0, 1) := by decide +kernel
theorem dX4_bestWorth_23 : decode cX4_bestWorth 23 = .ok (.getfield 10, 3) := by decide +kernel
theorem dX4_bestWorth_26 : decode cX4_bestWorth 26 = .ok (.getfield 162, 3) := by decide +kernel
theorem dX4_bestWorth_29 : decode cX4_bestWorth 29 = .ok (.iload_n 2, 1) := by decide +kernel
theorem dX4_bestWorth_30 : decode cX4_bestWorth 30 = .ok (.invokestatic 158, 3) := by decide +kernel
theorem dX4_bestWorth_33 : decode cX4_bestWorth 33 = .ok (.lreturn, 1) := by decide +kernel
set_option maxRecDepth 20000 in
theorem ggX4_sure_X4_refuse : GoodIn wsX4_sure wsX4_refuse := goodIn_r _ [13, 14, 111, 112, 113, 114, 115, 116, 117, 118, 119, 120, 121, 122] (by decide +kernel) (by decide +kernel)
set_option maxRecDepth 20000 in
theorem gX4_sure_X4_refuse : GoodIn wsX4_sure (wsV RX4 65 RX4 yX4_refuse wsX4_refuse) := goodIn_app (goodIn_of _ (by decide +kernel)) ggX4_sure_X4_refuse
set_option maxRecDepth 20000 in
theorem ggX4_sure_X3_supposeAsItIs : GoodIn wsX4_sure wsX3_supposeAsItIs := goodIn_r _ [19, 20, 21, 22, 23, 24, 25, 26, 27, 28, 29, 18, 30, 31, 32, 33, 34, 35, 36, 37, 38, 39, 40, 41, 42, 43, 44, 45, 46, 47, 48, 49, 50, 51, 140, 141, 142, 143, 144, 145, 146, 147, 148, 149, 150, 151, 152, 153, 154, 123, 124, 125, 126, 127, 128, 129, 130, 131, 132, 133, 134, 135, 136, 137, 138, 139] (by decide +kernel) (by decide +kernel)
set_option maxRecDepth 20000 in
theorem gX4_sure_X3_supposeAsItIs : GoodIn wsX4_sure (wsV RX4 176 RX3 yX3_supposeAsItIs wsX3_supposeAsItIs) := goodIn_app (goodIn_of _ (by decide +kernel)) ggX4_sure_X3_supposeAsItIs
set_option maxRecDepth 20000 in
theorem ggX4_sure_X3_goBy : GoodIn wsX4_sure wsX3_goBy := goodIn_r _ [55, 56, 57, 58, 59, 60, 61, 62, 63, 64, 65, 66, 18, 67, 22, 32, 31, 68, 69, 70, 71, 72, 73, 74, 75, 76, 77, 78, 20, 79, 80, 81, 82, 83, 84, 85, 86, 87, 88, 89, 90, 91, 92, 93, 94, 95, 96, 97, 98, 99, 100, 101, 102, 103, 104, 105, 106, 107, 108, 109, 110, 24, 140, 141, 142, 143, 144, 145, 146, 147, 148, 149, 150, 151, 152, 153, 154, 123, 124, 125, 126, 127, 128, 129, 130, 131, 132, 133, 134, 135, 136, 137, 138, 139, 155, 156, 157, 158, 159] (by decide +kernel) (by decide +kernel)
set_option maxRecDepth 20000 in
theorem gX4_sure_X3_goBy : GoodIn wsX4_sure (wsV RX4 179 RX3 yX3_goBy wsX3_goBy) := goodIn_app (goodIn_of _ (by decide +kernel)) ggX4_sure_X3_goBy
theorem dX4_sure_0 : decode cX4_sure 0 = .ok (.aload_n 0, 1) := by decide +kernel
theorem dX4_sure_1 : decode cX4_sure 1 = .ok (.getfield 20, 3) := by decide +kernel
theorem dX4_sure_4 : decode cX4_sure 4 = .ok (.getfield 132, 3) := by decide +kernel
theorem dX4_sure_7 : decode cX4_sure 7 = .ok (.ifCond .ne 10, 3) := by decide +kernel
theorem dX4_sure_10 : decode cX4_sure 10 = .ok (.aload_n 0, 1) := by decide +kernel
theorem dX4_sure_11 : decode cX4_sure 11 = .ok (.bipush (-3), 2) := by decide +kernel
theorem dX4_sure_13 : decode cX4_sure 13 = .ok (.invokevirtual 65, 3) := by decide +kernel
theorem dX4_sure_16 : decode cX4_sure 16 = .ok (.ireturn, 1) := by decide +kernel
theorem dX4_sure_17 : decode cX4_sure 17 = .ok (.aload_n 0, 1) := by decide +kernel
theorem dX4_sure_18 : decode cX4_sure 18 = .ok (.getfield 10, 3) := by decide +kernel
theorem dX4_sure_21 : decode cX4_sure 21 = .ok (.invokevirtual 176, 3) := by decide +kernel
theorem dX4_sure_24 : decode cX4_sure 24 = .ok (.iconst 0, 1) := by decide +kernel
theorem dX4_sure_25 : decode cX4_sure 25 = .ok (.istore_n 1, 1) := by decide +kernel
theorem dX4_sure_26 : decode cX4_sure 26 = .ok (.iconst 0, 1) := by decide +kernel
theorem dX4_sure_27 : decode cX4_sure 27 = .ok (.istore_n 2, 1) := by decide +kernel
theorem dX4_sure_28 : decode cX4_sure 28 = .ok (.iload_n 2, 1) := by decide +kernel
theorem dX4_sure_29 : decode cX4_sure 29 = .ok (.aload_n 0, 1) := by decide +kernel
theorem dX4_sure_30 : decode cX4_sure 30 = .ok (.getfield 20, 3) := by decide +kernel
theorem dX4_sure_33 : decode cX4_sure 33 = .ok (.getfield 98, 3) := by decide +kernel
theorem dX4_sure_36 : decode cX4_sure 36 = .ok (.if_icmp .ge 52, 3) := by decide +kernel
theorem dX4_sure_39 : decode cX4_sure 39 = .ok (.aload_n 0, 1) := by decide +kernel
theorem dX4_sure_40 : decode cX4_sure 40 = .ok (.getfield 48, 3) := by decide +kernel
theorem dX4_sure_43 : decode cX4_sure 43 = .ok (.iconst 0, 1) := by decide +kernel
theorem dX4_sure_44 : decode cX4_sure 44 = .ok (.iload_n 2, 1) := by decide +kernel
theorem dX4_sure_45 : decode cX4_sure 45 = .ok (.iastore, 1) := by decide +kernel
theorem dX4_sure_46 : decode cX4_sure 46 = .ok (.aload_n 0, 1) := by decide +kernel
theorem dX4_sure_47 : decode cX4_sure 47 = .ok (.getfield 10, 3) := by decide +kernel
theorem dX4_sure_50 : decode cX4_sure 50 = .ok (.aload_n 0, 1) := by decide +kernel
theorem dX4_sure_51 : decode cX4_sure 51 = .ok (.getfield 48, 3) := by decide +kernel
theorem dX4_sure_54 : decode cX4_sure 54 = .ok (.iconst 1, 1) := by decide +kernel
theorem dX4_sure_55 : decode cX4_sure 55 = .ok (.invokevirtual 179, 3) := by decide +kernel
theorem dX4_sure_58 : decode cX4_sure 58 = .ok (.aload_n 0, 1) := by decide +kernel
theorem dX4_sure_59 : decode cX4_sure 59 = .ok (.getfield 10, 3) := by decide +kernel
theorem dX4_sure_62 : decode cX4_sure 62 = .ok (.getfield 154, 3) := by decide +kernel
theorem dX4_sure_65 : decode cX4_sure 65 = .ok (.ldc2_w 183, 3) := by decide +kernel
theorem dX4_sure_68 : decode cX4_sure 68 = .ok (.lcmp, 1) := by decide +kernel
theorem dX4_sure_69 : decode cX4_sure 69 = .ok (.ifCond .ne 13, 3) := by decide +kernel
theorem dX4_sure_72 : decode cX4_sure 72 = .ok (.iload_n 1, 1) := by decide +kernel
theorem dX4_sure_73 : decode cX4_sure 73 = .ok (.aload_n 0, 1) := by decide +kernel
theorem dX4_sure_74 : decode cX4_sure 74 = .ok (.getfield 10, 3) := by decide +kernel
theorem dX4_sure_77 : decode cX4_sure 77 = .ok (.getfield 141, 3) := by decide +kernel
theorem dX4_sure_80 : decode cX4_sure 80 = .ok (.ior, 1) := by decide +kernel
theorem dX4_sure_81 : decode cX4_sure 81 = .ok (.istore_n 1, 1) := by decide +kernel
theorem dX4_sure_82 : decode cX4_sure 82 = .ok (.iinc 2 1, 3) := by decide +kernel
theorem dX4_sure_85 : decode cX4_sure 85 = .ok (.goto (-57), 3) := by decide +kernel
theorem dX4_sure_88 : decode cX4_sure 88 = .ok (.iload_n 1, 1) := by decide +kernel
theorem dX4_sure_89 : decode cX4_sure 89 = .ok (.ireturn, 1) := by decide +kernel
set_option maxRecDepth 20000 in
theorem ggX4_bestDriver_X4_refuse : GoodIn wsX4_bestDriver wsX4_refuse := goodIn_r _ [11, 12, 116, 117, 118, 119, 120, 121, 122, 123, 124, 125, 126, 127] (by decide +kernel) (by decide +kernel)
set_option maxRecDepth 20000 in
theorem gX4_bestDriver_X4_refuse : GoodIn wsX4_bestDriver (wsV RX4 65 RX4 yX4_refuse wsX4_refuse) := goodIn_app (goodIn_of _ (by decide +kernel)) ggX4_bestDriver_X4_refuse
set_option maxRecDepth 20000 in
theorem ggX4_bestDriver_X4_orderOfRow : GoodIn wsX4_bestDriver wsX4_orderOfRow := goodIn_r _ [16, 17, 18, 1, 19, 5, 116, 117, 118, 119, 120, 121, 122, 123, 124, 125, 126, 127, 128, 129, 130, 131, 132, 133, 134, 135, 136, 137, 138, 139, 140, 141, 142, 143, 144] (by decide +kernel) (by decide +kernel)
set_option maxRecDepth 20000 in
theorem gX4_bestDriver_X4_orderOfRow : GoodIn wsX4_bestDriver (wsV RX4 185 RX4 yX4_orderOfRow wsX4_orderOfRow) := goodIn_app (goodIn_of _ (by decide +kernel)) ggX4_bestDriver_X4_orderOfRow
set_option maxRecDepth 20000 in
theorem ggX4_bestDriver_X3_supposeAsItIs : GoodIn wsX4_bestDriver wsX3_supposeAsItIs := goodIn_r _ [24, 25, 26, 27, 28, 29, 30, 31, 32, 33, 34, 23, 35, 36, 37, 38, 39, 40, 41, 42, 43, 44, 45, 46, 47, 48, 49, 50, 51, 52, 53, 54, 55, 56, 145, 146, 147, 148, 149, 150, 151, 152, 153, 154, 155, 156, 157, 158, 159, 128, 129, 130, 131, 132, 133, 134, 135, 136, 137, 138, 139, 140, 141, 142, 143, 144] (by decide +kernel) (by decide +kernel)
set_option maxRecDepth 20000 in
theorem gX4_bestDriver_X3_supposeAsItIs : GoodIn wsX4_bestDriver (wsV RX4 176 RX3 yX3_supposeAsItIs wsX3_supposeAsItIs) := goodIn_app (goodIn_of _ (by decide +kernel)) ggX4_bestDriver_X3_supposeAsItIs
set_option maxRecDepth 20000 in
theorem ggX4_bestDriver_X3_goBy : GoodIn wsX4_bestDriver wsX3_goBy := goodIn_r _ [60, 61, 62, 63, 64, 65, 66, 67, 68, 69, 70, 71, 23, 72, 27, 37, 36, 73, 74, 75, 76, 77, 78, 79, 80, 81, 82, 83, 25, 84, 85, 86, 87, 88, 89, 90, 91, 92, 93, 94, 95, 96, 97, 98, 99, 100, 101, 102, 103, 104, 105, 106, 107, 108, 109, 110, 111, 112, 113, 114, 115, 29, 145, 146, 147, 148, 149, 150, 151, 152, 153, 154, 155, 156, 157, 158, 159, 128, 129, 130, 131, 132, 133, 134, 135, 136, 137, 138, 139, 140, 141, 142, 143, 144, 160, 161, 162, 163, 164] (by decide +kernel) (by decide +kernel)
set_option maxRecDepth 20000 in
theorem gX4_bestDriver_X3_goBy : GoodIn wsX4_bestDriver (wsV RX4 179 RX3 yX3_goBy wsX3_goBy) := goodIn_app (goodIn_of _ (by decide +kernel)) ggX4_bestDriver_X3_goBy
theorem dX4_bestDriver_0 : decode cX4_bestDriver 0 = .ok (.aload_n 0, 1) := by decide +kernel
theorem dX4_bestDriver_1 : decode cX4_bestDriver 1 = .ok (.getfield 20, 3) := by decide +kernel
theorem dX4_bestDriver_4 : decode cX4_bestDriver 4 = .ok (.getfield 132, 3) := by decide +kernel
theorem dX4_bestDriver_7 : decode cX4_bestDriver 7 = .ok (.ifCond .ne 10, 3) := by decide +kernel
theorem dX4_bestDriver_10 : decode cX4_bestDriver 10 = .ok (.aload_n 0, 1) := by decide +kernel
theorem dX4_bestDriver_11 : decode cX4_bestDriver 11 = .ok (.bipush (-3), 2) := by decide +kernel
theorem dX4_bestDriver_13 : decode cX4_bestDriver 13 = .ok (.invokevirtual 65, 3) := by decide +kernel
theorem dX4_bestDriver_16 : decode cX4_bestDriver 16 = .ok (.ireturn, 1) := by decide +kernel
theorem dX4_bestDriver_17 : decode cX4_bestDriver 17 = .ok (.aload_n 0, 1) := by decide +kernel
theorem dX4_bestDriver_18 : decode cX4_bestDriver 18 = .ok (.bipush (-9), 2) := by decide +kernel
theorem dX4_bestDriver_20 : decode cX4_bestDriver 20 = .ok (.invokevirtual 185, 3) := by decide +kernel
theorem dX4_bestDriver_23 : decode cX4_bestDriver 23 = .ok (.istore_n 1, 1) := by decide +kernel
theorem dX4_bestDriver_24 : decode cX4_bestDriver 24 = .ok (.iconst 0, 1) := by decide +kernel
theorem dX4_bestDriver_25 : decode cX4_bestDriver 25 = .ok (.istore_n 2, 1) := by decide +kernel
theorem dX4_bestDriver_26 : decode cX4_bestDriver 26 = .ok (.lconst 0, 1) := by decide +kernel
theorem dX4_bestDriver_27 : decode cX4_bestDriver 27 = .ok (.lstore_n 3, 1) := by decide +kernel
theorem dX4_bestDriver_28 : decode cX4_bestDriver 28 = .ok (.aload_n 0, 1) := by decide +kernel
theorem dX4_bestDriver_29 : decode cX4_bestDriver 29 = .ok (.getfield 10, 3) := by decide +kernel
theorem dX4_bestDriver_32 : decode cX4_bestDriver 32 = .ok (.invokevirtual 176, 3) := by decide +kernel
theorem dX4_bestDriver_35 : decode cX4_bestDriver 35 = .ok (.iconst 0, 1) := by decide +kernel
theorem dX4_bestDriver_36 : decode cX4_bestDriver 36 = .ok (.istore 5, 2) := by decide +kernel
theorem dX4_bestDriver_38 : decode cX4_bestDriver 38 = .ok (.iload 5, 2) := by decide +kernel
theorem dX4_bestDriver_40 : decode cX4_bestDriver 40 = .ok (.iconst 5, 1) := by decide +kernel
theorem dX4_bestDriver_41 : decode cX4_bestDriver 41 = .ok (.if_icmp .gt 58, 3) := by decide +kernel
theorem dX4_bestDriver_44 : decode cX4_bestDriver 44 = .ok (.aload_n 0, 1) := by decide +kernel
theorem dX4_bestDriver_45 : decode cX4_bestDriver 45 = .ok (.getfield 10, 3) := by decide +kernel
theorem dX4_bestDriver_48 : decode cX4_bestDriver 48 = .ok (.iload 5, 2) := by decide +kernel
theorem dX4_bestDriver_50 : decode cX4_bestDriver 50 = .ok (.putfield 188, 3) := by decide +kernel
theorem dX4_bestDriver_53 : decode cX4_bestDriver 53 = .ok (.aload_n 0, 1) := by decide +kernel
theorem dX4_bestDriver_54 : decode cX4_bestDriver 54 = .ok (.getfield 10, 3) := by decide +kernel
theorem dX4_bestDriver_57 : decode cX4_bestDriver 57 = .ok (.aload_n 0, 1) := by decide +kernel
theorem dX4_bestDriver_58 : decode cX4_bestDriver 58 = .ok (.getfield 48, 3) := by decide +kernel
theorem dX4_bestDriver_61 : decode cX4_bestDriver 61 = .ok (.iload_n 1, 1) := by decide +kernel
theorem dX4_bestDriver_62 : decode cX4_bestDriver 62 = .ok (.invokevirtual 179, 3) := by decide +kernel
theorem dX4_bestDriver_65 : decode cX4_bestDriver 65 = .ok (.iload 5, 2) := by decide +kernel
theorem dX4_bestDriver_67 : decode cX4_bestDriver 67 = .ok (.ifCond .eq 15, 3) := by decide +kernel
theorem dX4_bestDriver_70 : decode cX4_bestDriver 70 = .ok (.aload_n 0, 1) := by decide +kernel
theorem dX4_bestDriver_71 : decode cX4_bestDriver 71 = .ok (.getfield 10, 3) := by decide +kernel
theorem dX4_bestDriver_74 : decode cX4_bestDriver 74 = .ok (.getfield 162, 3) := by decide +kernel
theorem dX4_bestDriver_77 : decode cX4_bestDriver 77 = .ok (.lload_n 3, 1) := by decide +kernel
theorem dX4_bestDriver_78 : decode cX4_bestDriver 78 = .ok (.lcmp, 1) := by decide +kernel
theorem dX4_bestDriver_79 : decode cX4_bestDriver 79 = .ok (.ifCond .le 14, 3) := by decide +kernel
theorem dX4_bestDriver_82 : decode cX4_bestDriver 82 = .ok (.iload 5, 2) := by decide +kernel
theorem dX4_bestDriver_84 : decode cX4_bestDriver 84 = .ok (.istore_n 2, 1) := by decide +kernel
theorem dX4_bestDriver_85 : decode cX4_bestDriver 85 = .ok (.aload_n 0, 1) := by decide +kernel
theorem dX4_bestDriver_86 : decode cX4_bestDriver 86 = .ok (.getfield 10, 3) := by decide +kernel
theorem dX4_bestDriver_89 : decode cX4_bestDriver 89 = .ok (.getfield 162, 3) := by decide +kernel
theorem dX4_bestDriver_92 : decode cX4_bestDriver 92 = .ok (.lstore_n 3, 1) := by decide +kernel
theorem dX4_bestDriver_93 : decode cX4_bestDriver 93 = .ok (.iinc 5 1, 3) := by decide +kernel
theorem dX4_bestDriver_96 : decode cX4_bestDriver 96 = .ok (.goto (-58), 3) := by decide +kernel
theorem dX4_bestDriver_99 : decode cX4_bestDriver 99 = .ok (.iload_n 2, 1) := by decide +kernel
theorem dX4_bestDriver_100 : decode cX4_bestDriver 100 = .ok (.ireturn, 1) := by decide +kernel
set_option maxRecDepth 20000 in
theorem ggX4_leftOut_X4_refuse : GoodIn wsX4_leftOut wsX4_refuse := goodIn_r _ [12, 13, 119, 120, 121, 122, 123, 124, 125, 126, 127, 128, 129, 130] (by decide +kernel) (by decide +kernel)
set_option maxRecDepth 20000 in
theorem gX4_leftOut_X4_refuse : GoodIn wsX4_leftOut (wsV RX4 65 RX4 yX4_refuse wsX4_refuse) := goodIn_app (goodIn_of _ (by decide +kernel)) ggX4_leftOut_X4_refuse
set_option maxRecDepth 20000 in
theorem ggX4_leftOut_X4_goByRow : GoodIn wsX4_leftOut wsX4_goByRow := goodIn_r _ [17, 3, 6, 18, 19, 20, 21, 22, 23, 24, 25, 26, 27, 28, 29, 30, 31, 32, 33, 34, 35, 36, 37, 38, 39, 40, 41, 42, 43, 44, 45, 46, 47, 48, 49, 50, 51, 52, 53, 54, 55, 56, 57, 11, 58, 5, 7, 1, 59, 60, 61, 62, 63, 64, 65, 66, 67, 68, 69, 70, 71, 72, 73, 74, 75, 76, 77, 78, 79, 80, 81, 82, 83, 84, 85, 86, 87, 88, 89, 90, 91, 92, 93, 94, 95, 96, 97, 98, 99, 100, 101, 102, 103, 104, 105, 106, 107, 108, 109, 110, 111, 112, 113, 114, 115, 116, 117, 118, 119, 120, 121, 122, 123, 124, 125, 126, 127, 128, 129, 130, 148, 149, 150, 151, 152, 153, 154, 155, 156, 157, 158, 159, 160, 161, 162, 131, 132, 133, 134, 135, 136, 137, 138, 139, 140, 141, 142, 143, 144, 145, 146, 147, 163, 164, 165, 166, 167] (by decide +kernel) (by decide +kernel)
set_option maxRecDepth 20000 in
theorem gX4_leftOut_X4_goByRow : GoodIn wsX4_leftOut (wsV RX4 135 RX4 yX4_goByRow wsX4_goByRow) := goodIn_app (goodIn_of _ (by decide +kernel)) ggX4_leftOut_X4_goByRow
set_option maxRecDepth 20000 in
theorem ggX4_leftOut_X4_orderOfRow : GoodIn wsX4_leftOut wsX4_orderOfRow := goodIn_r _ [58, 5, 7, 1, 59, 6, 119, 120, 121, 122, 123, 124, 125, 126, 127, 128, 129, 130, 131, 132, 133, 134, 135, 136, 137, 138, 139, 140, 141, 142, 143, 144, 145, 146, 147] (by decide +kernel) (by decide +kernel)
set_option maxRecDepth 20000 in
theorem gX4_leftOut_X4_orderOfRow : GoodIn wsX4_leftOut (wsV RX4 185 RX4 yX4_orderOfRow wsX4_orderOfRow) := goodIn_app (goodIn_of _ (by decide +kernel)) ggX4_leftOut_X4_orderOfRow
set_option maxRecDepth 20000 in
theorem ggX4_leftOut_X3_goBy : GoodIn wsX4_leftOut wsX3_goBy := goodIn_r _ [63, 64, 65, 66, 67, 68, 69, 70, 71, 72, 73, 74, 21, 75, 25, 35, 34, 76, 77, 78, 79, 80, 81, 82, 83, 84, 85, 86, 23, 87, 88, 89, 90, 91, 92, 93, 94, 95, 96, 97, 98, 99, 100, 101, 102, 103, 104, 105, 106, 107, 108, 109, 110, 111, 112, 113, 114, 115, 116, 117, 118, 27, 148, 149, 150, 151, 152, 153, 154, 155, 156, 157, 158, 159, 160, 161, 162, 131, 132, 133, 134, 135, 136, 137, 138, 139, 140, 141, 142, 143, 144, 145, 146, 147, 163, 164, 165, 166, 167] (by decide +kernel) (by decide +kernel)
set_option maxRecDepth 20000 in
theorem gX4_leftOut_X3_goBy : GoodIn wsX4_leftOut (wsV RX4 179 RX3 yX3_goBy wsX3_goBy) := goodIn_app (goodIn_of _ (by decide +kernel)) ggX4_leftOut_X3_goBy
theorem dX4_leftOut_0 : decode cX4_leftOut 0 = .ok (.aload_n 0, 1) := by decide +kernel
theorem dX4_leftOut_1 : decode cX4_leftOut 1 = .ok (.getfield 20, 3) := by decide +kernel
theorem dX4_leftOut_4 : decode cX4_leftOut 4 = .ok (.getfield 132, 3) := by decide +kernel
theorem dX4_leftOut_7 : decode cX4_leftOut 7 = .ok (.ifCond .ne 10, 3) := by decide +kernel
theorem dX4_leftOut_10 : decode cX4_leftOut 10 = .ok (.aload_n 0, 1) := by decide +kernel
theorem dX4_leftOut_11 : decode cX4_leftOut 11 = .ok (.bipush (-3), 2) := by decide +kernel
theorem dX4_leftOut_13 : decode cX4_leftOut 13 = .ok (.invokevirtual 65, 3) := by decide +kernel
theorem dX4_leftOut_16 : decode cX4_leftOut 16 = .ok (.ireturn, 1) := by decide +kernel
theorem dX4_leftOut_17 : decode cX4_leftOut 17 = .ok (.aload_n 0, 1) := by decide +kernel
theorem dX4_leftOut_18 : decode cX4_leftOut 18 = .ok (.invokevirtual 135, 3) := by decide +kernel
theorem dX4_leftOut_21 : decode cX4_leftOut 21 = .ok (.bipush (-9), 2) := by decide +kernel
theorem dX4_leftOut_23 : decode cX4_leftOut 23 = .ok (.istore_n 1, 1) := by decide +kernel
theorem dX4_leftOut_24 : decode cX4_leftOut 24 = .ok (.aload_n 0, 1) := by decide +kernel
theorem dX4_leftOut_25 : decode cX4_leftOut 25 = .ok (.getfield 10, 3) := by decide +kernel
theorem dX4_leftOut_28 : decode cX4_leftOut 28 = .ok (.getfield 162, 3) := by decide +kernel
theorem dX4_leftOut_31 : decode cX4_leftOut 31 = .ok (.lstore_n 2, 1) := by decide +kernel
theorem dX4_leftOut_32 : decode cX4_leftOut 32 = .ok (.iconst 0, 1) := by decide +kernel
theorem dX4_leftOut_33 : decode cX4_leftOut 33 = .ok (.istore 4, 2) := by decide +kernel
theorem dX4_leftOut_35 : decode cX4_leftOut 35 = .ok (.iload 4, 2) := by decide +kernel
theorem dX4_leftOut_37 : decode cX4_leftOut 37 = .ok (.aload_n 0, 1) := by decide +kernel
theorem dX4_leftOut_38 : decode cX4_leftOut 38 = .ok (.getfield 57, 3) := by decide +kernel
theorem dX4_leftOut_41 : decode cX4_leftOut 41 = .ok (.if_icmp .ge 59, 3) := by decide +kernel
theorem dX4_leftOut_44 : decode cX4_leftOut 44 = .ok (.aload_n 0, 1) := by decide +kernel
theorem dX4_leftOut_45 : decode cX4_leftOut 45 = .ok (.getfield 10, 3) := by decide +kernel
theorem dX4_leftOut_48 : decode cX4_leftOut 48 = .ok (.aload_n 0, 1) := by decide +kernel
theorem dX4_leftOut_49 : decode cX4_leftOut 49 = .ok (.getfield 48, 3) := by decide +kernel
theorem dX4_leftOut_52 : decode cX4_leftOut 52 = .ok (.aload_n 0, 1) := by decide +kernel
theorem dX4_leftOut_53 : decode cX4_leftOut 53 = .ok (.aload_n 0, 1) := by decide +kernel
theorem dX4_leftOut_54 : decode cX4_leftOut 54 = .ok (.getfield 44, 3) := by decide +kernel
theorem dX4_leftOut_57 : decode cX4_leftOut 57 = .ok (.iload 4, 2) := by decide +kernel
theorem dX4_leftOut_59 : decode cX4_leftOut 59 = .ok (.iaload, 1) := by decide +kernel
theorem dX4_leftOut_60 : decode cX4_leftOut 60 = .ok (.invokevirtual 185, 3) := by decide +kernel
theorem dX4_leftOut_63 : decode cX4_leftOut 63 = .ok (.invokevirtual 179, 3) := by decide +kernel
theorem dX4_leftOut_66 : decode cX4_leftOut 66 = .ok (.aload_n 0, 1) := by decide +kernel
theorem dX4_leftOut_67 : decode cX4_leftOut 67 = .ok (.getfield 10, 3) := by decide +kernel
theorem dX4_leftOut_70 : decode cX4_leftOut 70 = .ok (.getfield 162, 3) := by decide +kernel
theorem dX4_leftOut_73 : decode cX4_leftOut 73 = .ok (.lload_n 2, 1) := by decide +kernel
theorem dX4_leftOut_74 : decode cX4_leftOut 74 = .ok (.lcmp, 1) := by decide +kernel
theorem dX4_leftOut_75 : decode cX4_leftOut 75 = .ok (.ifCond .le 19, 3) := by decide +kernel
theorem dX4_leftOut_78 : decode cX4_leftOut 78 = .ok (.aload_n 0, 1) := by decide +kernel
theorem dX4_leftOut_79 : decode cX4_leftOut 79 = .ok (.getfield 44, 3) := by decide +kernel
theorem dX4_leftOut_82 : decode cX4_leftOut 82 = .ok (.iload 4, 2) := by decide +kernel
theorem dX4_leftOut_84 : decode cX4_leftOut 84 = .ok (.iaload, 1) := by decide +kernel
theorem dX4_leftOut_85 : decode cX4_leftOut 85 = .ok (.istore_n 1, 1) := by decide +kernel
theorem dX4_leftOut_86 : decode cX4_leftOut 86 = .ok (.aload_n 0, 1) := by decide +kernel
theorem dX4_leftOut_87 : decode cX4_leftOut 87 = .ok (.getfield 10, 3) := by decide +kernel
theorem dX4_leftOut_90 : decode cX4_leftOut 90 = .ok (.getfield 162, 3) := by decide +kernel
theorem dX4_leftOut_93 : decode cX4_leftOut 93 = .ok (.lstore_n 2, 1) := by decide +kernel
theorem dX4_leftOut_94 : decode cX4_leftOut 94 = .ok (.iinc 4 1, 3) := by decide +kernel
theorem dX4_leftOut_97 : decode cX4_leftOut 97 = .ok (.goto (-62), 3) := by decide +kernel
theorem dX4_leftOut_100 : decode cX4_leftOut 100 = .ok (.iload_n 1, 1) := by decide +kernel
theorem dX4_leftOut_101 : decode cX4_leftOut 101 = .ok (.ireturn, 1) := by decide +kernel
set_option maxRecDepth 20000 in
theorem ggX4_runOn_X4_refuse : GoodIn wsX4_runOn wsX4_refuse := goodIn_r _ [12, 13, 117, 118, 119, 120, 121, 122, 123, 124, 125, 126, 127, 128] (by decide +kernel) (by decide +kernel)
set_option maxRecDepth 20000 in
theorem gX4_runOn_X4_refuse : GoodIn wsX4_runOn (wsV RX4 65 RX4 yX4_refuse wsX4_refuse) := goodIn_app (goodIn_of _ (by decide +kernel)) ggX4_runOn_X4_refuse
set_option maxRecDepth 20000 in
theorem ggX4_runOn_X4_orderOfRow : GoodIn wsX4_runOn wsX4_orderOfRow := goodIn_r _ [17, 18, 19, 1, 20, 6, 117, 118, 119, 120, 121, 122, 123, 124, 125, 126, 127, 128, 129, 130, 131, 132, 133, 134, 135, 136, 137, 138, 139, 140, 141, 142, 143, 144, 145] (by decide +kernel) (by decide +kernel)
set_option maxRecDepth 20000 in
theorem gX4_runOn_X4_orderOfRow : GoodIn wsX4_runOn (wsV RX4 185 RX4 yX4_orderOfRow wsX4_orderOfRow) := goodIn_app (goodIn_of _ (by decide +kernel)) ggX4_runOn_X4_orderOfRow
set_option maxRecDepth 20000 in
theorem ggX4_runOn_X3_supposeAsItIs : GoodIn wsX4_runOn wsX3_supposeAsItIs := goodIn_r _ [25, 26, 27, 28, 29, 30, 31, 32, 33, 34, 35, 24, 36, 37, 38, 39, 40, 41, 42, 43, 44, 45, 46, 47, 48, 49, 50, 51, 52, 53, 54, 55, 56, 57, 146, 147, 148, 149, 150, 151, 152, 153, 154, 155, 156, 157, 158, 159, 160, 129, 130, 131, 132, 133, 134, 135, 136, 137, 138, 139, 140, 141, 142, 143, 144, 145] (by decide +kernel) (by decide +kernel)
set_option maxRecDepth 20000 in
theorem gX4_runOn_X3_supposeAsItIs : GoodIn wsX4_runOn (wsV RX4 176 RX3 yX3_supposeAsItIs wsX3_supposeAsItIs) := goodIn_app (goodIn_of _ (by decide +kernel)) ggX4_runOn_X3_supposeAsItIs
set_option maxRecDepth 20000 in
theorem ggX4_runOn_X3_goBy : GoodIn wsX4_runOn wsX3_goBy := goodIn_r _ [61, 62, 63, 64, 65, 66, 67, 68, 69, 70, 71, 72, 24, 73, 28, 38, 37, 74, 75, 76, 77, 78, 79, 80, 81, 82, 83, 84, 26, 85, 86, 87, 88, 89, 90, 91, 92, 93, 94, 95, 96, 97, 98, 99, 100, 101, 102, 103, 104, 105, 106, 107, 108, 109, 110, 111, 112, 113, 114, 115, 116, 30, 146, 147, 148, 149, 150, 151, 152, 153, 154, 155, 156, 157, 158, 159, 160, 129, 130, 131, 132, 133, 134, 135, 136, 137, 138, 139, 140, 141, 142, 143, 144, 145, 161, 162, 163, 164, 165] (by decide +kernel) (by decide +kernel)
set_option maxRecDepth 20000 in
theorem gX4_runOn_X3_goBy : GoodIn wsX4_runOn (wsV RX4 179 RX3 yX3_goBy wsX3_goBy) := goodIn_app (goodIn_of _ (by decide +kernel)) ggX4_runOn_X3_goBy
theorem dX4_runOn_0 : decode cX4_runOn 0 = .ok (.aload_n 0, 1) := by decide +kernel
theorem dX4_runOn_1 : decode cX4_runOn 1 = .ok (.getfield 20, 3) := by decide +kernel
theorem dX4_runOn_4 : decode cX4_runOn 4 = .ok (.getfield 132, 3) := by decide +kernel
theorem dX4_runOn_7 : decode cX4_runOn 7 = .ok (.ifCond .ne 10, 3) := by decide +kernel
theorem dX4_runOn_10 : decode cX4_runOn 10 = .ok (.aload_n 0, 1) := by decide +kernel
theorem dX4_runOn_11 : decode cX4_runOn 11 = .ok (.bipush (-3), 2) := by decide +kernel
theorem dX4_runOn_13 : decode cX4_runOn 13 = .ok (.invokevirtual 65, 3) := by decide +kernel
theorem dX4_runOn_16 : decode cX4_runOn 16 = .ok (.ireturn, 1) := by decide +kernel
theorem dX4_runOn_17 : decode cX4_runOn 17 = .ok (.aload_n 0, 1) := by decide +kernel
theorem dX4_runOn_18 : decode cX4_runOn 18 = .ok (.bipush (-9), 2) := by decide +kernel
theorem dX4_runOn_20 : decode cX4_runOn 20 = .ok (.invokevirtual 185, 3) := by decide +kernel
theorem dX4_runOn_23 : decode cX4_runOn 23 = .ok (.istore_n 1, 1) := by decide +kernel
theorem dX4_runOn_24 : decode cX4_runOn 24 = .ok (.iconst 0, 1) := by decide +kernel
theorem dX4_runOn_25 : decode cX4_runOn 25 = .ok (.istore_n 2, 1) := by decide +kernel
theorem dX4_runOn_26 : decode cX4_runOn 26 = .ok (.lconst 0, 1) := by decide +kernel
theorem dX4_runOn_27 : decode cX4_runOn 27 = .ok (.lstore_n 3, 1) := by decide +kernel
theorem dX4_runOn_28 : decode cX4_runOn 28 = .ok (.aload_n 0, 1) := by decide +kernel
theorem dX4_runOn_29 : decode cX4_runOn 29 = .ok (.getfield 10, 3) := by decide +kernel
theorem dX4_runOn_32 : decode cX4_runOn 32 = .ok (.invokevirtual 176, 3) := by decide +kernel
theorem dX4_runOn_35 : decode cX4_runOn 35 = .ok (.aload_n 0, 1) := by decide +kernel
theorem dX4_runOn_36 : decode cX4_runOn 36 = .ok (.getfield 10, 3) := by decide +kernel
theorem dX4_runOn_39 : decode cX4_runOn 39 = .ok (.iconst 1, 1) := by decide +kernel
theorem dX4_runOn_40 : decode cX4_runOn 40 = .ok (.putfield 188, 3) := by decide +kernel
theorem dX4_runOn_43 : decode cX4_runOn 43 = .ok (.iconst 0, 1) := by decide +kernel
theorem dX4_runOn_44 : decode cX4_runOn 44 = .ok (.istore 5, 2) := by decide +kernel
theorem dX4_runOn_46 : decode cX4_runOn 46 = .ok (.iload 5, 2) := by decide +kernel
theorem dX4_runOn_48 : decode cX4_runOn 48 = .ok (.bipush 60, 2) := by decide +kernel
theorem dX4_runOn_50 : decode cX4_runOn 50 = .ok (.if_icmp .gt 58, 3) := by decide +kernel
theorem dX4_runOn_53 : decode cX4_runOn 53 = .ok (.aload_n 0, 1) := by decide +kernel
theorem dX4_runOn_54 : decode cX4_runOn 54 = .ok (.getfield 10, 3) := by decide +kernel
theorem dX4_runOn_57 : decode cX4_runOn 57 = .ok (.iload 5, 2) := by decide +kernel
theorem dX4_runOn_59 : decode cX4_runOn 59 = .ok (.putfield 189, 3) := by decide +kernel
theorem dX4_runOn_62 : decode cX4_runOn 62 = .ok (.aload_n 0, 1) := by decide +kernel
theorem dX4_runOn_63 : decode cX4_runOn 63 = .ok (.getfield 10, 3) := by decide +kernel
theorem dX4_runOn_66 : decode cX4_runOn 66 = .ok (.aload_n 0, 1) := by decide +kernel
theorem dX4_runOn_67 : decode cX4_runOn 67 = .ok (.getfield 48, 3) := by decide +kernel
theorem dX4_runOn_70 : decode cX4_runOn 70 = .ok (.iload_n 1, 1) := by decide +kernel
theorem dX4_runOn_71 : decode cX4_runOn 71 = .ok (.invokevirtual 179, 3) := by decide +kernel
theorem dX4_runOn_74 : decode cX4_runOn 74 = .ok (.iload 5, 2) := by decide +kernel
theorem dX4_runOn_76 : decode cX4_runOn 76 = .ok (.ifCond .eq 15, 3) := by decide +kernel
theorem dX4_runOn_79 : decode cX4_runOn 79 = .ok (.aload_n 0, 1) := by decide +kernel
theorem dX4_runOn_80 : decode cX4_runOn 80 = .ok (.getfield 10, 3) := by decide +kernel
theorem dX4_runOn_83 : decode cX4_runOn 83 = .ok (.getfield 162, 3) := by decide +kernel
theorem dX4_runOn_86 : decode cX4_runOn 86 = .ok (.lload_n 3, 1) := by decide +kernel
theorem dX4_runOn_87 : decode cX4_runOn 87 = .ok (.lcmp, 1) := by decide +kernel
theorem dX4_runOn_88 : decode cX4_runOn 88 = .ok (.ifCond .le 14, 3) := by decide +kernel
theorem dX4_runOn_91 : decode cX4_runOn 91 = .ok (.iload 5, 2) := by decide +kernel
theorem dX4_runOn_93 : decode cX4_runOn 93 = .ok (.istore_n 2, 1) := by decide +kernel
theorem dX4_runOn_94 : decode cX4_runOn 94 = .ok (.aload_n 0, 1) := by decide +kernel
theorem dX4_runOn_95 : decode cX4_runOn 95 = .ok (.getfield 10, 3) := by decide +kernel
theorem dX4_runOn_98 : decode cX4_runOn 98 = .ok (.getfield 162, 3) := by decide +kernel
theorem dX4_runOn_101 : decode cX4_runOn 101 = .ok (.lstore_n 3, 1) := by decide +kernel
theorem dX4_runOn_102 : decode cX4_runOn 102 = .ok (.iinc 5 1, 3) := by decide +kernel
theorem dX4_runOn_105 : decode cX4_runOn 105 = .ok (.goto (-59), 3) := by decide +kernel
theorem dX4_runOn_108 : decode cX4_runOn 108 = .ok (.iload_n 2, 1) := by decide +kernel
theorem dX4_runOn_109 : decode cX4_runOn 109 = .ok (.ireturn, 1) := by decide +kernel
set_option maxRecDepth 20000 in
theorem ggX4_push_X4_refuse : GoodIn wsX4_push wsX4_refuse := goodIn_r _ [16, 17, 119, 120, 121, 122, 123, 124, 125, 126, 127, 128, 129, 130] (by decide +kernel) (by decide +kernel)
set_option maxRecDepth 20000 in
theorem gX4_push_X4_refuse : GoodIn wsX4_push (wsV RX4 65 RX4 yX4_refuse wsX4_refuse) := goodIn_app (goodIn_of _ (by decide +kernel)) ggX4_push_X4_refuse
set_option maxRecDepth 20000 in
theorem ggX4_push_X4_orderOfRow : GoodIn wsX4_push wsX4_orderOfRow := goodIn_r _ [21, 22, 23, 1, 24, 5, 119, 120, 121, 122, 123, 124, 125, 126, 127, 128, 129, 130, 131, 132, 133, 134, 135, 136, 137, 138, 139, 140, 141, 142, 143, 144, 145, 146, 147] (by decide +kernel) (by decide +kernel)
set_option maxRecDepth 20000 in
theorem gX4_push_X4_orderOfRow : GoodIn wsX4_push (wsV RX4 185 RX4 yX4_orderOfRow wsX4_orderOfRow) := goodIn_app (goodIn_of _ (by decide +kernel)) ggX4_push_X4_orderOfRow
set_option maxRecDepth 20000 in
theorem ggX4_push_X3_supposeAsItIs : GoodIn wsX4_push wsX3_supposeAsItIs := goodIn_r _ [29, 30, 31, 32, 33, 34, 35, 36, 37, 38, 39, 28, 40, 41, 42, 43, 44, 45, 46, 47, 48, 49, 9, 10, 11, 50, 51, 52, 53, 54, 55, 56, 57, 58, 148, 149, 150, 151, 152, 153, 154, 155, 156, 157, 158, 159, 160, 161, 162, 131, 132, 133, 134, 135, 136, 137, 138, 139, 140, 141, 142, 143, 144, 145, 146, 147] (by decide +kernel) (by decide +kernel)
set_option maxRecDepth 20000 in
theorem gX4_push_X3_supposeAsItIs : GoodIn wsX4_push (wsV RX4 176 RX3 yX3_supposeAsItIs wsX3_supposeAsItIs) := goodIn_app (goodIn_of _ (by decide +kernel)) ggX4_push_X3_supposeAsItIs
set_option maxRecDepth 20000 in
theorem ggX4_push_X3_goBy : GoodIn wsX4_push wsX3_goBy := goodIn_r _ [62, 63, 64, 65, 66, 67, 68, 69, 70, 71, 72, 73, 28, 74, 32, 42, 41, 75, 76, 77, 78, 79, 80, 81, 82, 83, 84, 85, 30, 86, 87, 88, 89, 90, 91, 92, 93, 94, 95, 96, 97, 98, 99, 100, 101, 102, 103, 104, 105, 106, 107, 108, 109, 110, 111, 112, 113, 114, 115, 116, 117, 34, 148, 149, 150, 151, 152, 153, 154, 155, 156, 157, 158, 159, 160, 161, 162, 131, 132, 133, 134, 135, 136, 137, 138, 139, 140, 141, 142, 143, 144, 145, 146, 147, 163, 164, 165, 166, 167] (by decide +kernel) (by decide +kernel)
set_option maxRecDepth 20000 in
theorem gX4_push_X3_goBy : GoodIn wsX4_push (wsV RX4 179 RX3 yX3_goBy wsX3_goBy) := goodIn_app (goodIn_of _ (by decide +kernel)) ggX4_push_X3_goBy
set_option maxRecDepth 20000 in
theorem ggX4_push_X3_supposePushers : GoodIn wsX4_push wsX3_supposePushers := goodIn_r _ [40, 41, 30, 42, 43, 44, 45, 46, 47, 48, 49, 9, 10, 11, 50, 51, 52, 53, 54, 55, 56, 57, 58, 148, 149, 150, 151, 152, 153, 154, 155, 156, 157, 158, 159, 160, 161, 162, 131, 132, 133, 134, 135, 136, 137, 138, 139, 140, 141, 142, 143, 144, 145, 146, 147] (by decide +kernel) (by decide +kernel)
set_option maxRecDepth 20000 in
theorem gX4_push_X3_supposePushers : GoodIn wsX4_push (wsV RX4 195 RX3 yX3_supposePushers wsX3_supposePushers) := goodIn_app (goodIn_of _ (by decide +kernel)) ggX4_push_X3_supposePushers
theorem dX4_push_0 : decode cX4_push 0 = .ok (.aload_n 0, 1) := by decide +kernel
theorem dX4_push_1 : decode cX4_push 1 = .ok (.getfield 20, 3) := by decide +kernel
theorem dX4_push_4 : decode cX4_push 4 = .ok (.getfield 132, 3) := by decide +kernel
theorem dX4_push_7 : decode cX4_push 7 = .ok (.ifCond .ne 10, 3) := by decide +kernel
theorem dX4_push_10 : decode cX4_push 10 = .ok (.aload_n 0, 1) := by decide +kernel
theorem dX4_push_11 : decode cX4_push 11 = .ok (.bipush (-3), 2) := by decide +kernel
theorem dX4_push_13 : decode cX4_push 13 = .ok (.invokevirtual 65, 3) := by decide +kernel
theorem dX4_push_16 : decode cX4_push 16 = .ok (.ireturn, 1) := by decide +kernel
theorem dX4_push_17 : decode cX4_push 17 = .ok (.aload_n 0, 1) := by decide +kernel
theorem dX4_push_18 : decode cX4_push 18 = .ok (.bipush (-9), 2) := by decide +kernel
theorem dX4_push_20 : decode cX4_push 20 = .ok (.invokevirtual 185, 3) := by decide +kernel
theorem dX4_push_23 : decode cX4_push 23 = .ok (.istore_n 1, 1) := by decide +kernel
theorem dX4_push_24 : decode cX4_push 24 = .ok (.aload_n 0, 1) := by decide +kernel
theorem dX4_push_25 : decode cX4_push 25 = .ok (.getfield 10, 3) := by decide +kernel
theorem dX4_push_28 : decode cX4_push 28 = .ok (.invokevirtual 176, 3) := by decide +kernel
theorem dX4_push_31 : decode cX4_push 31 = .ok (.aload_n 0, 1) := by decide +kernel
theorem dX4_push_32 : decode cX4_push 32 = .ok (.getfield 10, 3) := by decide +kernel
theorem dX4_push_35 : decode cX4_push 35 = .ok (.iconst 3, 1) := by decide +kernel
theorem dX4_push_36 : decode cX4_push 36 = .ok (.putfield 188, 3) := by decide +kernel
theorem dX4_push_39 : decode cX4_push 39 = .ok (.aload_n 0, 1) := by decide +kernel
theorem dX4_push_40 : decode cX4_push 40 = .ok (.getfield 10, 3) := by decide +kernel
theorem dX4_push_43 : decode cX4_push 43 = .ok (.aload_n 0, 1) := by decide +kernel
theorem dX4_push_44 : decode cX4_push 44 = .ok (.getfield 48, 3) := by decide +kernel
theorem dX4_push_47 : decode cX4_push 47 = .ok (.iload_n 1, 1) := by decide +kernel
theorem dX4_push_48 : decode cX4_push 48 = .ok (.invokevirtual 179, 3) := by decide +kernel
theorem dX4_push_51 : decode cX4_push 51 = .ok (.bipush (-9), 2) := by decide +kernel
theorem dX4_push_53 : decode cX4_push 53 = .ok (.istore_n 2, 1) := by decide +kernel
theorem dX4_push_54 : decode cX4_push 54 = .ok (.aload_n 0, 1) := by decide +kernel
theorem dX4_push_55 : decode cX4_push 55 = .ok (.getfield 10, 3) := by decide +kernel
theorem dX4_push_58 : decode cX4_push 58 = .ok (.getfield 162, 3) := by decide +kernel
theorem dX4_push_61 : decode cX4_push 61 = .ok (.lstore_n 3, 1) := by decide +kernel
theorem dX4_push_62 : decode cX4_push 62 = .ok (.iconst 0, 1) := by decide +kernel
theorem dX4_push_63 : decode cX4_push 63 = .ok (.istore 5, 2) := by decide +kernel
theorem dX4_push_65 : decode cX4_push 65 = .ok (.iload 5, 2) := by decide +kernel
theorem dX4_push_67 : decode cX4_push 67 = .ok (.aload_n 0, 1) := by decide +kernel
theorem dX4_push_68 : decode cX4_push 68 = .ok (.getfield 20, 3) := by decide +kernel
theorem dX4_push_71 : decode cX4_push 71 = .ok (.getfield 132, 3) := by decide +kernel
theorem dX4_push_74 : decode cX4_push 74 = .ok (.if_icmp .ge 88, 3) := by decide +kernel
theorem dX4_push_77 : decode cX4_push 77 = .ok (.aload_n 0, 1) := by decide +kernel
theorem dX4_push_78 : decode cX4_push 78 = .ok (.getfield 10, 3) := by decide +kernel
theorem dX4_push_81 : decode cX4_push 81 = .ok (.iload 5, 2) := by decide +kernel
theorem dX4_push_83 : decode cX4_push 83 = .ok (.iconst 3, 1) := by decide +kernel
theorem dX4_push_84 : decode cX4_push 84 = .ok (.aload_n 0, 1) := by decide +kernel
theorem dX4_push_85 : decode cX4_push 85 = .ok (.getfield 20, 3) := by decide +kernel
theorem dX4_push_88 : decode cX4_push 88 = .ok (.getfield 89, 3) := by decide +kernel
theorem dX4_push_91 : decode cX4_push 91 = .ok (.iload 5, 2) := by decide +kernel
theorem dX4_push_93 : decode cX4_push 93 = .ok (.iaload, 1) := by decide +kernel
theorem dX4_push_94 : decode cX4_push 94 = .ok (.iconst 1, 1) := by decide +kernel
theorem dX4_push_95 : decode cX4_push 95 = .ok (.iadd, 1) := by decide +kernel
theorem dX4_push_96 : decode cX4_push 96 = .ok (.invokestatic 190, 3) := by decide +kernel
theorem dX4_push_99 : decode cX4_push 99 = .ok (.invokevirtual 195, 3) := by decide +kernel
theorem dX4_push_102 : decode cX4_push 102 = .ok (.aload_n 0, 1) := by decide +kernel
theorem dX4_push_103 : decode cX4_push 103 = .ok (.getfield 10, 3) := by decide +kernel
theorem dX4_push_106 : decode cX4_push 106 = .ok (.aload_n 0, 1) := by decide +kernel
theorem dX4_push_107 : decode cX4_push 107 = .ok (.getfield 48, 3) := by decide +kernel
theorem dX4_push_110 : decode cX4_push 110 = .ok (.iload_n 1, 1) := by decide +kernel
theorem dX4_push_111 : decode cX4_push 111 = .ok (.invokevirtual 179, 3) := by decide +kernel
theorem dX4_push_114 : decode cX4_push 114 = .ok (.aload_n 0, 1) := by decide +kernel
theorem dX4_push_115 : decode cX4_push 115 = .ok (.getfield 10, 3) := by decide +kernel
theorem dX4_push_118 : decode cX4_push 118 = .ok (.iload 5, 2) := by decide +kernel
theorem dX4_push_120 : decode cX4_push 120 = .ok (.aload_n 0, 1) := by decide +kernel
theorem dX4_push_121 : decode cX4_push 121 = .ok (.getfield 20, 3) := by decide +kernel
theorem dX4_push_124 : decode cX4_push 124 = .ok (.getfield 89, 3) := by decide +kernel
theorem dX4_push_127 : decode cX4_push 127 = .ok (.iload 5, 2) := by decide +kernel
theorem dX4_push_129 : decode cX4_push 129 = .ok (.iaload, 1) := by decide +kernel
theorem dX4_push_130 : decode cX4_push 130 = .ok (.invokevirtual 195, 3) := by decide +kernel
theorem dX4_push_133 : decode cX4_push 133 = .ok (.aload_n 0, 1) := by decide +kernel
theorem dX4_push_134 : decode cX4_push 134 = .ok (.getfield 10, 3) := by decide +kernel
theorem dX4_push_137 : decode cX4_push 137 = .ok (.getfield 162, 3) := by decide +kernel
theorem dX4_push_140 : decode cX4_push 140 = .ok (.lload_n 3, 1) := by decide +kernel
theorem dX4_push_141 : decode cX4_push 141 = .ok (.lcmp, 1) := by decide +kernel
theorem dX4_push_142 : decode cX4_push 142 = .ok (.ifCond .le 14, 3) := by decide +kernel
theorem dX4_push_145 : decode cX4_push 145 = .ok (.iload 5, 2) := by decide +kernel
theorem dX4_push_147 : decode cX4_push 147 = .ok (.istore_n 2, 1) := by decide +kernel
theorem dX4_push_148 : decode cX4_push 148 = .ok (.aload_n 0, 1) := by decide +kernel
theorem dX4_push_149 : decode cX4_push 149 = .ok (.getfield 10, 3) := by decide +kernel
theorem dX4_push_152 : decode cX4_push 152 = .ok (.getfield 162, 3) := by decide +kernel
theorem dX4_push_155 : decode cX4_push 155 = .ok (.lstore_n 3, 1) := by decide +kernel
theorem dX4_push_156 : decode cX4_push 156 = .ok (.iinc 5 1, 3) := by decide +kernel
theorem dX4_push_159 : decode cX4_push 159 = .ok (.goto (-94), 3) := by decide +kernel
theorem dX4_push_162 : decode cX4_push 162 = .ok (.iload_n 2, 1) := by decide +kernel
theorem dX4_push_163 : decode cX4_push 163 = .ok (.ireturn, 1) := by decide +kernel
set_option maxRecDepth 20000 in
theorem ggX4_hill_X4_refusalOfPart : GoodIn wsX4_hill wsX4_refusalOfPart := goodIn_r _ [5, 6, 7, 142, 143, 144, 145, 146, 147, 148, 149, 150, 151, 152, 153, 154, 155, 156, 157, 158, 159, 160, 161, 162, 163, 164, 165, 166, 167, 168, 169, 170] (by decide +kernel) (by decide +kernel)
set_option maxRecDepth 20000 in
theorem gX4_hill_X4_refusalOfPart : GoodIn wsX4_hill (wsV RX4 147 RX4 yX4_refusalOfPart wsX4_refusalOfPart) := goodIn_app (goodIn_of _ (by decide +kernel)) ggX4_hill_X4_refusalOfPart
set_option maxRecDepth 20000 in
theorem ggX4_hill_X4_refuseLong : GoodIn wsX4_hill wsX4_refuseLong := goodIn_r _ [11, 12, 13, 14, 15, 4, 16, 17, 142, 143, 144, 145, 146, 147, 148, 149, 150, 151, 152, 153] (by decide +kernel) (by decide +kernel)
set_option maxRecDepth 20000 in
theorem gX4_hill_X4_refuseLong : GoodIn wsX4_hill (wsV RX4 150 RX4 yX4_refuseLong wsX4_refuseLong) := goodIn_app (goodIn_of _ (by decide +kernel)) ggX4_hill_X4_refuseLong
set_option maxRecDepth 20000 in
theorem ggX4_hill_X4_gainIfSureUpTo : GoodIn wsX4_hill wsX4_gainIfSureUpTo := goodIn_r _ [21, 22, 23, 6, 7, 24, 25, 26, 27, 4, 28, 29, 30, 31, 32, 33, 34, 35, 36, 37, 38, 39, 40, 41, 42, 43, 44, 45, 46, 47, 48, 49, 50, 51, 52, 53, 54, 55, 56, 57, 58, 59, 60, 61, 62, 63, 64, 65, 66, 67, 68, 69, 70, 71, 72, 73, 74, 75, 76, 77, 78, 79, 80, 81, 82, 83, 84, 85, 86, 87, 88, 89, 90, 91, 92, 93, 94, 95, 96, 97, 98, 99, 100, 101, 102, 103, 104, 105, 106, 107, 108, 109, 110, 111, 112, 113, 114, 115, 116, 117, 118, 119, 120, 121, 122, 123, 124, 125, 126, 127, 128, 129, 130, 131, 132, 133, 134, 135, 142, 143, 144, 145, 146, 147, 148, 149, 150, 151, 152, 153, 171, 172, 173, 174, 175, 176, 177, 178, 179, 180, 181, 182, 183, 184, 185, 154, 155, 156, 157, 158, 159, 160, 161, 162, 163, 164, 165, 166, 167, 168, 169, 170, 186, 187, 188, 189, 190] (by decide +kernel) (by decide +kernel)
set_option maxRecDepth 20000 in
theorem gX4_hill_X4_gainIfSureUpTo : GoodIn wsX4_hill (wsV RX4 199 RX4 yX4_gainIfSureUpTo wsX4_gainIfSureUpTo) := goodIn_app (goodIn_of _ (by decide +kernel)) ggX4_hill_X4_gainIfSureUpTo
set_option maxRecDepth 20000 in
theorem ggX4_hill_X4_partOf : GoodIn wsX4_hill wsX4_partOf := goodIn_r _ [138, 139, 140, 141] (by decide +kernel) (by decide +kernel)
set_option maxRecDepth 20000 in
theorem gX4_hill_X4_partOf : GoodIn wsX4_hill (va_wsS RX4 158 yX4_partOf wsX4_partOf) := goodIn_app (goodIn_of _ (by decide +kernel)) ggX4_hill_X4_partOf
theorem dX4_hill_0 : decode cX4_hill 0 = .ok (.aload_n 0, 1) := by decide +kernel
theorem dX4_hill_1 : decode cX4_hill 1 = .ok (.iload_n 1, 1) := by decide +kernel
theorem dX4_hill_2 : decode cX4_hill 2 = .ok (.invokevirtual 147, 3) := by decide +kernel
theorem dX4_hill_5 : decode cX4_hill 5 = .ok (.istore_n 2, 1) := by decide +kernel
theorem dX4_hill_6 : decode cX4_hill 6 = .ok (.iload_n 2, 1) := by decide +kernel
theorem dX4_hill_7 : decode cX4_hill 7 = .ok (.ifCond .ge 9, 3) := by decide +kernel
theorem dX4_hill_10 : decode cX4_hill 10 = .ok (.aload_n 0, 1) := by decide +kernel
theorem dX4_hill_11 : decode cX4_hill 11 = .ok (.iload_n 2, 1) := by decide +kernel
theorem dX4_hill_12 : decode cX4_hill 12 = .ok (.invokevirtual 150, 3) := by decide +kernel
theorem dX4_hill_15 : decode cX4_hill 15 = .ok (.lreturn, 1) := by decide +kernel
theorem dX4_hill_16 : decode cX4_hill 16 = .ok (.aload_n 0, 1) := by decide +kernel
theorem dX4_hill_17 : decode cX4_hill 17 = .ok (.iconst 0, 1) := by decide +kernel
theorem dX4_hill_18 : decode cX4_hill 18 = .ok (.invokevirtual 199, 3) := by decide +kernel
theorem dX4_hill_21 : decode cX4_hill 21 = .ok (.iload_n 1, 1) := by decide +kernel
theorem dX4_hill_22 : decode cX4_hill 22 = .ok (.invokestatic 158, 3) := by decide +kernel
theorem dX4_hill_25 : decode cX4_hill 25 = .ok (.lreturn, 1) := by decide +kernel
set_option maxRecDepth 20000 in
theorem ggX4_mend_X4_refuse : GoodIn wsX4_mend wsX4_refuse := goodIn_r _ [8, 9, 132, 133, 134, 135, 136, 137, 138, 139, 140, 141, 142, 143] (by decide +kernel) (by decide +kernel)
set_option maxRecDepth 20000 in
theorem gX4_mend_X4_refuse : GoodIn wsX4_mend (wsV RX4 65 RX4 yX4_refuse wsX4_refuse) := goodIn_app (goodIn_of _ (by decide +kernel)) ggX4_mend_X4_refuse
set_option maxRecDepth 20000 in
theorem ggX4_mend_X4_gainIfMended : GoodIn wsX4_mend wsX4_gainIfMended := goodIn_r _ [13, 1, 2, 14, 15, 16, 7, 17, 18, 19, 20, 21, 22, 23, 24, 25, 26, 27, 28, 29, 30, 31, 32, 33, 34, 35, 36, 37, 38, 39, 40, 41, 42, 43, 44, 45, 46, 47, 48, 49, 50, 51, 52, 53, 54, 55, 56, 57, 58, 59, 60, 61, 62, 63, 64, 65, 66, 67, 68, 69, 70, 71, 72, 73, 74, 75, 76, 77, 78, 79, 80, 81, 82, 83, 84, 85, 86, 87, 88, 89, 90, 91, 92, 93, 94, 95, 96, 97, 98, 99, 100, 101, 102, 103, 104, 105, 106, 107, 108, 109, 110, 111, 112, 113, 114, 115, 116, 117, 118, 119, 120, 121, 122, 123, 124, 125, 126, 127, 128, 129, 130, 131, 132, 133, 134, 135, 136, 137, 138, 139, 140, 141, 142, 143, 144, 145, 146, 147, 148, 149, 150, 151, 152, 153, 154, 155, 156, 157, 158, 159, 160, 161, 162, 163, 164, 165, 166, 167, 168, 169, 170, 171, 172, 173, 174, 175, 176, 177, 178, 179, 180] (by decide +kernel) (by decide +kernel)
set_option maxRecDepth 20000 in
theorem gX4_mend_X4_gainIfMended : GoodIn wsX4_mend (wsV RX4 202 RX4 yX4_gainIfMended wsX4_gainIfMended) := goodIn_app (goodIn_of _ (by decide +kernel)) ggX4_mend_X4_gainIfMended
theorem dX4_mend_0 : decode cX4_mend 0 = .ok (.iload_n 1, 1) := by decide +kernel
theorem dX4_mend_1 : decode cX4_mend 1 = .ok (.ifCond .lt 8, 3) := by decide +kernel
theorem dX4_mend_4 : decode cX4_mend 4 = .ok (.iload_n 2, 1) := by decide +kernel
theorem dX4_mend_5 : decode cX4_mend 5 = .ok (.iconst 1, 1) := by decide +kernel
theorem dX4_mend_6 : decode cX4_mend 6 = .ok (.if_icmp .ge 10, 3) := by decide +kernel
theorem dX4_mend_9 : decode cX4_mend 9 = .ok (.aload_n 0, 1) := by decide +kernel
theorem dX4_mend_10 : decode cX4_mend 10 = .ok (.bipush (-4), 2) := by decide +kernel
theorem dX4_mend_12 : decode cX4_mend 12 = .ok (.invokevirtual 65, 3) := by decide +kernel
theorem dX4_mend_15 : decode cX4_mend 15 = .ok (.ireturn, 1) := by decide +kernel
theorem dX4_mend_16 : decode cX4_mend 16 = .ok (.iload_n 1, 1) := by decide +kernel
theorem dX4_mend_17 : decode cX4_mend 17 = .ok (.sipush 999, 3) := by decide +kernel
theorem dX4_mend_20 : decode cX4_mend 20 = .ok (.if_icmp .gt 9, 3) := by decide +kernel
theorem dX4_mend_23 : decode cX4_mend 23 = .ok (.iload_n 2, 1) := by decide +kernel
theorem dX4_mend_24 : decode cX4_mend 24 = .ok (.bipush 99, 2) := by decide +kernel
theorem dX4_mend_26 : decode cX4_mend 26 = .ok (.if_icmp .le 10, 3) := by decide +kernel
theorem dX4_mend_29 : decode cX4_mend 29 = .ok (.aload_n 0, 1) := by decide +kernel
theorem dX4_mend_30 : decode cX4_mend 30 = .ok (.bipush (-6), 2) := by decide +kernel
theorem dX4_mend_32 : decode cX4_mend 32 = .ok (.invokevirtual 65, 3) := by decide +kernel
theorem dX4_mend_35 : decode cX4_mend 35 = .ok (.ireturn, 1) := by decide +kernel
theorem dX4_mend_36 : decode cX4_mend 36 = .ok (.aload_n 0, 1) := by decide +kernel
theorem dX4_mend_37 : decode cX4_mend 37 = .ok (.getfield 20, 3) := by decide +kernel
theorem dX4_mend_40 : decode cX4_mend 40 = .ok (.getfield 132, 3) := by decide +kernel
theorem dX4_mend_43 : decode cX4_mend 43 = .ok (.ifCond .ne 10, 3) := by decide +kernel
theorem dX4_mend_46 : decode cX4_mend 46 = .ok (.aload_n 0, 1) := by decide +kernel
theorem dX4_mend_47 : decode cX4_mend 47 = .ok (.bipush (-3), 2) := by decide +kernel
theorem dX4_mend_49 : decode cX4_mend 49 = .ok (.invokevirtual 65, 3) := by decide +kernel
theorem dX4_mend_52 : decode cX4_mend 52 = .ok (.ireturn, 1) := by decide +kernel
theorem dX4_mend_53 : decode cX4_mend 53 = .ok (.iload_n 2, 1) := by decide +kernel
theorem dX4_mend_54 : decode cX4_mend 54 = .ok (.i2l, 1) := by decide +kernel
theorem dX4_mend_55 : decode cX4_mend 55 = .ok (.aload_n 0, 1) := by decide +kernel
theorem dX4_mend_56 : decode cX4_mend 56 = .ok (.invokevirtual 202, 3) := by decide +kernel
theorem dX4_mend_59 : decode cX4_mend 59 = .ok (.lmul, 1) := by decide +kernel
theorem dX4_mend_60 : decode cX4_mend 60 = .ok (.iload_n 1, 1) := by decide +kernel
theorem dX4_mend_61 : decode cX4_mend 61 = .ok (.i2l, 1) := by decide +kernel
theorem dX4_mend_62 : decode cX4_mend 62 = .ok (.ldc2_w 183, 3) := by decide +kernel
theorem dX4_mend_65 : decode cX4_mend 65 = .ok (.lmul, 1) := by decide +kernel
theorem dX4_mend_66 : decode cX4_mend 66 = .ok (.lcmp, 1) := by decide +kernel
theorem dX4_mend_67 : decode cX4_mend 67 = .ok (.ifCond .lt 7, 3) := by decide +kernel
theorem dX4_mend_70 : decode cX4_mend 70 = .ok (.iconst 1, 1) := by decide +kernel
theorem dX4_mend_71 : decode cX4_mend 71 = .ok (.goto 4, 3) := by decide +kernel
theorem dX4_mend_74 : decode cX4_mend 74 = .ok (.iconst 0, 1) := by decide +kernel
theorem dX4_mend_75 : decode cX4_mend 75 = .ok (.ireturn, 1) := by decide +kernel
set_option maxRecDepth 20000 in
theorem ggX4_mendFrom_X4_refuse : GoodIn wsX4_mendFrom wsX4_refuse := goodIn_r _ [8, 9, 132, 133, 134, 135, 136, 137, 138, 139, 140, 141, 142, 143] (by decide +kernel) (by decide +kernel)
set_option maxRecDepth 20000 in
theorem gX4_mendFrom_X4_refuse : GoodIn wsX4_mendFrom (wsV RX4 65 RX4 yX4_refuse wsX4_refuse) := goodIn_app (goodIn_of _ (by decide +kernel)) ggX4_mendFrom_X4_refuse
set_option maxRecDepth 20000 in
theorem ggX4_mendFrom_X4_gainIfMended : GoodIn wsX4_mendFrom wsX4_gainIfMended := goodIn_r _ [13, 1, 2, 14, 15, 16, 7, 17, 18, 19, 20, 21, 22, 23, 24, 25, 26, 27, 28, 29, 30, 31, 32, 33, 34, 35, 36, 37, 38, 39, 40, 41, 42, 43, 44, 45, 46, 47, 48, 49, 50, 51, 52, 53, 54, 55, 56, 57, 58, 59, 60, 61, 62, 63, 64, 65, 66, 67, 68, 69, 70, 71, 72, 73, 74, 75, 76, 77, 78, 79, 80, 81, 82, 83, 84, 85, 86, 87, 88, 89, 90, 91, 92, 93, 94, 95, 96, 97, 98, 99, 100, 101, 102, 103, 104, 105, 106, 107, 108, 109, 110, 111, 112, 113, 114, 115, 116, 117, 118, 119, 120, 121, 122, 123, 124, 125, 126, 127, 128, 129, 130, 131, 132, 133, 134, 135, 136, 137, 138, 139, 140, 141, 142, 143, 144, 145, 146, 147, 148, 149, 150, 151, 152, 153, 154, 155, 156, 157, 158, 159, 160, 161, 162, 163, 164, 165, 166, 167, 168, 169, 170, 171, 172, 173, 174, 175, 176, 177, 178, 179, 180] (by decide +kernel) (by decide +kernel)
set_option maxRecDepth 20000 in
theorem gX4_mendFrom_X4_gainIfMended : GoodIn wsX4_mendFrom (wsV RX4 202 RX4 yX4_gainIfMended wsX4_gainIfMended) := goodIn_app (goodIn_of _ (by decide +kernel)) ggX4_mendFrom_X4_gainIfMended
theorem dX4_mendFrom_0 : decode cX4_mendFrom 0 = .ok (.iload_n 1, 1) := by decide +kernel
theorem dX4_mendFrom_1 : decode cX4_mendFrom 1 = .ok (.ifCond .ge 10, 3) := by decide +kernel
theorem dX4_mendFrom_4 : decode cX4_mendFrom 4 = .ok (.aload_n 0, 1) := by decide +kernel
theorem dX4_mendFrom_5 : decode cX4_mendFrom 5 = .ok (.bipush (-4), 2) := by decide +kernel
theorem dX4_mendFrom_7 : decode cX4_mendFrom 7 = .ok (.invokevirtual 65, 3) := by decide +kernel
theorem dX4_mendFrom_10 : decode cX4_mendFrom 10 = .ok (.ireturn, 1) := by decide +kernel
theorem dX4_mendFrom_11 : decode cX4_mendFrom 11 = .ok (.iload_n 1, 1) := by decide +kernel
theorem dX4_mendFrom_12 : decode cX4_mendFrom 12 = .ok (.sipush 999, 3) := by decide +kernel
theorem dX4_mendFrom_15 : decode cX4_mendFrom 15 = .ok (.if_icmp .le 10, 3) := by decide +kernel
theorem dX4_mendFrom_18 : decode cX4_mendFrom 18 = .ok (.aload_n 0, 1) := by decide +kernel
theorem dX4_mendFrom_19 : decode cX4_mendFrom 19 = .ok (.bipush (-6), 2) := by decide +kernel
theorem dX4_mendFrom_21 : decode cX4_mendFrom 21 = .ok (.invokevirtual 65, 3) := by decide +kernel
theorem dX4_mendFrom_24 : decode cX4_mendFrom 24 = .ok (.ireturn, 1) := by decide +kernel
theorem dX4_mendFrom_25 : decode cX4_mendFrom 25 = .ok (.aload_n 0, 1) := by decide +kernel
theorem dX4_mendFrom_26 : decode cX4_mendFrom 26 = .ok (.getfield 20, 3) := by decide +kernel
theorem dX4_mendFrom_29 : decode cX4_mendFrom 29 = .ok (.getfield 132, 3) := by decide +kernel
theorem dX4_mendFrom_32 : decode cX4_mendFrom 32 = .ok (.ifCond .ne 10, 3) := by decide +kernel
theorem dX4_mendFrom_35 : decode cX4_mendFrom 35 = .ok (.aload_n 0, 1) := by decide +kernel
theorem dX4_mendFrom_36 : decode cX4_mendFrom 36 = .ok (.bipush (-3), 2) := by decide +kernel
theorem dX4_mendFrom_38 : decode cX4_mendFrom 38 = .ok (.invokevirtual 65, 3) := by decide +kernel
theorem dX4_mendFrom_41 : decode cX4_mendFrom 41 = .ok (.ireturn, 1) := by decide +kernel
theorem dX4_mendFrom_42 : decode cX4_mendFrom 42 = .ok (.aload_n 0, 1) := by decide +kernel
theorem dX4_mendFrom_43 : decode cX4_mendFrom 43 = .ok (.invokevirtual 202, 3) := by decide +kernel
theorem dX4_mendFrom_46 : decode cX4_mendFrom 46 = .ok (.lstore_n 2, 1) := by decide +kernel
theorem dX4_mendFrom_47 : decode cX4_mendFrom 47 = .ok (.iconst 1, 1) := by decide +kernel
theorem dX4_mendFrom_48 : decode cX4_mendFrom 48 = .ok (.istore 4, 2) := by decide +kernel
theorem dX4_mendFrom_50 : decode cX4_mendFrom 50 = .ok (.iload 4, 2) := by decide +kernel
theorem dX4_mendFrom_52 : decode cX4_mendFrom 52 = .ok (.bipush 99, 2) := by decide +kernel
theorem dX4_mendFrom_54 : decode cX4_mendFrom 54 = .ok (.if_icmp .gt 27, 3) := by decide +kernel
theorem dX4_mendFrom_57 : decode cX4_mendFrom 57 = .ok (.iload 4, 2) := by decide +kernel
theorem dX4_mendFrom_59 : decode cX4_mendFrom 59 = .ok (.i2l, 1) := by decide +kernel
theorem dX4_mendFrom_60 : decode cX4_mendFrom 60 = .ok (.lload_n 2, 1) := by decide +kernel
theorem dX4_mendFrom_61 : decode cX4_mendFrom 61 = .ok (.lmul, 1) := by decide +kernel
theorem dX4_mendFrom_62 : decode cX4_mendFrom 62 = .ok (.iload_n 1, 1) := by decide +kernel
theorem dX4_mendFrom_63 : decode cX4_mendFrom 63 = .ok (.i2l, 1) := by decide +kernel
theorem dX4_mendFrom_64 : decode cX4_mendFrom 64 = .ok (.ldc2_w 183, 3) := by decide +kernel
theorem dX4_mendFrom_67 : decode cX4_mendFrom 67 = .ok (.lmul, 1) := by decide +kernel
theorem dX4_mendFrom_68 : decode cX4_mendFrom 68 = .ok (.lcmp, 1) := by decide +kernel
theorem dX4_mendFrom_69 : decode cX4_mendFrom 69 = .ok (.ifCond .lt 6, 3) := by decide +kernel
theorem dX4_mendFrom_72 : decode cX4_mendFrom 72 = .ok (.iload 4, 2) := by decide +kernel
theorem dX4_mendFrom_74 : decode cX4_mendFrom 74 = .ok (.ireturn, 1) := by decide +kernel
theorem dX4_mendFrom_75 : decode cX4_mendFrom 75 = .ok (.iinc 4 1, 3) := by decide +kernel
theorem dX4_mendFrom_78 : decode cX4_mendFrom 78 = .ok (.goto (-28), 3) := by decide +kernel
theorem dX4_mendFrom_81 : decode cX4_mendFrom 81 = .ok (.bipush (-9), 2) := by decide +kernel
theorem dX4_mendFrom_83 : decode cX4_mendFrom 83 = .ok (.ireturn, 1) := by decide +kernel
set_option maxRecDepth 20000 in
theorem ggX4_onFoot_X4_isPlace : GoodIn wsX4_onFoot wsX4_isPlace := goodIn_r _ [7, 1, 2, 44, 45, 46, 47, 48, 49, 50, 51, 52, 53, 54, 55, 56, 57, 58, 59, 60, 61, 62, 63, 64, 65, 66, 67, 68, 69, 70, 71, 72] (by decide +kernel) (by decide +kernel)
set_option maxRecDepth 20000 in
theorem gX4_onFoot_X4_isPlace : GoodIn wsX4_onFoot (wsV RX4 79 RX4 yX4_isPlace wsX4_isPlace) := goodIn_app (goodIn_of _ (by decide +kernel)) ggX4_onFoot_X4_isPlace
set_option maxRecDepth 20000 in
theorem ggX4_onFoot_X4_refuse : GoodIn wsX4_onFoot wsX4_refuse := goodIn_r _ [11, 12, 44, 45, 46, 47, 48, 49, 50, 51, 52, 53, 54, 55] (by decide +kernel) (by decide +kernel)
set_option maxRecDepth 20000 in
theorem gX4_onFoot_X4_refuse : GoodIn wsX4_onFoot (wsV RX4 65 RX4 yX4_refuse wsX4_refuse) := goodIn_app (goodIn_of _ (by decide +kernel)) ggX4_onFoot_X4_refuse
set_option maxRecDepth 20000 in
theorem ggX4_onFoot_X4_walkedFrom : GoodIn wsX4_onFoot wsX4_walkedFrom := goodIn_r _ [16, 17, 18, 19, 20, 21, 22, 23, 24, 44, 45, 46, 47, 48, 49, 50, 51, 52, 53, 54, 55, 73, 74, 75, 76, 77] (by decide +kernel) (by decide +kernel)
set_option maxRecDepth 20000 in
theorem gX4_onFoot_X4_walkedFrom : GoodIn wsX4_onFoot (wsV RX4 206 RX4 yX4_walkedFrom wsX4_walkedFrom) := goodIn_app (goodIn_of _ (by decide +kernel)) ggX4_onFoot_X4_walkedFrom
set_option maxRecDepth 20000 in
theorem ggX4_onFoot_X2_startsAt : GoodIn wsX4_onFoot wsX2_startsAt := goodIn_r _ [29, 30, 31, 32, 33, 28, 34, 35, 36, 37, 38, 39, 40, 41, 42, 43, 56, 57, 58, 59, 60, 61, 62, 63, 64, 65, 66, 67, 68, 69, 70, 71, 72] (by decide +kernel) (by decide +kernel)
set_option maxRecDepth 20000 in
theorem gX4_onFoot_X2_startsAt : GoodIn wsX4_onFoot (wsV RX4 92 RX2 yX2_startsAt wsX2_startsAt) := goodIn_app (goodIn_of _ (by decide +kernel)) ggX4_onFoot_X2_startsAt
theorem dX4_onFoot_0 : decode cX4_onFoot 0 = .ok (.aload_n 0, 1) := by decide +kernel
theorem dX4_onFoot_1 : decode cX4_onFoot 1 = .ok (.iload_n 1, 1) := by decide +kernel
theorem dX4_onFoot_2 : decode cX4_onFoot 2 = .ok (.invokevirtual 79, 3) := by decide +kernel
theorem dX4_onFoot_5 : decode cX4_onFoot 5 = .ok (.ifCond .eq 11, 3) := by decide +kernel
theorem dX4_onFoot_8 : decode cX4_onFoot 8 = .ok (.aload_n 0, 1) := by decide +kernel
theorem dX4_onFoot_9 : decode cX4_onFoot 9 = .ok (.iload_n 2, 1) := by decide +kernel
theorem dX4_onFoot_10 : decode cX4_onFoot 10 = .ok (.invokevirtual 79, 3) := by decide +kernel
theorem dX4_onFoot_13 : decode cX4_onFoot 13 = .ok (.ifCond .ne 9, 3) := by decide +kernel
theorem dX4_onFoot_16 : decode cX4_onFoot 16 = .ok (.aload_n 0, 1) := by decide +kernel
theorem dX4_onFoot_17 : decode cX4_onFoot 17 = .ok (.iconst (-1), 1) := by decide +kernel
theorem dX4_onFoot_18 : decode cX4_onFoot 18 = .ok (.invokevirtual 65, 3) := by decide +kernel
theorem dX4_onFoot_21 : decode cX4_onFoot 21 = .ok (.ireturn, 1) := by decide +kernel
theorem dX4_onFoot_22 : decode cX4_onFoot 22 = .ok (.iload_n 3, 1) := by decide +kernel
theorem dX4_onFoot_23 : decode cX4_onFoot 23 = .ok (.ifCond .lt 8, 3) := by decide +kernel
theorem dX4_onFoot_26 : decode cX4_onFoot 26 = .ok (.iload_n 3, 1) := by decide +kernel
theorem dX4_onFoot_27 : decode cX4_onFoot 27 = .ok (.iconst 1, 1) := by decide +kernel
theorem dX4_onFoot_28 : decode cX4_onFoot 28 = .ok (.if_icmp .le 10, 3) := by decide +kernel
theorem dX4_onFoot_31 : decode cX4_onFoot 31 = .ok (.aload_n 0, 1) := by decide +kernel
theorem dX4_onFoot_32 : decode cX4_onFoot 32 = .ok (.bipush (-2), 2) := by decide +kernel
theorem dX4_onFoot_34 : decode cX4_onFoot 34 = .ok (.invokevirtual 65, 3) := by decide +kernel
theorem dX4_onFoot_37 : decode cX4_onFoot 37 = .ok (.ireturn, 1) := by decide +kernel
theorem dX4_onFoot_38 : decode cX4_onFoot 38 = .ok (.bipush (-9), 2) := by decide +kernel
theorem dX4_onFoot_40 : decode cX4_onFoot 40 = .ok (.istore 4, 2) := by decide +kernel
theorem dX4_onFoot_42 : decode cX4_onFoot 42 = .ok (.bipush (-9), 2) := by decide +kernel
theorem dX4_onFoot_44 : decode cX4_onFoot 44 = .ok (.istore 5, 2) := by decide +kernel
theorem dX4_onFoot_46 : decode cX4_onFoot 46 = .ok (.iconst 0, 1) := by decide +kernel
theorem dX4_onFoot_47 : decode cX4_onFoot 47 = .ok (.istore 6, 2) := by decide +kernel
theorem dX4_onFoot_49 : decode cX4_onFoot 49 = .ok (.iload 6, 2) := by decide +kernel
theorem dX4_onFoot_51 : decode cX4_onFoot 51 = .ok (.aload_n 0, 1) := by decide +kernel
theorem dX4_onFoot_52 : decode cX4_onFoot 52 = .ok (.getfield 20, 3) := by decide +kernel
theorem dX4_onFoot_55 : decode cX4_onFoot 55 = .ok (.getfield 132, 3) := by decide +kernel
theorem dX4_onFoot_58 : decode cX4_onFoot 58 = .ok (.if_icmp .ge 60, 3) := by decide +kernel
theorem dX4_onFoot_61 : decode cX4_onFoot 61 = .ok (.aload_n 0, 1) := by decide +kernel
theorem dX4_onFoot_62 : decode cX4_onFoot 62 = .ok (.iload 6, 2) := by decide +kernel
theorem dX4_onFoot_64 : decode cX4_onFoot 64 = .ok (.iload_n 1, 1) := by decide +kernel
theorem dX4_onFoot_65 : decode cX4_onFoot 65 = .ok (.iload_n 2, 1) := by decide +kernel
theorem dX4_onFoot_66 : decode cX4_onFoot 66 = .ok (.invokevirtual 206, 3) := by decide +kernel
theorem dX4_onFoot_69 : decode cX4_onFoot 69 = .ok (.istore 7, 2) := by decide +kernel
theorem dX4_onFoot_71 : decode cX4_onFoot 71 = .ok (.iload 7, 2) := by decide +kernel
theorem dX4_onFoot_73 : decode cX4_onFoot 73 = .ok (.ifCond .lt 39, 3) := by decide +kernel
theorem dX4_onFoot_76 : decode cX4_onFoot 76 = .ok (.aload_n 0, 1) := by decide +kernel
theorem dX4_onFoot_77 : decode cX4_onFoot 77 = .ok (.getfield 20, 3) := by decide +kernel
theorem dX4_onFoot_80 : decode cX4_onFoot 80 = .ok (.iload 6, 2) := by decide +kernel
theorem dX4_onFoot_82 : decode cX4_onFoot 82 = .ok (.invokevirtual 92, 3) := by decide +kernel
theorem dX4_onFoot_85 : decode cX4_onFoot 85 = .ok (.bipush 10, 2) := by decide +kernel
theorem dX4_onFoot_87 : decode cX4_onFoot 87 = .ok (.if_icmp .ne 25, 3) := by decide +kernel
theorem dX4_onFoot_90 : decode cX4_onFoot 90 = .ok (.iload 4, 2) := by decide +kernel
theorem dX4_onFoot_92 : decode cX4_onFoot 92 = .ok (.bipush (-9), 2) := by decide +kernel
theorem dX4_onFoot_94 : decode cX4_onFoot 94 = .ok (.if_icmp .eq 10, 3) := by decide +kernel
theorem dX4_onFoot_97 : decode cX4_onFoot 97 = .ok (.iload 7, 2) := by decide +kernel
theorem dX4_onFoot_99 : decode cX4_onFoot 99 = .ok (.iload 5, 2) := by decide +kernel
theorem dX4_onFoot_101 : decode cX4_onFoot 101 = .ok (.if_icmp .ge 11, 3) := by decide +kernel
theorem dX4_onFoot_104 : decode cX4_onFoot 104 = .ok (.iload 6, 2) := by decide +kernel
theorem dX4_onFoot_106 : decode cX4_onFoot 106 = .ok (.istore 4, 2) := by decide +kernel
theorem dX4_onFoot_108 : decode cX4_onFoot 108 = .ok (.iload 7, 2) := by decide +kernel
theorem dX4_onFoot_110 : decode cX4_onFoot 110 = .ok (.istore 5, 2) := by decide +kernel
theorem dX4_onFoot_112 : decode cX4_onFoot 112 = .ok (.iinc 6 1, 3) := by decide +kernel
theorem dX4_onFoot_115 : decode cX4_onFoot 115 = .ok (.goto (-66), 3) := by decide +kernel
theorem dX4_onFoot_118 : decode cX4_onFoot 118 = .ok (.iload_n 3, 1) := by decide +kernel
theorem dX4_onFoot_119 : decode cX4_onFoot 119 = .ok (.ifCond .ne 8, 3) := by decide +kernel
theorem dX4_onFoot_122 : decode cX4_onFoot 122 = .ok (.iload 4, 2) := by decide +kernel
theorem dX4_onFoot_124 : decode cX4_onFoot 124 = .ok (.goto 5, 3) := by decide +kernel
theorem dX4_onFoot_127 : decode cX4_onFoot 127 = .ok (.iload 5, 2) := by decide +kernel
theorem dX4_onFoot_129 : decode cX4_onFoot 129 = .ok (.ireturn, 1) := by decide +kernel
set_option maxRecDepth 20000 in
theorem ggX4_onTheWay_X4_isPlace : GoodIn wsX4_onTheWay wsX4_isPlace := goodIn_r _ [6, 7, 8, 21, 22, 23, 24, 25, 26, 27, 28, 29, 30, 31, 32, 33, 34, 35, 36, 37, 38, 39, 40, 41, 42, 43, 44, 45, 46, 47, 48, 49] (by decide +kernel) (by decide +kernel)
set_option maxRecDepth 20000 in
theorem gX4_onTheWay_X4_isPlace : GoodIn wsX4_onTheWay (wsV RX4 79 RX4 yX4_isPlace wsX4_isPlace) := goodIn_app (goodIn_of _ (by decide +kernel)) ggX4_onTheWay_X4_isPlace
set_option maxRecDepth 20000 in
theorem ggX4_onTheWay_X4_refuse : GoodIn wsX4_onTheWay wsX4_refuse := goodIn_r _ [12, 13, 21, 22, 23, 24, 25, 26, 27, 28, 29, 30, 31, 32] (by decide +kernel) (by decide +kernel)
set_option maxRecDepth 20000 in
theorem gX4_onTheWay_X4_refuse : GoodIn wsX4_onTheWay (wsV RX4 65 RX4 yX4_refuse wsX4_refuse) := goodIn_app (goodIn_of _ (by decide +kernel)) ggX4_onTheWay_X4_refuse
set_option maxRecDepth 20000 in
theorem ggX4_onTheWay_X0_minutesOf : GoodIn wsX4_onTheWay wsX0_minutesOf := goodIn_r _ [18, 19, 20, 50, 51, 52, 53, 54] (by decide +kernel) (by decide +kernel)
set_option maxRecDepth 20000 in
theorem gX4_onTheWay_X0_minutesOf : GoodIn wsX4_onTheWay (wsV RX4 210 RX0 yX0_minutesOf wsX0_minutesOf) := goodIn_app (goodIn_of _ (by decide +kernel)) ggX4_onTheWay_X0_minutesOf
theorem dX4_onTheWay_0 : decode cX4_onTheWay 0 = .ok (.aload_n 0, 1) := by decide +kernel
theorem dX4_onTheWay_1 : decode cX4_onTheWay 1 = .ok (.iload_n 1, 1) := by decide +kernel
theorem dX4_onTheWay_2 : decode cX4_onTheWay 2 = .ok (.invokevirtual 79, 3) := by decide +kernel
theorem dX4_onTheWay_5 : decode cX4_onTheWay 5 = .ok (.ifCond .eq 19, 3) := by decide +kernel
theorem dX4_onTheWay_8 : decode cX4_onTheWay 8 = .ok (.aload_n 0, 1) := by decide +kernel
theorem dX4_onTheWay_9 : decode cX4_onTheWay 9 = .ok (.iload_n 2, 1) := by decide +kernel
theorem dX4_onTheWay_10 : decode cX4_onTheWay 10 = .ok (.invokevirtual 79, 3) := by decide +kernel
theorem dX4_onTheWay_13 : decode cX4_onTheWay 13 = .ok (.ifCond .eq 11, 3) := by decide +kernel
theorem dX4_onTheWay_16 : decode cX4_onTheWay 16 = .ok (.aload_n 0, 1) := by decide +kernel
theorem dX4_onTheWay_17 : decode cX4_onTheWay 17 = .ok (.iload_n 3, 1) := by decide +kernel
theorem dX4_onTheWay_18 : decode cX4_onTheWay 18 = .ok (.invokevirtual 79, 3) := by decide +kernel
theorem dX4_onTheWay_21 : decode cX4_onTheWay 21 = .ok (.ifCond .ne 9, 3) := by decide +kernel
theorem dX4_onTheWay_24 : decode cX4_onTheWay 24 = .ok (.aload_n 0, 1) := by decide +kernel
theorem dX4_onTheWay_25 : decode cX4_onTheWay 25 = .ok (.iconst (-1), 1) := by decide +kernel
theorem dX4_onTheWay_26 : decode cX4_onTheWay 26 = .ok (.invokevirtual 65, 3) := by decide +kernel
theorem dX4_onTheWay_29 : decode cX4_onTheWay 29 = .ok (.ireturn, 1) := by decide +kernel
theorem dX4_onTheWay_30 : decode cX4_onTheWay 30 = .ok (.aload_n 0, 1) := by decide +kernel
theorem dX4_onTheWay_31 : decode cX4_onTheWay 31 = .ok (.getfield 27, 3) := by decide +kernel
theorem dX4_onTheWay_34 : decode cX4_onTheWay 34 = .ok (.iload_n 2, 1) := by decide +kernel
theorem dX4_onTheWay_35 : decode cX4_onTheWay 35 = .ok (.iload_n 1, 1) := by decide +kernel
theorem dX4_onTheWay_36 : decode cX4_onTheWay 36 = .ok (.iconst 0, 1) := by decide +kernel
theorem dX4_onTheWay_37 : decode cX4_onTheWay 37 = .ok (.invokevirtual 210, 3) := by decide +kernel
theorem dX4_onTheWay_40 : decode cX4_onTheWay 40 = .ok (.istore 4, 2) := by decide +kernel
theorem dX4_onTheWay_42 : decode cX4_onTheWay 42 = .ok (.aload_n 0, 1) := by decide +kernel
theorem dX4_onTheWay_43 : decode cX4_onTheWay 43 = .ok (.getfield 27, 3) := by decide +kernel
theorem dX4_onTheWay_46 : decode cX4_onTheWay 46 = .ok (.iload_n 1, 1) := by decide +kernel
theorem dX4_onTheWay_47 : decode cX4_onTheWay 47 = .ok (.iload_n 3, 1) := by decide +kernel
theorem dX4_onTheWay_48 : decode cX4_onTheWay 48 = .ok (.iconst 0, 1) := by decide +kernel
theorem dX4_onTheWay_49 : decode cX4_onTheWay 49 = .ok (.invokevirtual 210, 3) := by decide +kernel
theorem dX4_onTheWay_52 : decode cX4_onTheWay 52 = .ok (.istore 5, 2) := by decide +kernel
theorem dX4_onTheWay_54 : decode cX4_onTheWay 54 = .ok (.iload 4, 2) := by decide +kernel
theorem dX4_onTheWay_56 : decode cX4_onTheWay 56 = .ok (.ifCond .lt 8, 3) := by decide +kernel
theorem dX4_onTheWay_59 : decode cX4_onTheWay 59 = .ok (.iload 5, 2) := by decide +kernel
theorem dX4_onTheWay_61 : decode cX4_onTheWay 61 = .ok (.ifCond .ge 5, 3) := by decide +kernel
theorem dX4_onTheWay_64 : decode cX4_onTheWay 64 = .ok (.iconst 0, 1) := by decide +kernel
theorem dX4_onTheWay_65 : decode cX4_onTheWay 65 = .ok (.ireturn, 1) := by decide +kernel
theorem dX4_onTheWay_66 : decode cX4_onTheWay 66 = .ok (.iload 4, 2) := by decide +kernel
theorem dX4_onTheWay_68 : decode cX4_onTheWay 68 = .ok (.iload 5, 2) := by decide +kernel
theorem dX4_onTheWay_70 : decode cX4_onTheWay 70 = .ok (.iadd, 1) := by decide +kernel
theorem dX4_onTheWay_71 : decode cX4_onTheWay 71 = .ok (.aload_n 0, 1) := by decide +kernel
theorem dX4_onTheWay_72 : decode cX4_onTheWay 72 = .ok (.getfield 27, 3) := by decide +kernel
theorem dX4_onTheWay_75 : decode cX4_onTheWay 75 = .ok (.iload_n 2, 1) := by decide +kernel
theorem dX4_onTheWay_76 : decode cX4_onTheWay 76 = .ok (.iload_n 3, 1) := by decide +kernel
theorem dX4_onTheWay_77 : decode cX4_onTheWay 77 = .ok (.iconst 0, 1) := by decide +kernel
theorem dX4_onTheWay_78 : decode cX4_onTheWay 78 = .ok (.invokevirtual 210, 3) := by decide +kernel
theorem dX4_onTheWay_81 : decode cX4_onTheWay 81 = .ok (.if_icmp .ne 7, 3) := by decide +kernel
theorem dX4_onTheWay_84 : decode cX4_onTheWay 84 = .ok (.iconst 1, 1) := by decide +kernel
theorem dX4_onTheWay_85 : decode cX4_onTheWay 85 = .ok (.goto 4, 3) := by decide +kernel
theorem dX4_onTheWay_88 : decode cX4_onTheWay 88 = .ok (.iconst 0, 1) := by decide +kernel
theorem dX4_onTheWay_89 : decode cX4_onTheWay 89 = .ok (.ireturn, 1) := by decide +kernel
set_option maxRecDepth 20000 in
theorem ggX4_row_X4_refuse : GoodIn wsX4_row wsX4_refuse := goodIn_r _ [7, 8, 9, 10, 11, 12, 13, 14, 15, 16, 17, 18, 19, 20] (by decide +kernel) (by decide +kernel)
set_option maxRecDepth 20000 in
theorem gX4_row_X4_refuse : GoodIn wsX4_row (wsV RX4 65 RX4 yX4_refuse wsX4_refuse) := goodIn_app (goodIn_of _ (by decide +kernel)) ggX4_row_X4_refuse
theorem dX4_row_0 : decode cX4_row 0 = .ok (.iload_n 1, 1) := by decide +kernel
theorem dX4_row_1 : decode cX4_row 1 = .ok (.ifCond .ge 10, 3) := by decide +kernel
theorem dX4_row_4 : decode cX4_row 4 = .ok (.aload_n 0, 1) := by decide +kernel
theorem dX4_row_5 : decode cX4_row 5 = .ok (.bipush (-4), 2) := by decide +kernel
theorem dX4_row_7 : decode cX4_row 7 = .ok (.invokevirtual 65, 3) := by decide +kernel
theorem dX4_row_10 : decode cX4_row 10 = .ok (.ireturn, 1) := by decide +kernel
theorem dX4_row_11 : decode cX4_row 11 = .ok (.iload_n 1, 1) := by decide +kernel
theorem dX4_row_12 : decode cX4_row 12 = .ok (.bipush 9, 2) := by decide +kernel
theorem dX4_row_14 : decode cX4_row 14 = .ok (.if_icmp .gt 12, 3) := by decide +kernel
theorem dX4_row_17 : decode cX4_row 17 = .ok (.aload_n 0, 1) := by decide +kernel
theorem dX4_row_18 : decode cX4_row 18 = .ok (.getfield 57, 3) := by decide +kernel
theorem dX4_row_21 : decode cX4_row 21 = .ok (.bipush 10, 2) := by decide +kernel
theorem dX4_row_23 : decode cX4_row 23 = .ok (.if_icmp .lt 10, 3) := by decide +kernel
theorem dX4_row_26 : decode cX4_row 26 = .ok (.aload_n 0, 1) := by decide +kernel
theorem dX4_row_27 : decode cX4_row 27 = .ok (.bipush (-6), 2) := by decide +kernel
theorem dX4_row_29 : decode cX4_row 29 = .ok (.invokevirtual 65, 3) := by decide +kernel
theorem dX4_row_32 : decode cX4_row 32 = .ok (.ireturn, 1) := by decide +kernel
theorem dX4_row_33 : decode cX4_row 33 = .ok (.aload_n 0, 1) := by decide +kernel
theorem dX4_row_34 : decode cX4_row 34 = .ok (.getfield 44, 3) := by decide +kernel
theorem dX4_row_37 : decode cX4_row 37 = .ok (.aload_n 0, 1) := by decide +kernel
theorem dX4_row_38 : decode cX4_row 38 = .ok (.getfield 57, 3) := by decide +kernel
theorem dX4_row_41 : decode cX4_row 41 = .ok (.iload_n 1, 1) := by decide +kernel
theorem dX4_row_42 : decode cX4_row 42 = .ok (.iastore, 1) := by decide +kernel
theorem dX4_row_43 : decode cX4_row 43 = .ok (.aload_n 0, 1) := by decide +kernel
theorem dX4_row_44 : decode cX4_row 44 = .ok (.dup, 1) := by decide +kernel
theorem dX4_row_45 : decode cX4_row 45 = .ok (.getfield 57, 3) := by decide +kernel
theorem dX4_row_48 : decode cX4_row 48 = .ok (.iconst 1, 1) := by decide +kernel
theorem dX4_row_49 : decode cX4_row 49 = .ok (.iadd, 1) := by decide +kernel
theorem dX4_row_50 : decode cX4_row 50 = .ok (.putfield 57, 3) := by decide +kernel
theorem dX4_row_53 : decode cX4_row 53 = .ok (.aload_n 0, 1) := by decide +kernel
theorem dX4_row_54 : decode cX4_row 54 = .ok (.getfield 57, 3) := by decide +kernel
theorem dX4_row_57 : decode cX4_row 57 = .ok (.ireturn, 1) := by decide +kernel
theorem dX4_clear_0 : decode cX4_clear 0 = .ok (.aload_n 0, 1) := by decide +kernel
theorem dX4_clear_1 : decode cX4_clear 1 = .ok (.getfield 57, 3) := by decide +kernel
theorem dX4_clear_4 : decode cX4_clear 4 = .ok (.istore_n 1, 1) := by decide +kernel
theorem dX4_clear_5 : decode cX4_clear 5 = .ok (.aload_n 0, 1) := by decide +kernel
theorem dX4_clear_6 : decode cX4_clear 6 = .ok (.iconst 0, 1) := by decide +kernel
theorem dX4_clear_7 : decode cX4_clear 7 = .ok (.putfield 57, 3) := by decide +kernel
theorem dX4_clear_10 : decode cX4_clear 10 = .ok (.iload_n 1, 1) := by decide +kernel
theorem dX4_clear_11 : decode cX4_clear 11 = .ok (.ireturn, 1) := by decide +kernel
set_option maxRecDepth 20000 in
theorem ggX4_judge_X4_refuse : GoodIn wsX4_judge wsX4_refuse := goodIn_r _ [11, 12, 119, 120, 121, 122, 123, 124, 125, 126, 127, 128, 129, 130] (by decide +kernel) (by decide +kernel)
set_option maxRecDepth 20000 in
theorem gX4_judge_X4_refuse : GoodIn wsX4_judge (wsV RX4 65 RX4 yX4_refuse wsX4_refuse) := goodIn_app (goodIn_of _ (by decide +kernel)) ggX4_judge_X4_refuse
set_option maxRecDepth 20000 in
theorem ggX4_judge_X4_goByRow : GoodIn wsX4_judge wsX4_goByRow := goodIn_r _ [16, 3, 17, 18, 19, 20, 21, 22, 23, 24, 25, 26, 27, 28, 29, 30, 31, 32, 33, 34, 35, 36, 37, 38, 39, 40, 41, 42, 43, 44, 45, 46, 47, 48, 49, 50, 51, 52, 53, 54, 55, 56, 57, 10, 58, 5, 6, 1, 59, 60, 61, 62, 63, 64, 65, 66, 67, 68, 69, 70, 71, 72, 73, 74, 75, 76, 77, 78, 79, 80, 81, 82, 83, 84, 85, 86, 87, 88, 89, 90, 91, 92, 93, 94, 95, 96, 97, 98, 99, 100, 101, 102, 103, 104, 105, 106, 107, 108, 109, 110, 111, 112, 113, 114, 115, 116, 117, 118, 119, 120, 121, 122, 123, 124, 125, 126, 127, 128, 129, 130, 148, 149, 150, 151, 152, 153, 154, 155, 156, 157, 158, 159, 160, 161, 162, 131, 132, 133, 134, 135, 136, 137, 138, 139, 140, 141, 142, 143, 144, 145, 146, 147, 163, 164, 165, 166, 167] (by decide +kernel) (by decide +kernel)
set_option maxRecDepth 20000 in
theorem gX4_judge_X4_goByRow : GoodIn wsX4_judge (wsV RX4 135 RX4 yX4_goByRow wsX4_goByRow) := goodIn_app (goodIn_of _ (by decide +kernel)) ggX4_judge_X4_goByRow
theorem dX4_judge_0 : decode cX4_judge 0 = .ok (.aload_n 0, 1) := by decide +kernel
theorem dX4_judge_1 : decode cX4_judge 1 = .ok (.getfield 20, 3) := by decide +kernel
theorem dX4_judge_4 : decode cX4_judge 4 = .ok (.getfield 132, 3) := by decide +kernel
theorem dX4_judge_7 : decode cX4_judge 7 = .ok (.ifCond .ne 10, 3) := by decide +kernel
theorem dX4_judge_10 : decode cX4_judge 10 = .ok (.aload_n 0, 1) := by decide +kernel
theorem dX4_judge_11 : decode cX4_judge 11 = .ok (.bipush (-3), 2) := by decide +kernel
theorem dX4_judge_13 : decode cX4_judge 13 = .ok (.invokevirtual 65, 3) := by decide +kernel
theorem dX4_judge_16 : decode cX4_judge 16 = .ok (.ireturn, 1) := by decide +kernel
theorem dX4_judge_17 : decode cX4_judge 17 = .ok (.aload_n 0, 1) := by decide +kernel
theorem dX4_judge_18 : decode cX4_judge 18 = .ok (.invokevirtual 135, 3) := by decide +kernel
theorem dX4_judge_21 : decode cX4_judge 21 = .ok (.aload_n 0, 1) := by decide +kernel
theorem dX4_judge_22 : decode cX4_judge 22 = .ok (.getfield 10, 3) := by decide +kernel
theorem dX4_judge_25 : decode cX4_judge 25 = .ok (.getfield 141, 3) := by decide +kernel
theorem dX4_judge_28 : decode cX4_judge 28 = .ok (.istore_n 1, 1) := by decide +kernel
theorem dX4_judge_29 : decode cX4_judge 29 = .ok (.iconst 0, 1) := by decide +kernel
theorem dX4_judge_30 : decode cX4_judge 30 = .ok (.istore_n 2, 1) := by decide +kernel
theorem dX4_judge_31 : decode cX4_judge 31 = .ok (.iload_n 2, 1) := by decide +kernel
theorem dX4_judge_32 : decode cX4_judge 32 = .ok (.aload_n 0, 1) := by decide +kernel
theorem dX4_judge_33 : decode cX4_judge 33 = .ok (.getfield 57, 3) := by decide +kernel
theorem dX4_judge_36 : decode cX4_judge 36 = .ok (.if_icmp .ge 32, 3) := by decide +kernel
theorem dX4_judge_39 : decode cX4_judge 39 = .ok (.iconst 1, 1) := by decide +kernel
theorem dX4_judge_40 : decode cX4_judge 40 = .ok (.aload_n 0, 1) := by decide +kernel
theorem dX4_judge_41 : decode cX4_judge 41 = .ok (.getfield 44, 3) := by decide +kernel
theorem dX4_judge_44 : decode cX4_judge 44 = .ok (.iload_n 2, 1) := by decide +kernel
theorem dX4_judge_45 : decode cX4_judge 45 = .ok (.iaload, 1) := by decide +kernel
theorem dX4_judge_46 : decode cX4_judge 46 = .ok (.ishl, 1) := by decide +kernel
theorem dX4_judge_47 : decode cX4_judge 47 = .ok (.istore_n 3, 1) := by decide +kernel
theorem dX4_judge_48 : decode cX4_judge 48 = .ok (.iload_n 1, 1) := by decide +kernel
theorem dX4_judge_49 : decode cX4_judge 49 = .ok (.iload_n 3, 1) := by decide +kernel
theorem dX4_judge_50 : decode cX4_judge 50 = .ok (.iand, 1) := by decide +kernel
theorem dX4_judge_51 : decode cX4_judge 51 = .ok (.ifCond .ne 5, 3) := by decide +kernel
theorem dX4_judge_54 : decode cX4_judge 54 = .ok (.iload_n 2, 1) := by decide +kernel
theorem dX4_judge_55 : decode cX4_judge 55 = .ok (.ireturn, 1) := by decide +kernel
theorem dX4_judge_56 : decode cX4_judge 56 = .ok (.iload_n 1, 1) := by decide +kernel
theorem dX4_judge_57 : decode cX4_judge 57 = .ok (.iload_n 3, 1) := by decide +kernel
theorem dX4_judge_58 : decode cX4_judge 58 = .ok (.iconst (-1), 1) := by decide +kernel
theorem dX4_judge_59 : decode cX4_judge 59 = .ok (.ixor, 1) := by decide +kernel
theorem dX4_judge_60 : decode cX4_judge 60 = .ok (.iand, 1) := by decide +kernel
theorem dX4_judge_61 : decode cX4_judge 61 = .ok (.istore_n 1, 1) := by decide +kernel
theorem dX4_judge_62 : decode cX4_judge 62 = .ok (.iinc 2 1, 3) := by decide +kernel
theorem dX4_judge_65 : decode cX4_judge 65 = .ok (.goto (-34), 3) := by decide +kernel
theorem dX4_judge_68 : decode cX4_judge 68 = .ok (.bipush (-9), 2) := by decide +kernel
theorem dX4_judge_70 : decode cX4_judge 70 = .ok (.ireturn, 1) := by decide +kernel
set_option maxRecDepth 20000 in
theorem ggX4_lots_X4_refuse : GoodIn wsX4_lots wsX4_refuse := goodIn_r _ [8, 9, 125, 126, 127, 128, 129, 130, 131, 132, 133, 134, 135, 136] (by decide +kernel) (by decide +kernel)
set_option maxRecDepth 20000 in
theorem gX4_lots_X4_refuse : GoodIn wsX4_lots (wsV RX4 65 RX4 yX4_refuse wsX4_refuse) := goodIn_app (goodIn_of _ (by decide +kernel)) ggX4_lots_X4_refuse
set_option maxRecDepth 20000 in
theorem ggX4_lots_X4_goByRow : GoodIn wsX4_lots wsX4_goByRow := goodIn_r _ [13, 3, 14, 15, 16, 17, 18, 19, 20, 21, 22, 23, 24, 25, 26, 27, 28, 29, 30, 31, 32, 33, 34, 35, 36, 37, 38, 39, 40, 41, 42, 43, 44, 45, 46, 47, 48, 49, 50, 51, 52, 53, 54, 7, 55, 56, 57, 1, 58, 59, 60, 61, 62, 63, 64, 65, 66, 67, 68, 69, 70, 71, 72, 73, 74, 75, 76, 77, 78, 79, 80, 81, 82, 83, 84, 85, 86, 87, 88, 89, 90, 91, 92, 93, 94, 95, 96, 97, 98, 99, 100, 101, 102, 103, 104, 105, 106, 107, 108, 109, 110, 111, 112, 113, 114, 115, 116, 117, 125, 126, 127, 128, 129, 130, 131, 132, 133, 134, 135, 136, 154, 155, 156, 157, 158, 159, 160, 161, 162, 163, 164, 165, 166, 167, 168, 137, 138, 139, 140, 141, 142, 143, 144, 145, 146, 147, 148, 149, 150, 151, 152, 153, 169, 170, 171, 172, 173] (by decide +kernel) (by decide +kernel)
set_option maxRecDepth 20000 in
theorem gX4_lots_X4_goByRow : GoodIn wsX4_lots (wsV RX4 135 RX4 yX4_goByRow wsX4_goByRow) := goodIn_app (goodIn_of _ (by decide +kernel)) ggX4_lots_X4_goByRow
set_option maxRecDepth 20000 in
theorem ggX4_lots_X3_timesHome : GoodIn wsX4_lots wsX3_timesHome := goodIn_r _ [121, 63, 80, 122, 123, 124, 81, 154, 155, 156, 157, 158, 159, 160, 161, 162, 163, 164, 165, 166, 167, 168] (by decide +kernel) (by decide +kernel)
set_option maxRecDepth 20000 in
theorem gX4_lots_X3_timesHome : GoodIn wsX4_lots (wsV RX4 216 RX3 yX3_timesHome wsX3_timesHome) := goodIn_app (goodIn_of _ (by decide +kernel)) ggX4_lots_X3_timesHome
theorem dX4_lots_0 : decode cX4_lots 0 = .ok (.iload_n 1, 1) := by decide +kernel
theorem dX4_lots_1 : decode cX4_lots 1 = .ok (.iconst 1, 1) := by decide +kernel
theorem dX4_lots_2 : decode cX4_lots 2 = .ok (.if_icmp .ge 10, 3) := by decide +kernel
theorem dX4_lots_5 : decode cX4_lots 5 = .ok (.aload_n 0, 1) := by decide +kernel
theorem dX4_lots_6 : decode cX4_lots 6 = .ok (.bipush (-4), 2) := by decide +kernel
theorem dX4_lots_8 : decode cX4_lots 8 = .ok (.invokevirtual 65, 3) := by decide +kernel
theorem dX4_lots_11 : decode cX4_lots 11 = .ok (.ireturn, 1) := by decide +kernel
theorem dX4_lots_12 : decode cX4_lots 12 = .ok (.iload_n 1, 1) := by decide +kernel
theorem dX4_lots_13 : decode cX4_lots 13 = .ok (.bipush 20, 2) := by decide +kernel
theorem dX4_lots_15 : decode cX4_lots 15 = .ok (.if_icmp .le 10, 3) := by decide +kernel
theorem dX4_lots_18 : decode cX4_lots 18 = .ok (.aload_n 0, 1) := by decide +kernel
theorem dX4_lots_19 : decode cX4_lots 19 = .ok (.bipush (-6), 2) := by decide +kernel
theorem dX4_lots_21 : decode cX4_lots 21 = .ok (.invokevirtual 65, 3) := by decide +kernel
theorem dX4_lots_24 : decode cX4_lots 24 = .ok (.ireturn, 1) := by decide +kernel
theorem dX4_lots_25 : decode cX4_lots 25 = .ok (.aload_n 0, 1) := by decide +kernel
theorem dX4_lots_26 : decode cX4_lots 26 = .ok (.getfield 20, 3) := by decide +kernel
theorem dX4_lots_29 : decode cX4_lots 29 = .ok (.getfield 132, 3) := by decide +kernel
theorem dX4_lots_32 : decode cX4_lots 32 = .ok (.ifCond .ne 10, 3) := by decide +kernel
theorem dX4_lots_35 : decode cX4_lots 35 = .ok (.aload_n 0, 1) := by decide +kernel
theorem dX4_lots_36 : decode cX4_lots 36 = .ok (.bipush (-3), 2) := by decide +kernel
theorem dX4_lots_38 : decode cX4_lots 38 = .ok (.invokevirtual 65, 3) := by decide +kernel
theorem dX4_lots_41 : decode cX4_lots 41 = .ok (.ireturn, 1) := by decide +kernel
theorem dX4_lots_42 : decode cX4_lots 42 = .ok (.aload_n 0, 1) := by decide +kernel
theorem dX4_lots_43 : decode cX4_lots 43 = .ok (.invokevirtual 135, 3) := by decide +kernel
theorem dX4_lots_46 : decode cX4_lots 46 = .ok (.aload_n 0, 1) := by decide +kernel
theorem dX4_lots_47 : decode cX4_lots 47 = .ok (.getfield 10, 3) := by decide +kernel
theorem dX4_lots_50 : decode cX4_lots 50 = .ok (.iload_n 1, 1) := by decide +kernel
theorem dX4_lots_51 : decode cX4_lots 51 = .ok (.iload_n 2, 1) := by decide +kernel
theorem dX4_lots_52 : decode cX4_lots 52 = .ok (.invokevirtual 216, 3) := by decide +kernel
theorem dX4_lots_55 : decode cX4_lots 55 = .ok (.ireturn, 1) := by decide +kernel
set_option maxRecDepth 20000 in
theorem ggX4_image_X2_becomeLike : GoodIn wsX4_image wsX2_becomeLike := goodIn_r _ [9, 10, 11, 12, 13, 14, 15, 16, 17, 18, 19, 20, 21, 22, 23, 24, 25, 26, 27, 28, 29, 30, 43, 44, 45, 46, 47, 48, 49, 50, 51, 52, 53, 54, 55, 56, 57, 58, 59] (by decide +kernel) (by decide +kernel)
set_option maxRecDepth 20000 in
theorem gX4_image_X2_becomeLike : GoodIn wsX4_image (wsV RX4 219 RX2 yX2_becomeLike wsX2_becomeLike) := goodIn_app (goodIn_of _ (by decide +kernel)) ggX4_image_X2_becomeLike
theorem dX4_image_0 : decode cX4_image 0 = .ok (.aload_n 0, 1) := by decide +kernel
theorem dX4_image_1 : decode cX4_image 1 = .ok (.getfield 31, 3) := by decide +kernel
theorem dX4_image_4 : decode cX4_image 4 = .ok (.aload_n 0, 1) := by decide +kernel
theorem dX4_image_5 : decode cX4_image 5 = .ok (.getfield 20, 3) := by decide +kernel
theorem dX4_image_8 : decode cX4_image 8 = .ok (.invokevirtual 219, 3) := by decide +kernel
theorem dX4_image_11 : decode cX4_image 11 = .ok (.aload_n 0, 1) := by decide +kernel
theorem dX4_image_12 : decode cX4_image 12 = .ok (.iconst 1, 1) := by decide +kernel
theorem dX4_image_13 : decode cX4_image 13 = .ok (.putfield 61, 3) := by decide +kernel
theorem dX4_image_16 : decode cX4_image 16 = .ok (.aload_n 0, 1) := by decide +kernel
theorem dX4_image_17 : decode cX4_image 17 = .ok (.getfield 20, 3) := by decide +kernel
theorem dX4_image_20 : decode cX4_image 20 = .ok (.getfield 132, 3) := by decide +kernel
theorem dX4_image_23 : decode cX4_image 23 = .ok (.ireturn, 1) := by decide +kernel
set_option maxRecDepth 20000 in
theorem ggX4_on_X4_refuse : GoodIn wsX4_on wsX4_refuse := goodIn_r _ [10, 11, 67, 68, 69, 70, 71, 72, 73, 74, 75, 76, 77, 78] (by decide +kernel) (by decide +kernel)
set_option maxRecDepth 20000 in
theorem gX4_on_X4_refuse : GoodIn wsX4_on (wsV RX4 65 RX4 yX4_refuse wsX4_refuse) := goodIn_app (goodIn_of _ (by decide +kernel)) ggX4_on_X4_refuse
set_option maxRecDepth 20000 in
theorem ggX4_on_X2_becomeLike : GoodIn wsX4_on wsX2_becomeLike := goodIn_r _ [16, 17, 18, 19, 20, 21, 22, 23, 24, 25, 26, 27, 28, 29, 30, 31, 32, 33, 34, 35, 36, 37, 79, 80, 81, 82, 83, 84, 85, 86, 87, 88, 89, 90, 91, 92, 93, 94, 95] (by decide +kernel) (by decide +kernel)
set_option maxRecDepth 20000 in
theorem gX4_on_X2_becomeLike : GoodIn wsX4_on (wsV RX4 219 RX2 yX2_becomeLike wsX2_becomeLike) := goodIn_app (goodIn_of _ (by decide +kernel)) ggX4_on_X2_becomeLike
set_option maxRecDepth 20000 in
theorem ggX4_on_X0_measure : GoodIn wsX4_on wsX0_measure := goodIn_r _ [42, 43, 44, 45, 46, 47, 48, 49, 50, 41, 51, 52, 53, 54, 55, 56, 57, 58, 59, 60, 61, 62, 63, 64, 65, 66, 96, 97, 98, 99, 100, 79, 80, 81, 82, 83, 84, 85, 86, 87, 88, 89, 90, 91, 92, 93, 94, 95] (by decide +kernel) (by decide +kernel)
set_option maxRecDepth 20000 in
theorem gX4_on_X0_measure : GoodIn wsX4_on (wsV RX4 223 RX0 yX0_measure wsX0_measure) := goodIn_app (goodIn_of _ (by decide +kernel)) ggX4_on_X0_measure
theorem dX4_on_0 : decode cX4_on 0 = .ok (.aload_n 0, 1) := by decide +kernel
theorem dX4_on_1 : decode cX4_on 1 = .ok (.getfield 61, 3) := by decide +kernel
theorem dX4_on_4 : decode cX4_on 4 = .ok (.ifCond .ne 10, 3) := by decide +kernel
theorem dX4_on_7 : decode cX4_on 7 = .ok (.aload_n 0, 1) := by decide +kernel
theorem dX4_on_8 : decode cX4_on 8 = .ok (.bipush (-3), 2) := by decide +kernel
theorem dX4_on_10 : decode cX4_on 10 = .ok (.invokevirtual 65, 3) := by decide +kernel
theorem dX4_on_13 : decode cX4_on 13 = .ok (.ireturn, 1) := by decide +kernel
theorem dX4_on_14 : decode cX4_on 14 = .ok (.aload_n 0, 1) := by decide +kernel
theorem dX4_on_15 : decode cX4_on 15 = .ok (.getfield 20, 3) := by decide +kernel
theorem dX4_on_18 : decode cX4_on 18 = .ok (.aload_n 0, 1) := by decide +kernel
theorem dX4_on_19 : decode cX4_on 19 = .ok (.getfield 31, 3) := by decide +kernel
theorem dX4_on_22 : decode cX4_on 22 = .ok (.invokevirtual 219, 3) := by decide +kernel
theorem dX4_on_25 : decode cX4_on 25 = .ok (.aload_n 0, 1) := by decide +kernel
theorem dX4_on_26 : decode cX4_on 26 = .ok (.getfield 27, 3) := by decide +kernel
theorem dX4_on_29 : decode cX4_on 29 = .ok (.aload_n 0, 1) := by decide +kernel
theorem dX4_on_30 : decode cX4_on 30 = .ok (.getfield 20, 3) := by decide +kernel
theorem dX4_on_33 : decode cX4_on 33 = .ok (.invokevirtual 223, 3) := by decide +kernel
theorem dX4_on_36 : decode cX4_on 36 = .ok (.aload_n 0, 1) := by decide +kernel
theorem dX4_on_37 : decode cX4_on 37 = .ok (.getfield 20, 3) := by decide +kernel
theorem dX4_on_40 : decode cX4_on 40 = .ok (.getfield 132, 3) := by decide +kernel
theorem dX4_on_43 : decode cX4_on 43 = .ok (.ireturn, 1) := by decide +kernel
set_option maxRecDepth 20000 in
theorem ggX4_count_X4_settingOf : GoodIn wsX4_count wsX4_settingOf := goodIn_r _ [13, 2, 14, 15, 16, 24, 25, 26, 27, 28, 29, 30, 31, 32, 33, 34, 35, 36, 37, 38, 39, 40, 41, 42, 43, 44, 45, 46, 47, 48, 49, 50, 51, 52] (by decide +kernel) (by decide +kernel)
set_option maxRecDepth 20000 in
theorem gX4_count_X4_settingOf : GoodIn wsX4_count (wsV RX4 116 RX4 yX4_settingOf wsX4_settingOf) := goodIn_app (goodIn_of _ (by decide +kernel)) ggX4_count_X4_settingOf
set_option maxRecDepth 20000 in
theorem ggX4_count_X2_allWorth : GoodIn wsX4_count wsX2_allWorth := goodIn_r _ [21, 22, 23, 36, 37, 38, 39, 40, 41, 42, 43, 44, 45, 46, 47, 48, 49, 50, 51, 52] (by decide +kernel) (by decide +kernel)
set_option maxRecDepth 20000 in
theorem gX4_count_X2_allWorth : GoodIn wsX4_count (wsV RX4 229 RX2 yX2_allWorth wsX2_allWorth) := goodIn_app (goodIn_of _ (by decide +kernel)) ggX4_count_X2_allWorth
theorem dX4_count_0 : decode cX4_count 0 = .ok (.iload_n 1, 1) := by decide +kernel
theorem dX4_count_1 : decode cX4_count 1 = .ok (.bipush 11, 2) := by decide +kernel
theorem dX4_count_3 : decode cX4_count 3 = .ok (.if_icmp .lt 19, 3) := by decide +kernel
theorem dX4_count_6 : decode cX4_count 6 = .ok (.iload_n 1, 1) := by decide +kernel
theorem dX4_count_7 : decode cX4_count 7 = .ok (.bipush 16, 2) := by decide +kernel
theorem dX4_count_9 : decode cX4_count 9 = .ok (.if_icmp .gt 13, 3) := by decide +kernel
theorem dX4_count_12 : decode cX4_count 12 = .ok (.aload_n 0, 1) := by decide +kernel
theorem dX4_count_13 : decode cX4_count 13 = .ok (.getfield 54, 3) := by decide +kernel
theorem dX4_count_16 : decode cX4_count 16 = .ok (.iload_n 1, 1) := by decide +kernel
theorem dX4_count_17 : decode cX4_count 17 = .ok (.bipush 10, 2) := by decide +kernel
theorem dX4_count_19 : decode cX4_count 19 = .ok (.isub, 1) := by decide +kernel
theorem dX4_count_20 : decode cX4_count 20 = .ok (.iaload, 1) := by decide +kernel
theorem dX4_count_21 : decode cX4_count 21 = .ok (.ireturn, 1) := by decide +kernel
theorem dX4_count_22 : decode cX4_count 22 = .ok (.iload_n 1, 1) := by decide +kernel
theorem dX4_count_23 : decode cX4_count 23 = .ok (.tableswitch 102 0 8 #[49, 57, 65, 73, 73, 73, 81, 89, 94], 49) := by decide +kernel
theorem dX4_count_72 : decode cX4_count 72 = .ok (.aload_n 0, 1) := by decide +kernel
theorem dX4_count_73 : decode cX4_count 73 = .ok (.getfield 20, 3) := by decide +kernel
theorem dX4_count_76 : decode cX4_count 76 = .ok (.getfield 132, 3) := by decide +kernel
theorem dX4_count_79 : decode cX4_count 79 = .ok (.ireturn, 1) := by decide +kernel
theorem dX4_count_80 : decode cX4_count 80 = .ok (.aload_n 0, 1) := by decide +kernel
theorem dX4_count_81 : decode cX4_count 81 = .ok (.getfield 20, 3) := by decide +kernel
theorem dX4_count_84 : decode cX4_count 84 = .ok (.getfield 226, 3) := by decide +kernel
theorem dX4_count_87 : decode cX4_count 87 = .ok (.ireturn, 1) := by decide +kernel
theorem dX4_count_88 : decode cX4_count 88 = .ok (.aload_n 0, 1) := by decide +kernel
theorem dX4_count_89 : decode cX4_count 89 = .ok (.getfield 20, 3) := by decide +kernel
theorem dX4_count_92 : decode cX4_count 92 = .ok (.getfield 98, 3) := by decide +kernel
theorem dX4_count_95 : decode cX4_count 95 = .ok (.ireturn, 1) := by decide +kernel
theorem dX4_count_96 : decode cX4_count 96 = .ok (.aload_n 0, 1) := by decide +kernel
theorem dX4_count_97 : decode cX4_count 97 = .ok (.iload_n 1, 1) := by decide +kernel
theorem dX4_count_98 : decode cX4_count 98 = .ok (.iconst 3, 1) := by decide +kernel
theorem dX4_count_99 : decode cX4_count 99 = .ok (.isub, 1) := by decide +kernel
theorem dX4_count_100 : decode cX4_count 100 = .ok (.invokevirtual 116, 3) := by decide +kernel
theorem dX4_count_103 : decode cX4_count 103 = .ok (.ireturn, 1) := by decide +kernel
theorem dX4_count_104 : decode cX4_count 104 = .ok (.aload_n 0, 1) := by decide +kernel
theorem dX4_count_105 : decode cX4_count 105 = .ok (.getfield 20, 3) := by decide +kernel
theorem dX4_count_108 : decode cX4_count 108 = .ok (.invokevirtual 229, 3) := by decide +kernel
theorem dX4_count_111 : decode cX4_count 111 = .ok (.ireturn, 1) := by decide +kernel
theorem dX4_count_112 : decode cX4_count 112 = .ok (.aload_n 0, 1) := by decide +kernel
theorem dX4_count_113 : decode cX4_count 113 = .ok (.getfield 57, 3) := by decide +kernel
theorem dX4_count_116 : decode cX4_count 116 = .ok (.ireturn, 1) := by decide +kernel
theorem dX4_count_117 : decode cX4_count 117 = .ok (.aload_n 0, 1) := by decide +kernel
theorem dX4_count_118 : decode cX4_count 118 = .ok (.getfield 40, 3) := by decide +kernel
theorem dX4_count_121 : decode cX4_count 121 = .ok (.getfield 69, 3) := by decide +kernel
theorem dX4_count_124 : decode cX4_count 124 = .ok (.ireturn, 1) := by decide +kernel
theorem dX4_count_125 : decode cX4_count 125 = .ok (.bipush (-9), 2) := by decide +kernel
theorem dX4_count_127 : decode cX4_count 127 = .ok (.ireturn, 1) := by decide +kernel
theorem dX4_refuse_0 : decode cX4_refuse 0 = .ok (.iload_n 1, 1) := by decide +kernel
theorem dX4_refuse_1 : decode cX4_refuse 1 = .ok (.ineg, 1) := by decide +kernel
theorem dX4_refuse_2 : decode cX4_refuse 2 = .ok (.istore_n 2, 1) := by decide +kernel
theorem dX4_refuse_3 : decode cX4_refuse 3 = .ok (.iload_n 2, 1) := by decide +kernel
theorem dX4_refuse_4 : decode cX4_refuse 4 = .ok (.iconst 1, 1) := by decide +kernel
theorem dX4_refuse_5 : decode cX4_refuse 5 = .ok (.if_icmp .lt 22, 3) := by decide +kernel
theorem dX4_refuse_8 : decode cX4_refuse 8 = .ok (.iload_n 2, 1) := by decide +kernel
theorem dX4_refuse_9 : decode cX4_refuse 9 = .ok (.aload_n 0, 1) := by decide +kernel
theorem dX4_refuse_10 : decode cX4_refuse 10 = .ok (.getfield 54, 3) := by decide +kernel
theorem dX4_refuse_13 : decode cX4_refuse 13 = .ok (.arraylength, 1) := by decide +kernel
theorem dX4_refuse_14 : decode cX4_refuse 14 = .ok (.if_icmp .ge 13, 3) := by decide +kernel
theorem dX4_refuse_17 : decode cX4_refuse 17 = .ok (.aload_n 0, 1) := by decide +kernel
theorem dX4_refuse_18 : decode cX4_refuse 18 = .ok (.getfield 54, 3) := by decide +kernel
theorem dX4_refuse_21 : decode cX4_refuse 21 = .ok (.iload_n 2, 1) := by decide +kernel
theorem dX4_refuse_22 : decode cX4_refuse 22 = .ok (.dup2, 1) := by decide +kernel
theorem dX4_refuse_23 : decode cX4_refuse 23 = .ok (.iaload, 1) := by decide +kernel
theorem dX4_refuse_24 : decode cX4_refuse 24 = .ok (.iconst 1, 1) := by decide +kernel
theorem dX4_refuse_25 : decode cX4_refuse 25 = .ok (.iadd, 1) := by decide +kernel
theorem dX4_refuse_26 : decode cX4_refuse 26 = .ok (.iastore, 1) := by decide +kernel
theorem dX4_refuse_27 : decode cX4_refuse 27 = .ok (.iload_n 1, 1) := by decide +kernel
theorem dX4_refuse_28 : decode cX4_refuse 28 = .ok (.ireturn, 1) := by decide +kernel
set_option maxRecDepth 20000 in
theorem ggX4_refuseLong_X4_refuse : GoodIn wsX4_refuseLong wsX4_refuse := goodIn_r _ [6, 7, 8, 9, 10, 11, 12, 13, 14, 15, 16, 17, 18, 19] (by decide +kernel) (by decide +kernel)
set_option maxRecDepth 20000 in
theorem gX4_refuseLong_X4_refuse : GoodIn wsX4_refuseLong (wsV RX4 65 RX4 yX4_refuse wsX4_refuse) := goodIn_app (goodIn_of _ (by decide +kernel)) ggX4_refuseLong_X4_refuse
theorem dX4_refuseLong_0 : decode cX4_refuseLong 0 = .ok (.ldc2_w 232, 3) := by decide +kernel
theorem dX4_refuseLong_3 : decode cX4_refuseLong 3 = .ok (.aload_n 0, 1) := by decide +kernel
theorem dX4_refuseLong_4 : decode cX4_refuseLong 4 = .ok (.iload_n 1, 1) := by decide +kernel
theorem dX4_refuseLong_5 : decode cX4_refuseLong 5 = .ok (.invokevirtual 65, 3) := by decide +kernel
theorem dX4_refuseLong_8 : decode cX4_refuseLong 8 = .ok (.i2l, 1) := by decide +kernel
theorem dX4_refuseLong_9 : decode cX4_refuseLong 9 = .ok (.lsub, 1) := by decide +kernel
theorem dX4_refuseLong_10 : decode cX4_refuseLong 10 = .ok (.lreturn, 1) := by decide +kernel
theorem dX4_refusalOfPart_0 : decode cX4_refusalOfPart 0 = .ok (.iload_n 1, 1) := by decide +kernel
theorem dX4_refusalOfPart_1 : decode cX4_refusalOfPart 1 = .ok (.ifCond .lt 8, 3) := by decide +kernel
theorem dX4_refusalOfPart_4 : decode cX4_refusalOfPart 4 = .ok (.iload_n 1, 1) := by decide +kernel
theorem dX4_refusalOfPart_5 : decode cX4_refusalOfPart 5 = .ok (.iconst 1, 1) := by decide +kernel
theorem dX4_refusalOfPart_6 : decode cX4_refusalOfPart 6 = .ok (.if_icmp .le 6, 3) := by decide +kernel
theorem dX4_refusalOfPart_9 : decode cX4_refusalOfPart 9 = .ok (.bipush (-2), 2) := by decide +kernel
theorem dX4_refusalOfPart_11 : decode cX4_refusalOfPart 11 = .ok (.ireturn, 1) := by decide +kernel
theorem dX4_refusalOfPart_12 : decode cX4_refusalOfPart 12 = .ok (.aload_n 0, 1) := by decide +kernel
theorem dX4_refusalOfPart_13 : decode cX4_refusalOfPart 13 = .ok (.getfield 20, 3) := by decide +kernel
theorem dX4_refusalOfPart_16 : decode cX4_refusalOfPart 16 = .ok (.getfield 132, 3) := by decide +kernel
theorem dX4_refusalOfPart_19 : decode cX4_refusalOfPart 19 = .ok (.ifCond .ne 8, 3) := by decide +kernel
theorem dX4_refusalOfPart_22 : decode cX4_refusalOfPart 22 = .ok (.bipush (-3), 2) := by decide +kernel
theorem dX4_refusalOfPart_24 : decode cX4_refusalOfPart 24 = .ok (.goto 4, 3) := by decide +kernel
theorem dX4_refusalOfPart_27 : decode cX4_refusalOfPart 27 = .ok (.iconst 0, 1) := by decide +kernel
theorem dX4_refusalOfPart_28 : decode cX4_refusalOfPart 28 = .ok (.ireturn, 1) := by decide +kernel
theorem dX4_refusalOfBest_0 : decode cX4_refusalOfBest 0 = .ok (.iload_n 1, 1) := by decide +kernel
theorem dX4_refusalOfBest_1 : decode cX4_refusalOfBest 1 = .ok (.ifCond .lt 8, 3) := by decide +kernel
theorem dX4_refusalOfBest_4 : decode cX4_refusalOfBest 4 = .ok (.iload_n 1, 1) := by decide +kernel
theorem dX4_refusalOfBest_5 : decode cX4_refusalOfBest 5 = .ok (.iconst 2, 1) := by decide +kernel
theorem dX4_refusalOfBest_6 : decode cX4_refusalOfBest 6 = .ok (.if_icmp .le 6, 3) := by decide +kernel
theorem dX4_refusalOfBest_9 : decode cX4_refusalOfBest 9 = .ok (.bipush (-2), 2) := by decide +kernel
theorem dX4_refusalOfBest_11 : decode cX4_refusalOfBest 11 = .ok (.ireturn, 1) := by decide +kernel
theorem dX4_refusalOfBest_12 : decode cX4_refusalOfBest 12 = .ok (.aload_n 0, 1) := by decide +kernel
theorem dX4_refusalOfBest_13 : decode cX4_refusalOfBest 13 = .ok (.getfield 20, 3) := by decide +kernel
theorem dX4_refusalOfBest_16 : decode cX4_refusalOfBest 16 = .ok (.getfield 132, 3) := by decide +kernel
theorem dX4_refusalOfBest_19 : decode cX4_refusalOfBest 19 = .ok (.ifCond .ne 8, 3) := by decide +kernel
theorem dX4_refusalOfBest_22 : decode cX4_refusalOfBest 22 = .ok (.bipush (-3), 2) := by decide +kernel
theorem dX4_refusalOfBest_24 : decode cX4_refusalOfBest 24 = .ok (.goto 4, 3) := by decide +kernel
theorem dX4_refusalOfBest_27 : decode cX4_refusalOfBest 27 = .ok (.iconst 0, 1) := by decide +kernel
theorem dX4_refusalOfBest_28 : decode cX4_refusalOfBest 28 = .ok (.ireturn, 1) := by decide +kernel
set_option maxRecDepth 20000 in
theorem ggX4_refusalOfBestPart_X4_refusalOfPart : GoodIn wsX4_refusalOfBestPart wsX4_refusalOfPart := goodIn_r _ [5, 6, 7, 8, 9, 10, 11, 12, 13, 14, 15, 16, 17, 18, 19, 20, 21, 22, 23, 24, 25, 26, 27, 28, 29, 30, 31, 32, 33, 34, 35, 36] (by decide +kernel) (by decide +kernel)
set_option maxRecDepth 20000 in
theorem gX4_refusalOfBestPart_X4_refusalOfPart : GoodIn wsX4_refusalOfBestPart (wsV RX4 147 RX4 yX4_refusalOfPart wsX4_refusalOfPart) := goodIn_app (goodIn_of _ (by decide +kernel)) ggX4_refusalOfBestPart_X4_refusalOfPart
theorem dX4_refusalOfBestPart_0 : decode cX4_refusalOfBestPart 0 = .ok (.iload_n 1, 1) := by decide +kernel
theorem dX4_refusalOfBestPart_1 : decode cX4_refusalOfBestPart 1 = .ok (.ifCond .lt 8, 3) := by decide +kernel
theorem dX4_refusalOfBestPart_4 : decode cX4_refusalOfBestPart 4 = .ok (.iload_n 1, 1) := by decide +kernel
theorem dX4_refusalOfBestPart_5 : decode cX4_refusalOfBestPart 5 = .ok (.iconst 2, 1) := by decide +kernel
theorem dX4_refusalOfBestPart_6 : decode cX4_refusalOfBestPart 6 = .ok (.if_icmp .le 6, 3) := by decide +kernel
theorem dX4_refusalOfBestPart_9 : decode cX4_refusalOfBestPart 9 = .ok (.bipush (-2), 2) := by decide +kernel
theorem dX4_refusalOfBestPart_11 : decode cX4_refusalOfBestPart 11 = .ok (.ireturn, 1) := by decide +kernel
theorem dX4_refusalOfBestPart_12 : decode cX4_refusalOfBestPart 12 = .ok (.aload_n 0, 1) := by decide +kernel
theorem dX4_refusalOfBestPart_13 : decode cX4_refusalOfBestPart 13 = .ok (.iload_n 2, 1) := by decide +kernel
theorem dX4_refusalOfBestPart_14 : decode cX4_refusalOfBestPart 14 = .ok (.invokevirtual 147, 3) := by decide +kernel
theorem dX4_refusalOfBestPart_17 : decode cX4_refusalOfBestPart 17 = .ok (.ireturn, 1) := by decide +kernel
theorem dX4_isPlace_0 : decode cX4_isPlace 0 = .ok (.iload_n 1, 1) := by decide +kernel
theorem dX4_isPlace_1 : decode cX4_isPlace 1 = .ok (.ifCond .lt 18, 3) := by decide +kernel
theorem dX4_isPlace_4 : decode cX4_isPlace 4 = .ok (.iload_n 1, 1) := by decide +kernel
theorem dX4_isPlace_5 : decode cX4_isPlace 5 = .ok (.aload_n 0, 1) := by decide +kernel
theorem dX4_isPlace_6 : decode cX4_isPlace 6 = .ok (.getfield 20, 3) := by decide +kernel
theorem dX4_isPlace_9 : decode cX4_isPlace 9 = .ok (.getfield 132, 3) := by decide +kernel
theorem dX4_isPlace_12 : decode cX4_isPlace 12 = .ok (.if_icmp .ge 7, 3) := by decide +kernel
theorem dX4_isPlace_15 : decode cX4_isPlace 15 = .ok (.iconst 1, 1) := by decide +kernel
theorem dX4_isPlace_16 : decode cX4_isPlace 16 = .ok (.goto 4, 3) := by decide +kernel
theorem dX4_isPlace_19 : decode cX4_isPlace 19 = .ok (.iconst 0, 1) := by decide +kernel
theorem dX4_isPlace_20 : decode cX4_isPlace 20 = .ok (.ireturn, 1) := by decide +kernel
theorem dX4_mostOfSetting_0 : decode cX4_mostOfSetting 0 = .ok (.iload_n 0, 1) := by decide +kernel
theorem dX4_mostOfSetting_1 : decode cX4_mostOfSetting 1 = .ok (.ifCond .ne 6, 3) := by decide +kernel
theorem dX4_mostOfSetting_4 : decode cX4_mostOfSetting 4 = .ok (.bipush 9, 2) := by decide +kernel
theorem dX4_mostOfSetting_6 : decode cX4_mostOfSetting 6 = .ok (.ireturn, 1) := by decide +kernel
theorem dX4_mostOfSetting_7 : decode cX4_mostOfSetting 7 = .ok (.iload_n 0, 1) := by decide +kernel
theorem dX4_mostOfSetting_8 : decode cX4_mostOfSetting 8 = .ok (.iconst 1, 1) := by decide +kernel
theorem dX4_mostOfSetting_9 : decode cX4_mostOfSetting 9 = .ok (.if_icmp .ne 8, 3) := by decide +kernel
theorem dX4_mostOfSetting_12 : decode cX4_mostOfSetting 12 = .ok (.bipush 60, 2) := by decide +kernel
theorem dX4_mostOfSetting_14 : decode cX4_mostOfSetting 14 = .ok (.goto 4, 3) := by decide +kernel
theorem dX4_mostOfSetting_17 : decode cX4_mostOfSetting 17 = .ok (.iconst 5, 1) := by decide +kernel
theorem dX4_mostOfSetting_18 : decode cX4_mostOfSetting 18 = .ok (.ireturn, 1) := by decide +kernel
theorem dX4_settingOf_0 : decode cX4_settingOf 0 = .ok (.iload_n 1, 1) := by decide +kernel
theorem dX4_settingOf_1 : decode cX4_settingOf 1 = .ok (.ifCond .ne 11, 3) := by decide +kernel
theorem dX4_settingOf_4 : decode cX4_settingOf 4 = .ok (.aload_n 0, 1) := by decide +kernel
theorem dX4_settingOf_5 : decode cX4_settingOf 5 = .ok (.getfield 20, 3) := by decide +kernel
theorem dX4_settingOf_8 : decode cX4_settingOf 8 = .ok (.getfield 119, 3) := by decide +kernel
theorem dX4_settingOf_11 : decode cX4_settingOf 11 = .ok (.ireturn, 1) := by decide +kernel
theorem dX4_settingOf_12 : decode cX4_settingOf 12 = .ok (.iload_n 1, 1) := by decide +kernel
theorem dX4_settingOf_13 : decode cX4_settingOf 13 = .ok (.iconst 1, 1) := by decide +kernel
theorem dX4_settingOf_14 : decode cX4_settingOf 14 = .ok (.if_icmp .ne 13, 3) := by decide +kernel
theorem dX4_settingOf_17 : decode cX4_settingOf 17 = .ok (.aload_n 0, 1) := by decide +kernel
theorem dX4_settingOf_18 : decode cX4_settingOf 18 = .ok (.getfield 20, 3) := by decide +kernel
theorem dX4_settingOf_21 : decode cX4_settingOf 21 = .ok (.getfield 122, 3) := by decide +kernel
theorem dX4_settingOf_24 : decode cX4_settingOf 24 = .ok (.goto 10, 3) := by decide +kernel
theorem dX4_settingOf_27 : decode cX4_settingOf 27 = .ok (.aload_n 0, 1) := by decide +kernel
theorem dX4_settingOf_28 : decode cX4_settingOf 28 = .ok (.getfield 20, 3) := by decide +kernel
theorem dX4_settingOf_31 : decode cX4_settingOf 31 = .ok (.getfield 125, 3) := by decide +kernel
theorem dX4_settingOf_34 : decode cX4_settingOf 34 = .ok (.ireturn, 1) := by decide +kernel
set_option maxRecDepth 20000 in
theorem ggX4_tellTown_X1_firstMisfit : GoodIn wsX4_tellTown wsX1_firstMisfit := goodIn_r _ [9, 10, 11, 12, 13, 14, 15, 16, 17, 18, 19, 20, 21, 22, 23, 24, 25, 8, 26, 27, 28, 29, 30, 31, 32, 33, 34, 35, 36, 37, 38, 39, 40, 41, 42, 43, 44, 45, 46, 47, 48, 49, 50, 51, 52, 53, 54, 55, 56, 57, 58, 59, 60, 61, 62, 63, 64, 65, 66, 67, 68, 69, 70, 71, 72, 73, 74, 75, 76, 77, 78, 79, 80, 81, 82, 83, 84, 85, 86, 87, 88, 89, 90, 91, 92, 93, 94, 95, 96, 97, 98, 99, 100, 101, 102, 103, 104, 105, 106, 107, 108, 109, 110, 111, 112, 113, 114, 115, 116, 117, 118, 119, 120, 121, 122, 123, 124, 125, 126, 127, 128, 129, 130, 131, 243, 244] (by decide +kernel) (by decide +kernel)
set_option maxRecDepth 20000 in
theorem gX4_tellTown_X1_firstMisfit : GoodIn wsX4_tellTown (wsV RX4 234 RX1 yX1_firstMisfit wsX1_firstMisfit) := goodIn_app (goodIn_of _ (by decide +kernel)) ggX4_tellTown_X1_firstMisfit
set_option maxRecDepth 20000 in
theorem ggX4_tellTown_X2_becomeLike : GoodIn wsX4_tellTown wsX2_becomeLike := goodIn_r _ [136, 137, 138, 139, 140, 141, 142, 143, 144, 145, 146, 147, 148, 149, 150, 151, 152, 153, 154, 155, 156, 157, 245, 246, 247, 248, 249, 250, 251, 252, 253, 254, 255, 256, 257, 258, 259, 260, 261] (by decide +kernel) (by decide +kernel)
set_option maxRecDepth 20000 in
theorem gX4_tellTown_X2_becomeLike : GoodIn wsX4_tellTown (wsV RX4 219 RX2 yX2_becomeLike wsX2_becomeLike) := goodIn_app (goodIn_of _ (by decide +kernel)) ggX4_tellTown_X2_becomeLike
set_option maxRecDepth 20000 in
theorem ggX4_tellTown_X1_firstWrongStatement : GoodIn wsX4_tellTown wsX1_firstWrongStatement := goodIn_r _ [161, 10, 11, 162, 163, 164, 8, 165, 166, 167, 168, 169, 71, 72, 73, 15, 74, 75, 76, 77, 78, 17, 35, 36, 37, 38, 22, 23, 79, 13, 14, 16, 18, 19, 20, 21, 80, 81, 41, 82, 83, 84, 85, 86, 87, 88, 89, 90, 91, 92, 93, 94, 95, 96, 97, 53, 98, 99, 100, 101, 102, 103, 104, 105, 106, 107, 58, 59, 60, 108, 109, 110, 46, 111, 112, 49, 113, 114, 115, 116, 62, 63, 64, 65, 66, 67, 117, 118, 119, 120, 121, 122, 123, 124, 125, 126, 127, 128, 129, 130, 131, 170, 171, 172, 173, 174, 175, 176, 135, 177, 152, 137, 142, 143, 178, 179, 180, 181, 153, 144, 145, 146, 147, 182, 183, 184, 185, 186, 187, 188, 189, 154, 148, 149, 150, 151, 190, 191, 192, 193, 155, 156, 194, 195, 196, 197, 157, 243, 244, 245, 246, 247, 248, 249, 250, 251, 252, 253, 254, 255, 256, 257, 258, 259, 260, 261] (by decide +kernel) (by decide +kernel)
set_option maxRecDepth 20000 in
theorem gX4_tellTown_X1_firstWrongStatement : GoodIn wsX4_tellTown (wsV RX4 237 RX1 yX1_firstWrongStatement wsX1_firstWrongStatement) := goodIn_app (goodIn_of _ (by decide +kernel)) ggX4_tellTown_X1_firstWrongStatement
set_option maxRecDepth 20000 in
theorem ggX4_tellTown_X0_measure : GoodIn wsX4_tellTown wsX0_measure := goodIn_r _ [202, 203, 204, 205, 206, 207, 208, 209, 210, 201, 211, 212, 213, 214, 215, 216, 217, 218, 219, 220, 221, 222, 223, 224, 225, 226, 262, 263, 264, 265, 266, 245, 246, 247, 248, 249, 250, 251, 252, 253, 254, 255, 256, 257, 258, 259, 260, 261] (by decide +kernel) (by decide +kernel)
set_option maxRecDepth 20000 in
theorem gX4_tellTown_X0_measure : GoodIn wsX4_tellTown (wsV RX4 223 RX0 yX0_measure wsX0_measure) := goodIn_app (goodIn_of _ (by decide +kernel)) ggX4_tellTown_X0_measure
set_option maxRecDepth 20000 in
theorem ggX4_tellTown_X1_statements : GoodIn wsX4_tellTown wsX1_statements := goodIn_r _ [230, 10, 11, 243, 244] (by decide +kernel) (by decide +kernel)
set_option maxRecDepth 20000 in
theorem gX4_tellTown_X1_statements : GoodIn wsX4_tellTown (wsV RX4 241 RX1 yX1_statements wsX1_statements) := goodIn_app (goodIn_of _ (by decide +kernel)) ggX4_tellTown_X1_statements
theorem dX4_tellTown_0 : decode cX4_tellTown 0 = .ok (.aload_n 0, 1) := by decide +kernel
theorem dX4_tellTown_1 : decode cX4_tellTown 1 = .ok (.getfield 40, 3) := by decide +kernel
theorem dX4_tellTown_4 : decode cX4_tellTown 4 = .ok (.invokevirtual 234, 3) := by decide +kernel
theorem dX4_tellTown_7 : decode cX4_tellTown 7 = .ok (.istore_n 1, 1) := by decide +kernel
theorem dX4_tellTown_8 : decode cX4_tellTown 8 = .ok (.iload_n 1, 1) := by decide +kernel
theorem dX4_tellTown_9 : decode cX4_tellTown 9 = .ok (.ifCond .lt 9, 3) := by decide +kernel
theorem dX4_tellTown_12 : decode cX4_tellTown 12 = .ok (.sipush (-1000), 3) := by decide +kernel
theorem dX4_tellTown_15 : decode cX4_tellTown 15 = .ok (.iload_n 1, 1) := by decide +kernel
theorem dX4_tellTown_16 : decode cX4_tellTown 16 = .ok (.isub, 1) := by decide +kernel
theorem dX4_tellTown_17 : decode cX4_tellTown 17 = .ok (.ireturn, 1) := by decide +kernel
theorem dX4_tellTown_18 : decode cX4_tellTown 18 = .ok (.aload_n 0, 1) := by decide +kernel
theorem dX4_tellTown_19 : decode cX4_tellTown 19 = .ok (.getfield 34, 3) := by decide +kernel
theorem dX4_tellTown_22 : decode cX4_tellTown 22 = .ok (.aload_n 0, 1) := by decide +kernel
theorem dX4_tellTown_23 : decode cX4_tellTown 23 = .ok (.getfield 20, 3) := by decide +kernel
theorem dX4_tellTown_26 : decode cX4_tellTown 26 = .ok (.invokevirtual 219, 3) := by decide +kernel
theorem dX4_tellTown_29 : decode cX4_tellTown 29 = .ok (.aload_n 0, 1) := by decide +kernel
theorem dX4_tellTown_30 : decode cX4_tellTown 30 = .ok (.getfield 40, 3) := by decide +kernel
theorem dX4_tellTown_33 : decode cX4_tellTown 33 = .ok (.aload_n 0, 1) := by decide +kernel
theorem dX4_tellTown_34 : decode cX4_tellTown 34 = .ok (.getfield 34, 3) := by decide +kernel
theorem dX4_tellTown_37 : decode cX4_tellTown 37 = .ok (.invokevirtual 237, 3) := by decide +kernel
theorem dX4_tellTown_40 : decode cX4_tellTown 40 = .ok (.istore_n 2, 1) := by decide +kernel
theorem dX4_tellTown_41 : decode cX4_tellTown 41 = .ok (.iload_n 2, 1) := by decide +kernel
theorem dX4_tellTown_42 : decode cX4_tellTown 42 = .ok (.ifCond .lt 9, 3) := by decide +kernel
theorem dX4_tellTown_45 : decode cX4_tellTown 45 = .ok (.sipush (-2000), 3) := by decide +kernel
theorem dX4_tellTown_48 : decode cX4_tellTown 48 = .ok (.iload_n 2, 1) := by decide +kernel
theorem dX4_tellTown_49 : decode cX4_tellTown 49 = .ok (.isub, 1) := by decide +kernel
theorem dX4_tellTown_50 : decode cX4_tellTown 50 = .ok (.ireturn, 1) := by decide +kernel
theorem dX4_tellTown_51 : decode cX4_tellTown 51 = .ok (.aload_n 0, 1) := by decide +kernel
theorem dX4_tellTown_52 : decode cX4_tellTown 52 = .ok (.getfield 20, 3) := by decide +kernel
theorem dX4_tellTown_55 : decode cX4_tellTown 55 = .ok (.aload_n 0, 1) := by decide +kernel
theorem dX4_tellTown_56 : decode cX4_tellTown 56 = .ok (.getfield 34, 3) := by decide +kernel
theorem dX4_tellTown_59 : decode cX4_tellTown 59 = .ok (.invokevirtual 219, 3) := by decide +kernel
theorem dX4_tellTown_62 : decode cX4_tellTown 62 = .ok (.aload_n 0, 1) := by decide +kernel
theorem dX4_tellTown_63 : decode cX4_tellTown 63 = .ok (.getfield 27, 3) := by decide +kernel
theorem dX4_tellTown_66 : decode cX4_tellTown 66 = .ok (.aload_n 0, 1) := by decide +kernel
theorem dX4_tellTown_67 : decode cX4_tellTown 67 = .ok (.getfield 20, 3) := by decide +kernel
theorem dX4_tellTown_70 : decode cX4_tellTown 70 = .ok (.invokevirtual 223, 3) := by decide +kernel
theorem dX4_tellTown_73 : decode cX4_tellTown 73 = .ok (.aload_n 0, 1) := by decide +kernel
theorem dX4_tellTown_74 : decode cX4_tellTown 74 = .ok (.getfield 40, 3) := by decide +kernel
theorem dX4_tellTown_77 : decode cX4_tellTown 77 = .ok (.invokevirtual 241, 3) := by decide +kernel
theorem dX4_tellTown_80 : decode cX4_tellTown 80 = .ok (.ireturn, 1) := by decide +kernel
set_option maxRecDepth 20000 in
theorem ggX4_between_X4_isPlace : GoodIn wsX4_between wsX4_isPlace := goodIn_r _ [6, 7, 8, 27, 28, 29, 30, 31, 32, 33, 34, 35, 36, 37, 38, 39, 40, 41, 42, 43, 44, 45, 46, 47, 48, 49, 50, 51, 52, 53, 54, 55] (by decide +kernel) (by decide +kernel)
set_option maxRecDepth 20000 in
theorem gX4_between_X4_isPlace : GoodIn wsX4_between (wsV RX4 79 RX4 yX4_isPlace wsX4_isPlace) := goodIn_app (goodIn_of _ (by decide +kernel)) ggX4_between_X4_isPlace
set_option maxRecDepth 20000 in
theorem ggX4_between_X4_refuse : GoodIn wsX4_between wsX4_refuse := goodIn_r _ [12, 13, 27, 28, 29, 30, 31, 32, 33, 34, 35, 36, 37, 38] (by decide +kernel) (by decide +kernel)
set_option maxRecDepth 20000 in
theorem gX4_between_X4_refuse : GoodIn wsX4_between (wsV RX4 65 RX4 yX4_refuse wsX4_refuse) := goodIn_app (goodIn_of _ (by decide +kernel)) ggX4_between_X4_refuse
set_option maxRecDepth 20000 in
theorem ggX4_between_X0_minutesOf : GoodIn wsX4_between wsX0_minutesOf := goodIn_r _ [18, 19, 20, 56, 57, 58, 59, 60] (by decide +kernel) (by decide +kernel)
set_option maxRecDepth 20000 in
theorem gX4_between_X0_minutesOf : GoodIn wsX4_between (wsV RX4 210 RX0 yX0_minutesOf wsX0_minutesOf) := goodIn_app (goodIn_of _ (by decide +kernel)) ggX4_between_X0_minutesOf
set_option maxRecDepth 20000 in
theorem ggX4_between_X0_stallsOf : GoodIn wsX4_between wsX0_stallsOf := goodIn_r _ [24, 25, 26, 56, 57, 58, 59, 60] (by decide +kernel) (by decide +kernel)
set_option maxRecDepth 20000 in
theorem gX4_between_X0_stallsOf : GoodIn wsX4_between (wsV RX4 244 RX0 yX0_stallsOf wsX0_stallsOf) := goodIn_app (goodIn_of _ (by decide +kernel)) ggX4_between_X0_stallsOf
theorem dX4_between_0 : decode cX4_between 0 = .ok (.aload_n 0, 1) := by decide +kernel
theorem dX4_between_1 : decode cX4_between 1 = .ok (.iload_n 1, 1) := by decide +kernel
theorem dX4_between_2 : decode cX4_between 2 = .ok (.invokevirtual 79, 3) := by decide +kernel
theorem dX4_between_5 : decode cX4_between 5 = .ok (.ifCond .eq 11, 3) := by decide +kernel
theorem dX4_between_8 : decode cX4_between 8 = .ok (.aload_n 0, 1) := by decide +kernel
theorem dX4_between_9 : decode cX4_between 9 = .ok (.iload_n 2, 1) := by decide +kernel
theorem dX4_between_10 : decode cX4_between 10 = .ok (.invokevirtual 79, 3) := by decide +kernel
theorem dX4_between_13 : decode cX4_between 13 = .ok (.ifCond .ne 9, 3) := by decide +kernel
theorem dX4_between_16 : decode cX4_between 16 = .ok (.aload_n 0, 1) := by decide +kernel
theorem dX4_between_17 : decode cX4_between 17 = .ok (.iconst (-1), 1) := by decide +kernel
theorem dX4_between_18 : decode cX4_between 18 = .ok (.invokevirtual 65, 3) := by decide +kernel
theorem dX4_between_21 : decode cX4_between 21 = .ok (.ireturn, 1) := by decide +kernel
theorem dX4_between_22 : decode cX4_between 22 = .ok (.iload_n 3, 1) := by decide +kernel
theorem dX4_between_23 : decode cX4_between 23 = .ok (.ifCond .lt 8, 3) := by decide +kernel
theorem dX4_between_26 : decode cX4_between 26 = .ok (.iload_n 3, 1) := by decide +kernel
theorem dX4_between_27 : decode cX4_between 27 = .ok (.iconst 1, 1) := by decide +kernel
theorem dX4_between_28 : decode cX4_between 28 = .ok (.if_icmp .le 10, 3) := by decide +kernel
theorem dX4_between_31 : decode cX4_between 31 = .ok (.aload_n 0, 1) := by decide +kernel
theorem dX4_between_32 : decode cX4_between 32 = .ok (.bipush (-2), 2) := by decide +kernel
theorem dX4_between_34 : decode cX4_between 34 = .ok (.invokevirtual 65, 3) := by decide +kernel
theorem dX4_between_37 : decode cX4_between 37 = .ok (.ireturn, 1) := by decide +kernel
theorem dX4_between_38 : decode cX4_between 38 = .ok (.iload_n 3, 1) := by decide +kernel
theorem dX4_between_39 : decode cX4_between 39 = .ok (.ifCond .ne 17, 3) := by decide +kernel
theorem dX4_between_42 : decode cX4_between 42 = .ok (.aload_n 0, 1) := by decide +kernel
theorem dX4_between_43 : decode cX4_between 43 = .ok (.getfield 27, 3) := by decide +kernel
theorem dX4_between_46 : decode cX4_between 46 = .ok (.iload_n 1, 1) := by decide +kernel
theorem dX4_between_47 : decode cX4_between 47 = .ok (.iload_n 2, 1) := by decide +kernel
theorem dX4_between_48 : decode cX4_between 48 = .ok (.iload 4, 2) := by decide +kernel
theorem dX4_between_50 : decode cX4_between 50 = .ok (.invokevirtual 210, 3) := by decide +kernel
theorem dX4_between_53 : decode cX4_between 53 = .ok (.goto 14, 3) := by decide +kernel
theorem dX4_between_56 : decode cX4_between 56 = .ok (.aload_n 0, 1) := by decide +kernel
theorem dX4_between_57 : decode cX4_between 57 = .ok (.getfield 27, 3) := by decide +kernel
theorem dX4_between_60 : decode cX4_between 60 = .ok (.iload_n 1, 1) := by decide +kernel
theorem dX4_between_61 : decode cX4_between 61 = .ok (.iload_n 2, 1) := by decide +kernel
theorem dX4_between_62 : decode cX4_between 62 = .ok (.iload 4, 2) := by decide +kernel
theorem dX4_between_64 : decode cX4_between 64 = .ok (.invokevirtual 244, 3) := by decide +kernel
theorem dX4_between_67 : decode cX4_between 67 = .ok (.ireturn, 1) := by decide +kernel
set_option maxRecDepth 20000 in
theorem ggX4_walkedFrom_X0_minutesOf : GoodIn wsX4_walkedFrom wsX0_minutesOf := goodIn_r _ [6, 7, 8, 21, 22, 23, 24, 25] (by decide +kernel) (by decide +kernel)
set_option maxRecDepth 20000 in
theorem gX4_walkedFrom_X0_minutesOf : GoodIn wsX4_walkedFrom (wsV RX4 210 RX0 yX0_minutesOf wsX0_minutesOf) := goodIn_app (goodIn_of _ (by decide +kernel)) ggX4_walkedFrom_X0_minutesOf
theorem dX4_walkedFrom_0 : decode cX4_walkedFrom 0 = .ok (.aload_n 0, 1) := by decide +kernel
theorem dX4_walkedFrom_1 : decode cX4_walkedFrom 1 = .ok (.getfield 27, 3) := by decide +kernel
theorem dX4_walkedFrom_4 : decode cX4_walkedFrom 4 = .ok (.iload_n 1, 1) := by decide +kernel
theorem dX4_walkedFrom_5 : decode cX4_walkedFrom 5 = .ok (.iload_n 2, 1) := by decide +kernel
theorem dX4_walkedFrom_6 : decode cX4_walkedFrom 6 = .ok (.iconst 0, 1) := by decide +kernel
theorem dX4_walkedFrom_7 : decode cX4_walkedFrom 7 = .ok (.invokevirtual 210, 3) := by decide +kernel
theorem dX4_walkedFrom_10 : decode cX4_walkedFrom 10 = .ok (.istore 4, 2) := by decide +kernel
theorem dX4_walkedFrom_12 : decode cX4_walkedFrom 12 = .ok (.aload_n 0, 1) := by decide +kernel
theorem dX4_walkedFrom_13 : decode cX4_walkedFrom 13 = .ok (.getfield 27, 3) := by decide +kernel
theorem dX4_walkedFrom_16 : decode cX4_walkedFrom 16 = .ok (.iload_n 1, 1) := by decide +kernel
theorem dX4_walkedFrom_17 : decode cX4_walkedFrom 17 = .ok (.iload_n 3, 1) := by decide +kernel
theorem dX4_walkedFrom_18 : decode cX4_walkedFrom 18 = .ok (.iconst 0, 1) := by decide +kernel
theorem dX4_walkedFrom_19 : decode cX4_walkedFrom 19 = .ok (.invokevirtual 210, 3) := by decide +kernel
theorem dX4_walkedFrom_22 : decode cX4_walkedFrom 22 = .ok (.istore 5, 2) := by decide +kernel
theorem dX4_walkedFrom_24 : decode cX4_walkedFrom 24 = .ok (.iload 4, 2) := by decide +kernel
theorem dX4_walkedFrom_26 : decode cX4_walkedFrom 26 = .ok (.ifCond .lt 8, 3) := by decide +kernel
theorem dX4_walkedFrom_29 : decode cX4_walkedFrom 29 = .ok (.iload 5, 2) := by decide +kernel
theorem dX4_walkedFrom_31 : decode cX4_walkedFrom 31 = .ok (.ifCond .ge 6, 3) := by decide +kernel
theorem dX4_walkedFrom_34 : decode cX4_walkedFrom 34 = .ok (.bipush (-9), 2) := by decide +kernel
theorem dX4_walkedFrom_36 : decode cX4_walkedFrom 36 = .ok (.ireturn, 1) := by decide +kernel
theorem dX4_walkedFrom_37 : decode cX4_walkedFrom 37 = .ok (.iconst 5, 1) := by decide +kernel
theorem dX4_walkedFrom_38 : decode cX4_walkedFrom 38 = .ok (.iconst 2, 1) := by decide +kernel
theorem dX4_walkedFrom_39 : decode cX4_walkedFrom 39 = .ok (.iload 4, 2) := by decide +kernel
theorem dX4_walkedFrom_41 : decode cX4_walkedFrom 41 = .ok (.imul, 1) := by decide +kernel
theorem dX4_walkedFrom_42 : decode cX4_walkedFrom 42 = .ok (.iconst 2, 1) := by decide +kernel
theorem dX4_walkedFrom_43 : decode cX4_walkedFrom 43 = .ok (.iload 5, 2) := by decide +kernel
theorem dX4_walkedFrom_45 : decode cX4_walkedFrom 45 = .ok (.imul, 1) := by decide +kernel
theorem dX4_walkedFrom_46 : decode cX4_walkedFrom 46 = .ok (.iadd, 1) := by decide +kernel
theorem dX4_walkedFrom_47 : decode cX4_walkedFrom 47 = .ok (.imul, 1) := by decide +kernel
theorem dX4_walkedFrom_48 : decode cX4_walkedFrom 48 = .ok (.ireturn, 1) := by decide +kernel
theorem dX4_orderOfRow_0 : decode cX4_orderOfRow 0 = .ok (.iconst 0, 1) := by decide +kernel
theorem dX4_orderOfRow_1 : decode cX4_orderOfRow 1 = .ok (.istore_n 2, 1) := by decide +kernel
theorem dX4_orderOfRow_2 : decode cX4_orderOfRow 2 = .ok (.iconst 0, 1) := by decide +kernel
theorem dX4_orderOfRow_3 : decode cX4_orderOfRow 3 = .ok (.istore_n 3, 1) := by decide +kernel
theorem dX4_orderOfRow_4 : decode cX4_orderOfRow 4 = .ok (.iconst 0, 1) := by decide +kernel
theorem dX4_orderOfRow_5 : decode cX4_orderOfRow 5 = .ok (.istore 4, 2) := by decide +kernel
theorem dX4_orderOfRow_7 : decode cX4_orderOfRow 7 = .ok (.iload 4, 2) := by decide +kernel
theorem dX4_orderOfRow_9 : decode cX4_orderOfRow 9 = .ok (.aload_n 0, 1) := by decide +kernel
theorem dX4_orderOfRow_10 : decode cX4_orderOfRow 10 = .ok (.getfield 57, 3) := by decide +kernel
theorem dX4_orderOfRow_13 : decode cX4_orderOfRow 13 = .ok (.if_icmp .ge 74, 3) := by decide +kernel
theorem dX4_orderOfRow_16 : decode cX4_orderOfRow 16 = .ok (.aload_n 0, 1) := by decide +kernel
theorem dX4_orderOfRow_17 : decode cX4_orderOfRow 17 = .ok (.getfield 44, 3) := by decide +kernel
theorem dX4_orderOfRow_20 : decode cX4_orderOfRow 20 = .ok (.iload 4, 2) := by decide +kernel
theorem dX4_orderOfRow_22 : decode cX4_orderOfRow 22 = .ok (.iaload, 1) := by decide +kernel
theorem dX4_orderOfRow_23 : decode cX4_orderOfRow 23 = .ok (.istore 5, 2) := by decide +kernel
theorem dX4_orderOfRow_25 : decode cX4_orderOfRow 25 = .ok (.iconst 1, 1) := by decide +kernel
theorem dX4_orderOfRow_26 : decode cX4_orderOfRow 26 = .ok (.iload 5, 2) := by decide +kernel
theorem dX4_orderOfRow_28 : decode cX4_orderOfRow 28 = .ok (.ishl, 1) := by decide +kernel
theorem dX4_orderOfRow_29 : decode cX4_orderOfRow 29 = .ok (.istore 6, 2) := by decide +kernel
theorem dX4_orderOfRow_31 : decode cX4_orderOfRow 31 = .ok (.iload 5, 2) := by decide +kernel
theorem dX4_orderOfRow_33 : decode cX4_orderOfRow 33 = .ok (.aload_n 0, 1) := by decide +kernel
theorem dX4_orderOfRow_34 : decode cX4_orderOfRow 34 = .ok (.getfield 20, 3) := by decide +kernel
theorem dX4_orderOfRow_37 : decode cX4_orderOfRow 37 = .ok (.getfield 98, 3) := by decide +kernel
theorem dX4_orderOfRow_40 : decode cX4_orderOfRow 40 = .ok (.if_icmp .ge 41, 3) := by decide +kernel
theorem dX4_orderOfRow_43 : decode cX4_orderOfRow 43 = .ok (.iload 5, 2) := by decide +kernel
theorem dX4_orderOfRow_45 : decode cX4_orderOfRow 45 = .ok (.iload_n 1, 1) := by decide +kernel
theorem dX4_orderOfRow_46 : decode cX4_orderOfRow 46 = .ok (.if_icmp .eq 35, 3) := by decide +kernel
theorem dX4_orderOfRow_49 : decode cX4_orderOfRow 49 = .ok (.iload_n 3, 1) := by decide +kernel
theorem dX4_orderOfRow_50 : decode cX4_orderOfRow 50 = .ok (.iload 6, 2) := by decide +kernel
theorem dX4_orderOfRow_52 : decode cX4_orderOfRow 52 = .ok (.iand, 1) := by decide +kernel
theorem dX4_orderOfRow_53 : decode cX4_orderOfRow 53 = .ok (.ifCond .ne 28, 3) := by decide +kernel
theorem dX4_orderOfRow_56 : decode cX4_orderOfRow 56 = .ok (.iload_n 2, 1) := by decide +kernel
theorem dX4_orderOfRow_57 : decode cX4_orderOfRow 57 = .ok (.aload_n 0, 1) := by decide +kernel
theorem dX4_orderOfRow_58 : decode cX4_orderOfRow 58 = .ok (.getfield 48, 3) := by decide +kernel
theorem dX4_orderOfRow_61 : decode cX4_orderOfRow 61 = .ok (.arraylength, 1) := by decide +kernel
theorem dX4_orderOfRow_62 : decode cX4_orderOfRow 62 = .ok (.if_icmp .ge 19, 3) := by decide +kernel
theorem dX4_orderOfRow_65 : decode cX4_orderOfRow 65 = .ok (.iload_n 3, 1) := by decide +kernel
theorem dX4_orderOfRow_66 : decode cX4_orderOfRow 66 = .ok (.iload 6, 2) := by decide +kernel
theorem dX4_orderOfRow_68 : decode cX4_orderOfRow 68 = .ok (.ior, 1) := by decide +kernel
theorem dX4_orderOfRow_69 : decode cX4_orderOfRow 69 = .ok (.istore_n 3, 1) := by decide +kernel
theorem dX4_orderOfRow_70 : decode cX4_orderOfRow 70 = .ok (.aload_n 0, 1) := by decide +kernel
theorem dX4_orderOfRow_71 : decode cX4_orderOfRow 71 = .ok (.getfield 48, 3) := by decide +kernel
theorem dX4_orderOfRow_74 : decode cX4_orderOfRow 74 = .ok (.iload_n 2, 1) := by decide +kernel
theorem dX4_orderOfRow_75 : decode cX4_orderOfRow 75 = .ok (.iload 5, 2) := by decide +kernel
theorem dX4_orderOfRow_77 : decode cX4_orderOfRow 77 = .ok (.iastore, 1) := by decide +kernel
theorem dX4_orderOfRow_78 : decode cX4_orderOfRow 78 = .ok (.iinc 2 1, 3) := by decide +kernel
theorem dX4_orderOfRow_81 : decode cX4_orderOfRow 81 = .ok (.iinc 4 1, 3) := by decide +kernel
theorem dX4_orderOfRow_84 : decode cX4_orderOfRow 84 = .ok (.goto (-77), 3) := by decide +kernel
theorem dX4_orderOfRow_87 : decode cX4_orderOfRow 87 = .ok (.iload_n 2, 1) := by decide +kernel
theorem dX4_orderOfRow_88 : decode cX4_orderOfRow 88 = .ok (.ireturn, 1) := by decide +kernel
set_option maxRecDepth 20000 in
theorem ggX4_goByRow_X3_supposeAsItIs : GoodIn wsX4_goByRow wsX3_supposeAsItIs := goodIn_r _ [7, 8, 9, 10, 11, 12, 13, 14, 15, 16, 17, 6, 18, 19, 20, 21, 22, 23, 24, 25, 26, 27, 28, 29, 30, 31, 32, 33, 34, 35, 36, 37, 38, 39, 120, 121, 122, 123, 124, 125, 126, 127, 128, 129, 130, 131, 132, 133, 134, 135, 136, 137, 138, 139, 140, 141, 142, 143, 144, 145, 146, 147, 148, 149, 150, 151] (by decide +kernel) (by decide +kernel)
set_option maxRecDepth 20000 in
theorem gX4_goByRow_X3_supposeAsItIs : GoodIn wsX4_goByRow (wsV RX4 176 RX3 yX3_supposeAsItIs wsX3_supposeAsItIs) := goodIn_app (goodIn_of _ (by decide +kernel)) ggX4_goByRow_X3_supposeAsItIs
set_option maxRecDepth 20000 in
theorem ggX4_goByRow_X4_orderOfRow : GoodIn wsX4_goByRow wsX4_orderOfRow := goodIn_r _ [44, 45, 46, 47, 48, 2, 108, 109, 110, 111, 112, 113, 114, 115, 116, 117, 118, 119, 135, 136, 137, 138, 139, 140, 141, 142, 143, 144, 145, 146, 147, 148, 149, 150, 151] (by decide +kernel) (by decide +kernel)
set_option maxRecDepth 20000 in
theorem gX4_goByRow_X4_orderOfRow : GoodIn wsX4_goByRow (wsV RX4 185 RX4 yX4_orderOfRow wsX4_orderOfRow) := goodIn_app (goodIn_of _ (by decide +kernel)) ggX4_goByRow_X4_orderOfRow
set_option maxRecDepth 20000 in
theorem ggX4_goByRow_X3_goBy : GoodIn wsX4_goByRow wsX3_goBy := goodIn_r _ [52, 53, 54, 55, 56, 57, 58, 59, 60, 61, 62, 63, 6, 64, 10, 20, 19, 65, 66, 67, 68, 69, 70, 71, 72, 73, 74, 75, 8, 76, 77, 78, 79, 80, 81, 82, 83, 84, 85, 86, 87, 88, 89, 90, 91, 92, 93, 94, 95, 96, 97, 98, 99, 100, 101, 102, 103, 104, 105, 106, 107, 12, 120, 121, 122, 123, 124, 125, 126, 127, 128, 129, 130, 131, 132, 133, 134, 135, 136, 137, 138, 139, 140, 141, 142, 143, 144, 145, 146, 147, 148, 149, 150, 151, 152, 153, 154, 155, 156] (by decide +kernel) (by decide +kernel)
set_option maxRecDepth 20000 in
theorem gX4_goByRow_X3_goBy : GoodIn wsX4_goByRow (wsV RX4 179 RX3 yX3_goBy wsX3_goBy) := goodIn_app (goodIn_of _ (by decide +kernel)) ggX4_goByRow_X3_goBy
theorem dX4_goByRow_0 : decode cX4_goByRow 0 = .ok (.aload_n 0, 1) := by decide +kernel
theorem dX4_goByRow_1 : decode cX4_goByRow 1 = .ok (.getfield 10, 3) := by decide +kernel
theorem dX4_goByRow_4 : decode cX4_goByRow 4 = .ok (.invokevirtual 176, 3) := by decide +kernel
theorem dX4_goByRow_7 : decode cX4_goByRow 7 = .ok (.aload_n 0, 1) := by decide +kernel
theorem dX4_goByRow_8 : decode cX4_goByRow 8 = .ok (.getfield 10, 3) := by decide +kernel
theorem dX4_goByRow_11 : decode cX4_goByRow 11 = .ok (.aload_n 0, 1) := by decide +kernel
theorem dX4_goByRow_12 : decode cX4_goByRow 12 = .ok (.getfield 48, 3) := by decide +kernel
theorem dX4_goByRow_15 : decode cX4_goByRow 15 = .ok (.aload_n 0, 1) := by decide +kernel
theorem dX4_goByRow_16 : decode cX4_goByRow 16 = .ok (.bipush (-9), 2) := by decide +kernel
theorem dX4_goByRow_18 : decode cX4_goByRow 18 = .ok (.invokevirtual 185, 3) := by decide +kernel
theorem dX4_goByRow_21 : decode cX4_goByRow 21 = .ok (.invokevirtual 179, 3) := by decide +kernel
theorem dX4_goByRow_24 : decode cX4_goByRow 24 = .ok (.return_, 1) := by decide +kernel
set_option maxRecDepth 20000 in
theorem ggX4_goByBest_X3_supposeAsItIs : GoodIn wsX4_goByBest wsX3_supposeAsItIs := goodIn_r _ [14, 15, 16, 17, 18, 19, 20, 21, 22, 23, 24, 13, 25, 26, 27, 28, 29, 30, 31, 32, 33, 34, 35, 36, 37, 38, 39, 40, 41, 42, 43, 44, 45, 46, 151, 152, 153, 154, 155, 156, 157, 158, 159, 160, 161, 162, 163, 164, 165, 134, 135, 136, 137, 138, 139, 140, 141, 142, 143, 144, 145, 146, 147, 148, 149, 150] (by decide +kernel) (by decide +kernel)
set_option maxRecDepth 20000 in
theorem gX4_goByBest_X3_supposeAsItIs : GoodIn wsX4_goByBest (wsV RX4 176 RX3 yX3_supposeAsItIs wsX3_supposeAsItIs) := goodIn_app (goodIn_of _ (by decide +kernel)) ggX4_goByBest_X3_supposeAsItIs
set_option maxRecDepth 20000 in
theorem ggX4_goByBest_X3_goBy : GoodIn wsX4_goByBest wsX3_goBy := goodIn_r _ [50, 51, 52, 53, 54, 55, 56, 57, 58, 59, 60, 61, 13, 62, 17, 27, 26, 63, 64, 65, 66, 67, 68, 69, 70, 71, 72, 73, 15, 74, 75, 76, 77, 78, 79, 80, 81, 82, 83, 84, 85, 86, 87, 88, 89, 90, 91, 92, 93, 94, 95, 96, 97, 98, 99, 100, 101, 102, 103, 104, 105, 19, 151, 152, 153, 154, 155, 156, 157, 158, 159, 160, 161, 162, 163, 164, 165, 134, 135, 136, 137, 138, 139, 140, 141, 142, 143, 144, 145, 146, 147, 148, 149, 150, 166, 167, 168, 169, 170] (by decide +kernel) (by decide +kernel)
set_option maxRecDepth 20000 in
theorem gX4_goByBest_X3_goBy : GoodIn wsX4_goByBest (wsV RX4 179 RX3 yX3_goBy wsX3_goBy) := goodIn_app (goodIn_of _ (by decide +kernel)) ggX4_goByBest_X3_goBy
set_option maxRecDepth 20000 in
theorem ggX4_goByBest_X4_ratingBy : GoodIn wsX4_goByBest wsX4_ratingBy := goodIn_r _ [110, 4, 111, 112, 113, 122, 123, 124, 125, 126, 127, 128, 129, 130, 131, 132, 133, 151, 152, 153, 154, 155, 156, 157, 158, 159, 160, 161, 162, 163, 164, 165] (by decide +kernel) (by decide +kernel)
set_option maxRecDepth 20000 in
theorem gX4_goByBest_X4_ratingBy : GoodIn wsX4_goByBest (wsV RX4 247 RX4 yX4_ratingBy wsX4_ratingBy) := goodIn_app (goodIn_of _ (by decide +kernel)) ggX4_goByBest_X4_ratingBy
set_option maxRecDepth 20000 in
theorem ggX4_goByBest_X4_turnToNextOrder : GoodIn wsX4_goByBest wsX4_turnToNextOrder := goodIn_r _ [117, 3, 118, 119, 120, 109, 121, 122, 123, 124, 125, 126, 127, 128, 129, 130, 131, 132, 133] (by decide +kernel) (by decide +kernel)
set_option maxRecDepth 20000 in
theorem gX4_goByBest_X4_turnToNextOrder : GoodIn wsX4_goByBest (wsV RX4 256 RX4 yX4_turnToNextOrder wsX4_turnToNextOrder) := goodIn_app (goodIn_of _ (by decide +kernel)) ggX4_goByBest_X4_turnToNextOrder
theorem dX4_goByBest_0 : decode cX4_goByBest 0 = .ok (.aload_n 0, 1) := by decide +kernel
theorem dX4_goByBest_1 : decode cX4_goByBest 1 = .ok (.getfield 20, 3) := by decide +kernel
theorem dX4_goByBest_4 : decode cX4_goByBest 4 = .ok (.getfield 98, 3) := by decide +kernel
theorem dX4_goByBest_7 : decode cX4_goByBest 7 = .ok (.istore_n 2, 1) := by decide +kernel
theorem dX4_goByBest_8 : decode cX4_goByBest 8 = .ok (.iconst 0, 1) := by decide +kernel
theorem dX4_goByBest_9 : decode cX4_goByBest 9 = .ok (.istore_n 3, 1) := by decide +kernel
theorem dX4_goByBest_10 : decode cX4_goByBest 10 = .ok (.iload_n 3, 1) := by decide +kernel
theorem dX4_goByBest_11 : decode cX4_goByBest 11 = .ok (.iload_n 2, 1) := by decide +kernel
theorem dX4_goByBest_12 : decode cX4_goByBest 12 = .ok (.if_icmp .ge 16, 3) := by decide +kernel
theorem dX4_goByBest_15 : decode cX4_goByBest 15 = .ok (.aload_n 0, 1) := by decide +kernel
theorem dX4_goByBest_16 : decode cX4_goByBest 16 = .ok (.getfield 48, 3) := by decide +kernel
theorem dX4_goByBest_19 : decode cX4_goByBest 19 = .ok (.iload_n 3, 1) := by decide +kernel
theorem dX4_goByBest_20 : decode cX4_goByBest 20 = .ok (.iload_n 3, 1) := by decide +kernel
theorem dX4_goByBest_21 : decode cX4_goByBest 21 = .ok (.iastore, 1) := by decide +kernel
theorem dX4_goByBest_22 : decode cX4_goByBest 22 = .ok (.iinc 3 1, 3) := by decide +kernel
theorem dX4_goByBest_25 : decode cX4_goByBest 25 = .ok (.goto (-15), 3) := by decide +kernel
theorem dX4_goByBest_28 : decode cX4_goByBest 28 = .ok (.aload_n 0, 1) := by decide +kernel
theorem dX4_goByBest_29 : decode cX4_goByBest 29 = .ok (.getfield 10, 3) := by decide +kernel
theorem dX4_goByBest_32 : decode cX4_goByBest 32 = .ok (.invokevirtual 176, 3) := by decide +kernel
theorem dX4_goByBest_35 : decode cX4_goByBest 35 = .ok (.lconst 0, 1) := by decide +kernel
theorem dX4_goByBest_36 : decode cX4_goByBest 36 = .ok (.lstore_n 3, 1) := by decide +kernel
theorem dX4_goByBest_37 : decode cX4_goByBest 37 = .ok (.iconst 1, 1) := by decide +kernel
theorem dX4_goByBest_38 : decode cX4_goByBest 38 = .ok (.istore 5, 2) := by decide +kernel
theorem dX4_goByBest_40 : decode cX4_goByBest 40 = .ok (.iconst 0, 1) := by decide +kernel
theorem dX4_goByBest_41 : decode cX4_goByBest 41 = .ok (.istore 6, 2) := by decide +kernel
theorem dX4_goByBest_43 : decode cX4_goByBest 43 = .ok (.iload 6, 2) := by decide +kernel
theorem dX4_goByBest_45 : decode cX4_goByBest 45 = .ok (.bipush 120, 2) := by decide +kernel
theorem dX4_goByBest_47 : decode cX4_goByBest 47 = .ok (.if_icmp .ge 69, 3) := by decide +kernel
theorem dX4_goByBest_50 : decode cX4_goByBest 50 = .ok (.iload 5, 2) := by decide +kernel
theorem dX4_goByBest_52 : decode cX4_goByBest 52 = .ok (.ifCond .eq 64, 3) := by decide +kernel
theorem dX4_goByBest_55 : decode cX4_goByBest 55 = .ok (.aload_n 0, 1) := by decide +kernel
theorem dX4_goByBest_56 : decode cX4_goByBest 56 = .ok (.getfield 10, 3) := by decide +kernel
theorem dX4_goByBest_59 : decode cX4_goByBest 59 = .ok (.aload_n 0, 1) := by decide +kernel
theorem dX4_goByBest_60 : decode cX4_goByBest 60 = .ok (.getfield 48, 3) := by decide +kernel
theorem dX4_goByBest_63 : decode cX4_goByBest 63 = .ok (.iload_n 2, 1) := by decide +kernel
theorem dX4_goByBest_64 : decode cX4_goByBest 64 = .ok (.invokevirtual 179, 3) := by decide +kernel
theorem dX4_goByBest_67 : decode cX4_goByBest 67 = .ok (.aload_n 0, 1) := by decide +kernel
theorem dX4_goByBest_68 : decode cX4_goByBest 68 = .ok (.iload_n 1, 1) := by decide +kernel
theorem dX4_goByBest_69 : decode cX4_goByBest 69 = .ok (.invokevirtual 247, 3) := by decide +kernel
theorem dX4_goByBest_72 : decode cX4_goByBest 72 = .ok (.lstore 7, 2) := by decide +kernel
theorem dX4_goByBest_74 : decode cX4_goByBest 74 = .ok (.iload 6, 2) := by decide +kernel
theorem dX4_goByBest_76 : decode cX4_goByBest 76 = .ok (.ifCond .eq 10, 3) := by decide +kernel
theorem dX4_goByBest_79 : decode cX4_goByBest 79 = .ok (.lload 7, 2) := by decide +kernel
theorem dX4_goByBest_81 : decode cX4_goByBest 81 = .ok (.lload_n 3, 1) := by decide +kernel
theorem dX4_goByBest_82 : decode cX4_goByBest 82 = .ok (.lcmp, 1) := by decide +kernel
theorem dX4_goByBest_83 : decode cX4_goByBest 83 = .ok (.ifCond .le 20, 3) := by decide +kernel
theorem dX4_goByBest_86 : decode cX4_goByBest 86 = .ok (.lload 7, 2) := by decide +kernel
theorem dX4_goByBest_88 : decode cX4_goByBest 88 = .ok (.lstore_n 3, 1) := by decide +kernel
theorem dX4_goByBest_89 : decode cX4_goByBest 89 = .ok (.aload_n 0, 1) := by decide +kernel
theorem dX4_goByBest_90 : decode cX4_goByBest 90 = .ok (.getfield 48, 3) := by decide +kernel
theorem dX4_goByBest_93 : decode cX4_goByBest 93 = .ok (.iconst 0, 1) := by decide +kernel
theorem dX4_goByBest_94 : decode cX4_goByBest 94 = .ok (.aload_n 0, 1) := by decide +kernel
theorem dX4_goByBest_95 : decode cX4_goByBest 95 = .ok (.getfield 51, 3) := by decide +kernel
theorem dX4_goByBest_98 : decode cX4_goByBest 98 = .ok (.iconst 0, 1) := by decide +kernel
theorem dX4_goByBest_99 : decode cX4_goByBest 99 = .ok (.iload_n 2, 1) := by decide +kernel
theorem dX4_goByBest_100 : decode cX4_goByBest 100 = .ok (.invokestatic 250, 3) := by decide +kernel
theorem dX4_goByBest_103 : decode cX4_goByBest 103 = .ok (.aload_n 0, 1) := by decide +kernel
theorem dX4_goByBest_104 : decode cX4_goByBest 104 = .ok (.iload_n 2, 1) := by decide +kernel
theorem dX4_goByBest_105 : decode cX4_goByBest 105 = .ok (.invokevirtual 256, 3) := by decide +kernel
theorem dX4_goByBest_108 : decode cX4_goByBest 108 = .ok (.istore 5, 2) := by decide +kernel
theorem dX4_goByBest_110 : decode cX4_goByBest 110 = .ok (.iinc 6 1, 3) := by decide +kernel
theorem dX4_goByBest_113 : decode cX4_goByBest 113 = .ok (.goto (-70), 3) := by decide +kernel
theorem dX4_goByBest_116 : decode cX4_goByBest 116 = .ok (.aload_n 0, 1) := by decide +kernel
theorem dX4_goByBest_117 : decode cX4_goByBest 117 = .ok (.getfield 10, 3) := by decide +kernel
theorem dX4_goByBest_120 : decode cX4_goByBest 120 = .ok (.aload_n 0, 1) := by decide +kernel
theorem dX4_goByBest_121 : decode cX4_goByBest 121 = .ok (.getfield 51, 3) := by decide +kernel
theorem dX4_goByBest_124 : decode cX4_goByBest 124 = .ok (.iload_n 2, 1) := by decide +kernel
theorem dX4_goByBest_125 : decode cX4_goByBest 125 = .ok (.invokevirtual 179, 3) := by decide +kernel
theorem dX4_goByBest_128 : decode cX4_goByBest 128 = .ok (.return_, 1) := by decide +kernel
theorem dX4_ratingBy_0 : decode cX4_ratingBy 0 = .ok (.iload_n 1, 1) := by decide +kernel
theorem dX4_ratingBy_1 : decode cX4_ratingBy 1 = .ok (.ifCond .ne 13, 3) := by decide +kernel
theorem dX4_ratingBy_4 : decode cX4_ratingBy 4 = .ok (.aload_n 0, 1) := by decide +kernel
theorem dX4_ratingBy_5 : decode cX4_ratingBy 5 = .ok (.getfield 10, 3) := by decide +kernel
theorem dX4_ratingBy_8 : decode cX4_ratingBy 8 = .ok (.getfield 138, 3) := by decide +kernel
theorem dX4_ratingBy_11 : decode cX4_ratingBy 11 = .ok (.ineg, 1) := by decide +kernel
theorem dX4_ratingBy_12 : decode cX4_ratingBy 12 = .ok (.i2l, 1) := by decide +kernel
theorem dX4_ratingBy_13 : decode cX4_ratingBy 13 = .ok (.lreturn, 1) := by decide +kernel
theorem dX4_ratingBy_14 : decode cX4_ratingBy 14 = .ok (.iload_n 1, 1) := by decide +kernel
theorem dX4_ratingBy_15 : decode cX4_ratingBy 15 = .ok (.iconst 1, 1) := by decide +kernel
theorem dX4_ratingBy_16 : decode cX4_ratingBy 16 = .ok (.if_icmp .ne 13, 3) := by decide +kernel
theorem dX4_ratingBy_19 : decode cX4_ratingBy 19 = .ok (.aload_n 0, 1) := by decide +kernel
theorem dX4_ratingBy_20 : decode cX4_ratingBy 20 = .ok (.getfield 10, 3) := by decide +kernel
theorem dX4_ratingBy_23 : decode cX4_ratingBy 23 = .ok (.getfield 154, 3) := by decide +kernel
theorem dX4_ratingBy_26 : decode cX4_ratingBy 26 = .ok (.goto 10, 3) := by decide +kernel
theorem dX4_ratingBy_29 : decode cX4_ratingBy 29 = .ok (.aload_n 0, 1) := by decide +kernel
theorem dX4_ratingBy_30 : decode cX4_ratingBy 30 = .ok (.getfield 10, 3) := by decide +kernel
theorem dX4_ratingBy_33 : decode cX4_ratingBy 33 = .ok (.getfield 162, 3) := by decide +kernel
theorem dX4_ratingBy_36 : decode cX4_ratingBy 36 = .ok (.lreturn, 1) := by decide +kernel
set_option maxRecDepth 20000 in
theorem ggX4_turnToNextOrder_X4_swapInOrder : GoodIn wsX4_turnToNextOrder wsX4_swapInOrder := goodIn_r _ [6, 1, 7, 8, 9, 10, 11, 12, 13, 14, 15, 16, 17, 18] (by decide +kernel) (by decide +kernel)
set_option maxRecDepth 20000 in
theorem gX4_turnToNextOrder_X4_swapInOrder : GoodIn wsX4_turnToNextOrder (wsV RX4 259 RX4 yX4_swapInOrder wsX4_swapInOrder) := goodIn_app (goodIn_of _ (by decide +kernel)) ggX4_turnToNextOrder_X4_swapInOrder
theorem dX4_turnToNextOrder_0 : decode cX4_turnToNextOrder 0 = .ok (.iload_n 1, 1) := by decide +kernel
theorem dX4_turnToNextOrder_1 : decode cX4_turnToNextOrder 1 = .ok (.iconst 2, 1) := by decide +kernel
theorem dX4_turnToNextOrder_2 : decode cX4_turnToNextOrder 2 = .ok (.isub, 1) := by decide +kernel
theorem dX4_turnToNextOrder_3 : decode cX4_turnToNextOrder 3 = .ok (.istore_n 2, 1) := by decide +kernel
theorem dX4_turnToNextOrder_4 : decode cX4_turnToNextOrder 4 = .ok (.iload_n 2, 1) := by decide +kernel
theorem dX4_turnToNextOrder_5 : decode cX4_turnToNextOrder 5 = .ok (.ifCond .lt 26, 3) := by decide +kernel
theorem dX4_turnToNextOrder_8 : decode cX4_turnToNextOrder 8 = .ok (.aload_n 0, 1) := by decide +kernel
theorem dX4_turnToNextOrder_9 : decode cX4_turnToNextOrder 9 = .ok (.getfield 48, 3) := by decide +kernel
theorem dX4_turnToNextOrder_12 : decode cX4_turnToNextOrder 12 = .ok (.iload_n 2, 1) := by decide +kernel
theorem dX4_turnToNextOrder_13 : decode cX4_turnToNextOrder 13 = .ok (.iaload, 1) := by decide +kernel
theorem dX4_turnToNextOrder_14 : decode cX4_turnToNextOrder 14 = .ok (.aload_n 0, 1) := by decide +kernel
theorem dX4_turnToNextOrder_15 : decode cX4_turnToNextOrder 15 = .ok (.getfield 48, 3) := by decide +kernel
theorem dX4_turnToNextOrder_18 : decode cX4_turnToNextOrder 18 = .ok (.iload_n 2, 1) := by decide +kernel
theorem dX4_turnToNextOrder_19 : decode cX4_turnToNextOrder 19 = .ok (.iconst 1, 1) := by decide +kernel
theorem dX4_turnToNextOrder_20 : decode cX4_turnToNextOrder 20 = .ok (.iadd, 1) := by decide +kernel
theorem dX4_turnToNextOrder_21 : decode cX4_turnToNextOrder 21 = .ok (.iaload, 1) := by decide +kernel
theorem dX4_turnToNextOrder_22 : decode cX4_turnToNextOrder 22 = .ok (.if_icmp .le 9, 3) := by decide +kernel
theorem dX4_turnToNextOrder_25 : decode cX4_turnToNextOrder 25 = .ok (.iinc 2 (-1), 3) := by decide +kernel
theorem dX4_turnToNextOrder_28 : decode cX4_turnToNextOrder 28 = .ok (.goto (-24), 3) := by decide +kernel
theorem dX4_turnToNextOrder_31 : decode cX4_turnToNextOrder 31 = .ok (.iload_n 2, 1) := by decide +kernel
theorem dX4_turnToNextOrder_32 : decode cX4_turnToNextOrder 32 = .ok (.ifCond .ge 5, 3) := by decide +kernel
theorem dX4_turnToNextOrder_35 : decode cX4_turnToNextOrder 35 = .ok (.iconst 0, 1) := by decide +kernel
theorem dX4_turnToNextOrder_36 : decode cX4_turnToNextOrder 36 = .ok (.ireturn, 1) := by decide +kernel
theorem dX4_turnToNextOrder_37 : decode cX4_turnToNextOrder 37 = .ok (.iload_n 1, 1) := by decide +kernel
theorem dX4_turnToNextOrder_38 : decode cX4_turnToNextOrder 38 = .ok (.iconst 1, 1) := by decide +kernel
theorem dX4_turnToNextOrder_39 : decode cX4_turnToNextOrder 39 = .ok (.isub, 1) := by decide +kernel
theorem dX4_turnToNextOrder_40 : decode cX4_turnToNextOrder 40 = .ok (.istore_n 3, 1) := by decide +kernel
theorem dX4_turnToNextOrder_41 : decode cX4_turnToNextOrder 41 = .ok (.iload_n 3, 1) := by decide +kernel
theorem dX4_turnToNextOrder_42 : decode cX4_turnToNextOrder 42 = .ok (.iload_n 2, 1) := by decide +kernel
theorem dX4_turnToNextOrder_43 : decode cX4_turnToNextOrder 43 = .ok (.if_icmp .le 24, 3) := by decide +kernel
theorem dX4_turnToNextOrder_46 : decode cX4_turnToNextOrder 46 = .ok (.aload_n 0, 1) := by decide +kernel
theorem dX4_turnToNextOrder_47 : decode cX4_turnToNextOrder 47 = .ok (.getfield 48, 3) := by decide +kernel
theorem dX4_turnToNextOrder_50 : decode cX4_turnToNextOrder 50 = .ok (.iload_n 3, 1) := by decide +kernel
theorem dX4_turnToNextOrder_51 : decode cX4_turnToNextOrder 51 = .ok (.iaload, 1) := by decide +kernel
theorem dX4_turnToNextOrder_52 : decode cX4_turnToNextOrder 52 = .ok (.aload_n 0, 1) := by decide +kernel
theorem dX4_turnToNextOrder_53 : decode cX4_turnToNextOrder 53 = .ok (.getfield 48, 3) := by decide +kernel
theorem dX4_turnToNextOrder_56 : decode cX4_turnToNextOrder 56 = .ok (.iload_n 2, 1) := by decide +kernel
theorem dX4_turnToNextOrder_57 : decode cX4_turnToNextOrder 57 = .ok (.iaload, 1) := by decide +kernel
theorem dX4_turnToNextOrder_58 : decode cX4_turnToNextOrder 58 = .ok (.if_icmp .ge 9, 3) := by decide +kernel
theorem dX4_turnToNextOrder_61 : decode cX4_turnToNextOrder 61 = .ok (.iinc 3 (-1), 3) := by decide +kernel
theorem dX4_turnToNextOrder_64 : decode cX4_turnToNextOrder 64 = .ok (.goto (-23), 3) := by decide +kernel
theorem dX4_turnToNextOrder_67 : decode cX4_turnToNextOrder 67 = .ok (.aload_n 0, 1) := by decide +kernel
theorem dX4_turnToNextOrder_68 : decode cX4_turnToNextOrder 68 = .ok (.iload_n 2, 1) := by decide +kernel
theorem dX4_turnToNextOrder_69 : decode cX4_turnToNextOrder 69 = .ok (.iload_n 3, 1) := by decide +kernel
theorem dX4_turnToNextOrder_70 : decode cX4_turnToNextOrder 70 = .ok (.invokevirtual 259, 3) := by decide +kernel
theorem dX4_turnToNextOrder_73 : decode cX4_turnToNextOrder 73 = .ok (.iload_n 2, 1) := by decide +kernel
theorem dX4_turnToNextOrder_74 : decode cX4_turnToNextOrder 74 = .ok (.iconst 1, 1) := by decide +kernel
theorem dX4_turnToNextOrder_75 : decode cX4_turnToNextOrder 75 = .ok (.iadd, 1) := by decide +kernel
theorem dX4_turnToNextOrder_76 : decode cX4_turnToNextOrder 76 = .ok (.istore 4, 2) := by decide +kernel
theorem dX4_turnToNextOrder_78 : decode cX4_turnToNextOrder 78 = .ok (.iload_n 1, 1) := by decide +kernel
theorem dX4_turnToNextOrder_79 : decode cX4_turnToNextOrder 79 = .ok (.iconst 1, 1) := by decide +kernel
theorem dX4_turnToNextOrder_80 : decode cX4_turnToNextOrder 80 = .ok (.isub, 1) := by decide +kernel
theorem dX4_turnToNextOrder_81 : decode cX4_turnToNextOrder 81 = .ok (.istore 5, 2) := by decide +kernel
theorem dX4_turnToNextOrder_83 : decode cX4_turnToNextOrder 83 = .ok (.iload 4, 2) := by decide +kernel
theorem dX4_turnToNextOrder_85 : decode cX4_turnToNextOrder 85 = .ok (.iload 5, 2) := by decide +kernel
theorem dX4_turnToNextOrder_87 : decode cX4_turnToNextOrder 87 = .ok (.if_icmp .ge 20, 3) := by decide +kernel
theorem dX4_turnToNextOrder_90 : decode cX4_turnToNextOrder 90 = .ok (.aload_n 0, 1) := by decide +kernel
theorem dX4_turnToNextOrder_91 : decode cX4_turnToNextOrder 91 = .ok (.iload 4, 2) := by decide +kernel
theorem dX4_turnToNextOrder_93 : decode cX4_turnToNextOrder 93 = .ok (.iload 5, 2) := by decide +kernel
theorem dX4_turnToNextOrder_95 : decode cX4_turnToNextOrder 95 = .ok (.invokevirtual 259, 3) := by decide +kernel
theorem dX4_turnToNextOrder_98 : decode cX4_turnToNextOrder 98 = .ok (.iinc 4 1, 3) := by decide +kernel
theorem dX4_turnToNextOrder_101 : decode cX4_turnToNextOrder 101 = .ok (.iinc 5 (-1), 3) := by decide +kernel
theorem dX4_turnToNextOrder_104 : decode cX4_turnToNextOrder 104 = .ok (.goto (-21), 3) := by decide +kernel
theorem dX4_turnToNextOrder_107 : decode cX4_turnToNextOrder 107 = .ok (.iconst 1, 1) := by decide +kernel
theorem dX4_turnToNextOrder_108 : decode cX4_turnToNextOrder 108 = .ok (.ireturn, 1) := by decide +kernel
theorem dX4_swapInOrder_0 : decode cX4_swapInOrder 0 = .ok (.aload_n 0, 1) := by decide +kernel
theorem dX4_swapInOrder_1 : decode cX4_swapInOrder 1 = .ok (.getfield 48, 3) := by decide +kernel
theorem dX4_swapInOrder_4 : decode cX4_swapInOrder 4 = .ok (.iload_n 1, 1) := by decide +kernel
theorem dX4_swapInOrder_5 : decode cX4_swapInOrder 5 = .ok (.iaload, 1) := by decide +kernel
theorem dX4_swapInOrder_6 : decode cX4_swapInOrder 6 = .ok (.istore_n 3, 1) := by decide +kernel
theorem dX4_swapInOrder_7 : decode cX4_swapInOrder 7 = .ok (.aload_n 0, 1) := by decide +kernel
theorem dX4_swapInOrder_8 : decode cX4_swapInOrder 8 = .ok (.getfield 48, 3) := by decide +kernel
theorem dX4_swapInOrder_11 : decode cX4_swapInOrder 11 = .ok (.iload_n 1, 1) := by decide +kernel
theorem dX4_swapInOrder_12 : decode cX4_swapInOrder 12 = .ok (.aload_n 0, 1) := by decide +kernel
theorem dX4_swapInOrder_13 : decode cX4_swapInOrder 13 = .ok (.getfield 48, 3) := by decide +kernel
theorem dX4_swapInOrder_16 : decode cX4_swapInOrder 16 = .ok (.iload_n 2, 1) := by decide +kernel
theorem dX4_swapInOrder_17 : decode cX4_swapInOrder 17 = .ok (.iaload, 1) := by decide +kernel
theorem dX4_swapInOrder_18 : decode cX4_swapInOrder 18 = .ok (.iastore, 1) := by decide +kernel
theorem dX4_swapInOrder_19 : decode cX4_swapInOrder 19 = .ok (.aload_n 0, 1) := by decide +kernel
theorem dX4_swapInOrder_20 : decode cX4_swapInOrder 20 = .ok (.getfield 48, 3) := by decide +kernel
theorem dX4_swapInOrder_23 : decode cX4_swapInOrder 23 = .ok (.iload_n 2, 1) := by decide +kernel
theorem dX4_swapInOrder_24 : decode cX4_swapInOrder 24 = .ok (.iload_n 3, 1) := by decide +kernel
theorem dX4_swapInOrder_25 : decode cX4_swapInOrder 25 = .ok (.iastore, 1) := by decide +kernel
theorem dX4_swapInOrder_26 : decode cX4_swapInOrder 26 = .ok (.return_, 1) := by decide +kernel
set_option maxRecDepth 20000 in
theorem ggX4_gainIfSureUpTo_X4_goByRow : GoodIn wsX4_gainIfSureUpTo wsX4_goByRow := goodIn_r _ [10, 1, 5, 11, 12, 13, 14, 15, 16, 17, 18, 19, 20, 21, 22, 23, 24, 25, 26, 27, 28, 29, 30, 31, 32, 33, 34, 35, 36, 37, 38, 39, 40, 41, 42, 43, 44, 45, 46, 47, 48, 49, 50, 9, 51, 52, 53, 3, 54, 55, 56, 57, 58, 59, 60, 61, 62, 63, 64, 65, 66, 67, 68, 69, 70, 71, 72, 73, 74, 75, 76, 77, 78, 79, 80, 81, 82, 83, 84, 85, 86, 87, 88, 89, 90, 91, 92, 93, 94, 95, 96, 97, 98, 99, 100, 101, 102, 103, 104, 105, 106, 107, 108, 109, 110, 111, 112, 113, 118, 119, 120, 121, 122, 123, 124, 125, 126, 127, 128, 129, 130, 131, 132, 133, 134, 135, 136, 137, 138, 139, 140, 141, 142, 143, 144, 145, 146, 147, 148, 149, 150, 151, 152, 153, 154, 155, 156, 157, 158, 159, 160, 161, 162, 163, 164, 165, 166] (by decide +kernel) (by decide +kernel)
set_option maxRecDepth 20000 in
theorem gX4_gainIfSureUpTo_X4_goByRow : GoodIn wsX4_gainIfSureUpTo (wsV RX4 135 RX4 yX4_goByRow wsX4_goByRow) := goodIn_app (goodIn_of _ (by decide +kernel)) ggX4_gainIfSureUpTo_X4_goByRow
set_option maxRecDepth 20000 in
theorem ggX4_gainIfSureUpTo_X3_supposeSureStart : GoodIn wsX4_gainIfSureUpTo wsX3_supposeSureStart := goodIn_r _ [117, 27, 28, 130, 131, 132, 133, 134, 135, 136, 137, 138, 139, 140, 141, 142, 143, 144] (by decide +kernel) (by decide +kernel)
set_option maxRecDepth 20000 in
theorem gX4_gainIfSureUpTo_X3_supposeSureStart : GoodIn wsX4_gainIfSureUpTo (wsV RX4 262 RX3 yX3_supposeSureStart wsX3_supposeSureStart) := goodIn_app (goodIn_of _ (by decide +kernel)) ggX4_gainIfSureUpTo_X3_supposeSureStart
set_option maxRecDepth 20000 in
theorem ggX4_gainIfSureUpTo_X4_orderOfRow : GoodIn wsX4_gainIfSureUpTo wsX4_orderOfRow := goodIn_r _ [51, 52, 53, 3, 54, 5, 118, 119, 120, 121, 122, 123, 124, 125, 126, 127, 128, 129, 145, 146, 147, 148, 149, 150, 151, 152, 153, 154, 155, 156, 157, 158, 159, 160, 161] (by decide +kernel) (by decide +kernel)
set_option maxRecDepth 20000 in
theorem gX4_gainIfSureUpTo_X4_orderOfRow : GoodIn wsX4_gainIfSureUpTo (wsV RX4 185 RX4 yX4_orderOfRow wsX4_orderOfRow) := goodIn_app (goodIn_of _ (by decide +kernel)) ggX4_gainIfSureUpTo_X4_orderOfRow
set_option maxRecDepth 20000 in
theorem ggX4_gainIfSureUpTo_X3_goBy : GoodIn wsX4_gainIfSureUpTo wsX3_goBy := goodIn_r _ [58, 59, 60, 61, 62, 63, 64, 65, 66, 67, 68, 69, 14, 70, 18, 28, 27, 71, 72, 73, 74, 75, 76, 77, 78, 79, 80, 81, 16, 82, 83, 84, 85, 86, 87, 88, 89, 90, 91, 92, 93, 94, 95, 96, 97, 98, 99, 100, 101, 102, 103, 104, 105, 106, 107, 108, 109, 110, 111, 112, 113, 20, 130, 131, 132, 133, 134, 135, 136, 137, 138, 139, 140, 141, 142, 143, 144, 145, 146, 147, 148, 149, 150, 151, 152, 153, 154, 155, 156, 157, 158, 159, 160, 161, 162, 163, 164, 165, 166] (by decide +kernel) (by decide +kernel)
set_option maxRecDepth 20000 in
theorem gX4_gainIfSureUpTo_X3_goBy : GoodIn wsX4_gainIfSureUpTo (wsV RX4 179 RX3 yX3_goBy wsX3_goBy) := goodIn_app (goodIn_of _ (by decide +kernel)) ggX4_gainIfSureUpTo_X3_goBy
theorem dX4_gainIfSureUpTo_0 : decode cX4_gainIfSureUpTo 0 = .ok (.aload_n 0, 1) := by decide +kernel
theorem dX4_gainIfSureUpTo_1 : decode cX4_gainIfSureUpTo 1 = .ok (.invokevirtual 135, 3) := by decide +kernel
theorem dX4_gainIfSureUpTo_4 : decode cX4_gainIfSureUpTo 4 = .ok (.aload_n 0, 1) := by decide +kernel
theorem dX4_gainIfSureUpTo_5 : decode cX4_gainIfSureUpTo 5 = .ok (.getfield 10, 3) := by decide +kernel
theorem dX4_gainIfSureUpTo_8 : decode cX4_gainIfSureUpTo 8 = .ok (.getfield 162, 3) := by decide +kernel
theorem dX4_gainIfSureUpTo_11 : decode cX4_gainIfSureUpTo 11 = .ok (.lstore_n 2, 1) := by decide +kernel
theorem dX4_gainIfSureUpTo_12 : decode cX4_gainIfSureUpTo 12 = .ok (.iconst 0, 1) := by decide +kernel
theorem dX4_gainIfSureUpTo_13 : decode cX4_gainIfSureUpTo 13 = .ok (.istore 4, 2) := by decide +kernel
theorem dX4_gainIfSureUpTo_15 : decode cX4_gainIfSureUpTo 15 = .ok (.iload 4, 2) := by decide +kernel
theorem dX4_gainIfSureUpTo_17 : decode cX4_gainIfSureUpTo 17 = .ok (.iload_n 1, 1) := by decide +kernel
theorem dX4_gainIfSureUpTo_18 : decode cX4_gainIfSureUpTo 18 = .ok (.if_icmp .gt 30, 3) := by decide +kernel
theorem dX4_gainIfSureUpTo_21 : decode cX4_gainIfSureUpTo 21 = .ok (.iload 4, 2) := by decide +kernel
theorem dX4_gainIfSureUpTo_23 : decode cX4_gainIfSureUpTo 23 = .ok (.aload_n 0, 1) := by decide +kernel
theorem dX4_gainIfSureUpTo_24 : decode cX4_gainIfSureUpTo 24 = .ok (.getfield 20, 3) := by decide +kernel
theorem dX4_gainIfSureUpTo_27 : decode cX4_gainIfSureUpTo 27 = .ok (.getfield 132, 3) := by decide +kernel
theorem dX4_gainIfSureUpTo_30 : decode cX4_gainIfSureUpTo 30 = .ok (.if_icmp .ge 18, 3) := by decide +kernel
theorem dX4_gainIfSureUpTo_33 : decode cX4_gainIfSureUpTo 33 = .ok (.aload_n 0, 1) := by decide +kernel
theorem dX4_gainIfSureUpTo_34 : decode cX4_gainIfSureUpTo 34 = .ok (.getfield 10, 3) := by decide +kernel
theorem dX4_gainIfSureUpTo_37 : decode cX4_gainIfSureUpTo 37 = .ok (.iload 4, 2) := by decide +kernel
theorem dX4_gainIfSureUpTo_39 : decode cX4_gainIfSureUpTo 39 = .ok (.invokevirtual 262, 3) := by decide +kernel
theorem dX4_gainIfSureUpTo_42 : decode cX4_gainIfSureUpTo 42 = .ok (.iinc 4 1, 3) := by decide +kernel
theorem dX4_gainIfSureUpTo_45 : decode cX4_gainIfSureUpTo 45 = .ok (.goto (-30), 3) := by decide +kernel
theorem dX4_gainIfSureUpTo_48 : decode cX4_gainIfSureUpTo 48 = .ok (.aload_n 0, 1) := by decide +kernel
theorem dX4_gainIfSureUpTo_49 : decode cX4_gainIfSureUpTo 49 = .ok (.getfield 10, 3) := by decide +kernel
theorem dX4_gainIfSureUpTo_52 : decode cX4_gainIfSureUpTo 52 = .ok (.aload_n 0, 1) := by decide +kernel
theorem dX4_gainIfSureUpTo_53 : decode cX4_gainIfSureUpTo 53 = .ok (.getfield 48, 3) := by decide +kernel
theorem dX4_gainIfSureUpTo_56 : decode cX4_gainIfSureUpTo 56 = .ok (.aload_n 0, 1) := by decide +kernel
theorem dX4_gainIfSureUpTo_57 : decode cX4_gainIfSureUpTo 57 = .ok (.bipush (-9), 2) := by decide +kernel
theorem dX4_gainIfSureUpTo_59 : decode cX4_gainIfSureUpTo 59 = .ok (.invokevirtual 185, 3) := by decide +kernel
theorem dX4_gainIfSureUpTo_62 : decode cX4_gainIfSureUpTo 62 = .ok (.invokevirtual 179, 3) := by decide +kernel
theorem dX4_gainIfSureUpTo_65 : decode cX4_gainIfSureUpTo 65 = .ok (.aload_n 0, 1) := by decide +kernel
theorem dX4_gainIfSureUpTo_66 : decode cX4_gainIfSureUpTo 66 = .ok (.getfield 10, 3) := by decide +kernel
theorem dX4_gainIfSureUpTo_69 : decode cX4_gainIfSureUpTo 69 = .ok (.getfield 162, 3) := by decide +kernel
theorem dX4_gainIfSureUpTo_72 : decode cX4_gainIfSureUpTo 72 = .ok (.lload_n 2, 1) := by decide +kernel
theorem dX4_gainIfSureUpTo_73 : decode cX4_gainIfSureUpTo 73 = .ok (.lsub, 1) := by decide +kernel
theorem dX4_gainIfSureUpTo_74 : decode cX4_gainIfSureUpTo 74 = .ok (.lreturn, 1) := by decide +kernel
set_option maxRecDepth 20000 in
theorem ggX4_gainIfMended_X4_gainIfSureUpTo : GoodIn wsX4_gainIfMended wsX4_gainIfSureUpTo := goodIn_r _ [7, 8, 9, 1, 2, 10, 11, 12, 13, 6, 14, 15, 16, 17, 18, 19, 20, 21, 22, 23, 24, 25, 26, 27, 28, 29, 30, 31, 32, 33, 34, 35, 36, 37, 38, 39, 40, 41, 42, 43, 44, 45, 46, 47, 48, 49, 50, 51, 52, 53, 54, 55, 56, 57, 58, 59, 60, 61, 62, 63, 64, 65, 66, 67, 68, 69, 70, 71, 72, 73, 74, 75, 76, 77, 78, 79, 80, 81, 82, 83, 84, 85, 86, 87, 88, 89, 90, 91, 92, 93, 94, 95, 96, 97, 98, 99, 100, 101, 102, 103, 104, 105, 106, 107, 108, 109, 110, 111, 112, 113, 114, 115, 116, 117, 118, 119, 120, 121, 122, 123, 124, 125, 126, 127, 128, 129, 130, 131, 132, 133, 151, 152, 153, 154, 155, 156, 157, 158, 159, 160, 161, 162, 163, 164, 165, 134, 135, 136, 137, 138, 139, 140, 141, 142, 143, 144, 145, 146, 147, 148, 149, 150, 166, 167, 168, 169, 170] (by decide +kernel) (by decide +kernel)
set_option maxRecDepth 20000 in
theorem gX4_gainIfMended_X4_gainIfSureUpTo : GoodIn wsX4_gainIfMended (wsV RX4 199 RX4 yX4_gainIfSureUpTo wsX4_gainIfSureUpTo) := goodIn_app (goodIn_of _ (by decide +kernel)) ggX4_gainIfMended_X4_gainIfSureUpTo
theorem dX4_gainIfMended_0 : decode cX4_gainIfMended 0 = .ok (.aload_n 0, 1) := by decide +kernel
theorem dX4_gainIfMended_1 : decode cX4_gainIfMended 1 = .ok (.aload_n 0, 1) := by decide +kernel
theorem dX4_gainIfMended_2 : decode cX4_gainIfMended 2 = .ok (.getfield 20, 3) := by decide +kernel
theorem dX4_gainIfMended_5 : decode cX4_gainIfMended 5 = .ok (.getfield 132, 3) := by decide +kernel
theorem dX4_gainIfMended_8 : decode cX4_gainIfMended 8 = .ok (.iconst 1, 1) := by decide +kernel
theorem dX4_gainIfMended_9 : decode cX4_gainIfMended 9 = .ok (.isub, 1) := by decide +kernel
theorem dX4_gainIfMended_10 : decode cX4_gainIfMended 10 = .ok (.invokevirtual 199, 3) := by decide +kernel
theorem dX4_gainIfMended_13 : decode cX4_gainIfMended 13 = .ok (.lreturn, 1) := by decide +kernel
theorem dX4_partOf_0 : decode cX4_partOf 0 = .ok (.lload_n 0, 1) := by decide +kernel
theorem dX4_partOf_1 : decode cX4_partOf 1 = .ok (.lstore_n 3, 1) := by decide +kernel
theorem dX4_partOf_2 : decode cX4_partOf 2 = .ok (.ldc2_w 183, 3) := by decide +kernel
theorem dX4_partOf_5 : decode cX4_partOf 5 = .ok (.lstore 5, 2) := by decide +kernel
theorem dX4_partOf_7 : decode cX4_partOf 7 = .ok (.iconst 0, 1) := by decide +kernel
theorem dX4_partOf_8 : decode cX4_partOf 8 = .ok (.istore 7, 2) := by decide +kernel
theorem dX4_partOf_10 : decode cX4_partOf 10 = .ok (.iload 7, 2) := by decide +kernel
theorem dX4_partOf_12 : decode cX4_partOf 12 = .ok (.bipush 12, 2) := by decide +kernel
theorem dX4_partOf_14 : decode cX4_partOf 14 = .ok (.if_icmp .ge 79, 3) := by decide +kernel
theorem dX4_partOf_17 : decode cX4_partOf 17 = .ok (.lload_n 3, 1) := by decide +kernel
theorem dX4_partOf_18 : decode cX4_partOf 18 = .ok (.ldc2_w 265, 3) := by decide +kernel
theorem dX4_partOf_21 : decode cX4_partOf 21 = .ok (.lrem, 1) := by decide +kernel
theorem dX4_partOf_22 : decode cX4_partOf 22 = .ok (.lconst 0, 1) := by decide +kernel
theorem dX4_partOf_23 : decode cX4_partOf 23 = .ok (.lcmp, 1) := by decide +kernel
theorem dX4_partOf_24 : decode cX4_partOf 24 = .ok (.ifCond .ne 28, 3) := by decide +kernel
theorem dX4_partOf_27 : decode cX4_partOf 27 = .ok (.lload 5, 2) := by decide +kernel
theorem dX4_partOf_29 : decode cX4_partOf 29 = .ok (.ldc2_w 265, 3) := by decide +kernel
theorem dX4_partOf_32 : decode cX4_partOf 32 = .ok (.lrem, 1) := by decide +kernel
theorem dX4_partOf_33 : decode cX4_partOf 33 = .ok (.lconst 0, 1) := by decide +kernel
theorem dX4_partOf_34 : decode cX4_partOf 34 = .ok (.lcmp, 1) := by decide +kernel
theorem dX4_partOf_35 : decode cX4_partOf 35 = .ok (.ifCond .ne 17, 3) := by decide +kernel
theorem dX4_partOf_38 : decode cX4_partOf 38 = .ok (.lload_n 3, 1) := by decide +kernel
theorem dX4_partOf_39 : decode cX4_partOf 39 = .ok (.ldc2_w 265, 3) := by decide +kernel
theorem dX4_partOf_42 : decode cX4_partOf 42 = .ok (.ldiv, 1) := by decide +kernel
theorem dX4_partOf_43 : decode cX4_partOf 43 = .ok (.lstore_n 3, 1) := by decide +kernel
theorem dX4_partOf_44 : decode cX4_partOf 44 = .ok (.lload 5, 2) := by decide +kernel
theorem dX4_partOf_46 : decode cX4_partOf 46 = .ok (.ldc2_w 265, 3) := by decide +kernel
theorem dX4_partOf_49 : decode cX4_partOf 49 = .ok (.ldiv, 1) := by decide +kernel
theorem dX4_partOf_50 : decode cX4_partOf 50 = .ok (.lstore 5, 2) := by decide +kernel
theorem dX4_partOf_52 : decode cX4_partOf 52 = .ok (.lload_n 3, 1) := by decide +kernel
theorem dX4_partOf_53 : decode cX4_partOf 53 = .ok (.ldc2_w 267, 3) := by decide +kernel
theorem dX4_partOf_56 : decode cX4_partOf 56 = .ok (.lrem, 1) := by decide +kernel
theorem dX4_partOf_57 : decode cX4_partOf 57 = .ok (.lconst 0, 1) := by decide +kernel
theorem dX4_partOf_58 : decode cX4_partOf 58 = .ok (.lcmp, 1) := by decide +kernel
theorem dX4_partOf_59 : decode cX4_partOf 59 = .ok (.ifCond .ne 28, 3) := by decide +kernel
theorem dX4_partOf_62 : decode cX4_partOf 62 = .ok (.lload 5, 2) := by decide +kernel
theorem dX4_partOf_64 : decode cX4_partOf 64 = .ok (.ldc2_w 267, 3) := by decide +kernel
theorem dX4_partOf_67 : decode cX4_partOf 67 = .ok (.lrem, 1) := by decide +kernel
theorem dX4_partOf_68 : decode cX4_partOf 68 = .ok (.lconst 0, 1) := by decide +kernel
theorem dX4_partOf_69 : decode cX4_partOf 69 = .ok (.lcmp, 1) := by decide +kernel
theorem dX4_partOf_70 : decode cX4_partOf 70 = .ok (.ifCond .ne 17, 3) := by decide +kernel
theorem dX4_partOf_73 : decode cX4_partOf 73 = .ok (.lload_n 3, 1) := by decide +kernel
theorem dX4_partOf_74 : decode cX4_partOf 74 = .ok (.ldc2_w 267, 3) := by decide +kernel
theorem dX4_partOf_77 : decode cX4_partOf 77 = .ok (.ldiv, 1) := by decide +kernel
theorem dX4_partOf_78 : decode cX4_partOf 78 = .ok (.lstore_n 3, 1) := by decide +kernel
theorem dX4_partOf_79 : decode cX4_partOf 79 = .ok (.lload 5, 2) := by decide +kernel
theorem dX4_partOf_81 : decode cX4_partOf 81 = .ok (.ldc2_w 267, 3) := by decide +kernel
theorem dX4_partOf_84 : decode cX4_partOf 84 = .ok (.ldiv, 1) := by decide +kernel
theorem dX4_partOf_85 : decode cX4_partOf 85 = .ok (.lstore 5, 2) := by decide +kernel
theorem dX4_partOf_87 : decode cX4_partOf 87 = .ok (.iinc 7 1, 3) := by decide +kernel
theorem dX4_partOf_90 : decode cX4_partOf 90 = .ok (.goto (-80), 3) := by decide +kernel
theorem dX4_partOf_93 : decode cX4_partOf 93 = .ok (.iload_n 2, 1) := by decide +kernel
theorem dX4_partOf_94 : decode cX4_partOf 94 = .ok (.ifCond .ne 7, 3) := by decide +kernel
theorem dX4_partOf_97 : decode cX4_partOf 97 = .ok (.lload_n 3, 1) := by decide +kernel
theorem dX4_partOf_98 : decode cX4_partOf 98 = .ok (.goto 5, 3) := by decide +kernel
theorem dX4_partOf_101 : decode cX4_partOf 101 = .ok (.lload 5, 2) := by decide +kernel
theorem dX4_partOf_103 : decode cX4_partOf 103 = .ok (.lreturn, 1) := by decide +kernel
