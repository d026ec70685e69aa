theorem dX0_init_0 : decode cX0_init 0 = .ok (.aload_n 0, 1) := by decide +kernel
theorem dX0_init_1 : decode cX0_init 1 = .ok (.invokespecial 3, 3) := by decide +kernel
theorem dX0_init_4 : decode cX0_init 4 = .ok (.aload_n 0, 1) := by decide +kernel
theorem dX0_init_5 : decode cX0_init 5 = .ok (.bipush 64, 2) := by decide +kernel
theorem dX0_init_7 : decode cX0_init 7 = .ok (.newarray .int, 2) := by decide +kernel
theorem dX0_init_9 : decode cX0_init 9 = .ok (.putfield 11, 3) := by decide +kernel
theorem dX0_init_12 : decode cX0_init 12 = .ok (.aload_n 0, 1) := by decide +kernel
theorem dX0_init_13 : decode cX0_init 13 = .ok (.bipush 64, 2) := by decide +kernel
theorem dX0_init_15 : decode cX0_init 15 = .ok (.newarray .int, 2) := by decide +kernel
theorem dX0_init_17 : decode cX0_init 17 = .ok (.putfield 15, 3) := by decide +kernel
theorem dX0_init_20 : decode cX0_init 20 = .ok (.aload_n 0, 1) := by decide +kernel
theorem dX0_init_21 : decode cX0_init 21 = .ok (.bipush 64, 2) := by decide +kernel
theorem dX0_init_23 : decode cX0_init 23 = .ok (.newarray .int, 2) := by decide +kernel
theorem dX0_init_25 : decode cX0_init 25 = .ok (.putfield 18, 3) := by decide +kernel
theorem dX0_init_28 : decode cX0_init 28 = .ok (.aload_n 0, 1) := by decide +kernel
theorem dX0_init_29 : decode cX0_init 29 = .ok (.bipush 64, 2) := by decide +kernel
theorem dX0_init_31 : decode cX0_init 31 = .ok (.newarray .int, 2) := by decide +kernel
theorem dX0_init_33 : decode cX0_init 33 = .ok (.putfield 21, 3) := by decide +kernel
theorem dX0_init_36 : decode cX0_init 36 = .ok (.aload_n 0, 1) := by decide +kernel
theorem dX0_init_37 : decode cX0_init 37 = .ok (.bipush 64, 2) := by decide +kernel
theorem dX0_init_39 : decode cX0_init 39 = .ok (.newarray .int, 2) := by decide +kernel
theorem dX0_init_41 : decode cX0_init 41 = .ok (.putfield 24, 3) := by decide +kernel
theorem dX0_init_44 : decode cX0_init 44 = .ok (.return_, 1) := by decide +kernel
theorem dX0_minutesOf_0 : decode cX0_minutesOf 0 = .ok (.iload_n 1, 1) := by decide +kernel
theorem dX0_minutesOf_1 : decode cX0_minutesOf 1 = .ok (.bipush 8, 2) := by decide +kernel
theorem dX0_minutesOf_3 : decode cX0_minutesOf 3 = .ok (.imul, 1) := by decide +kernel
theorem dX0_minutesOf_4 : decode cX0_minutesOf 4 = .ok (.iload_n 2, 1) := by decide +kernel
theorem dX0_minutesOf_5 : decode cX0_minutesOf 5 = .ok (.iadd, 1) := by decide +kernel
theorem dX0_minutesOf_6 : decode cX0_minutesOf 6 = .ok (.istore 4, 2) := by decide +kernel
theorem dX0_minutesOf_8 : decode cX0_minutesOf 8 = .ok (.iload 4, 2) := by decide +kernel
theorem dX0_minutesOf_10 : decode cX0_minutesOf 10 = .ok (.ifCond .lt 10, 3) := by decide +kernel
theorem dX0_minutesOf_13 : decode cX0_minutesOf 13 = .ok (.iload 4, 2) := by decide +kernel
theorem dX0_minutesOf_15 : decode cX0_minutesOf 15 = .ok (.bipush 64, 2) := by decide +kernel
theorem dX0_minutesOf_17 : decode cX0_minutesOf 17 = .ok (.if_icmp .lt 6, 3) := by decide +kernel
theorem dX0_minutesOf_20 : decode cX0_minutesOf 20 = .ok (.bipush (-9), 2) := by decide +kernel
theorem dX0_minutesOf_22 : decode cX0_minutesOf 22 = .ok (.ireturn, 1) := by decide +kernel
theorem dX0_minutesOf_23 : decode cX0_minutesOf 23 = .ok (.iload_n 3, 1) := by decide +kernel
theorem dX0_minutesOf_24 : decode cX0_minutesOf 24 = .ok (.ifCond .eq 13, 3) := by decide +kernel
theorem dX0_minutesOf_27 : decode cX0_minutesOf 27 = .ok (.aload_n 0, 1) := by decide +kernel
theorem dX0_minutesOf_28 : decode cX0_minutesOf 28 = .ok (.getfield 18, 3) := by decide +kernel
theorem dX0_minutesOf_31 : decode cX0_minutesOf 31 = .ok (.iload 4, 2) := by decide +kernel
theorem dX0_minutesOf_33 : decode cX0_minutesOf 33 = .ok (.iaload, 1) := by decide +kernel
theorem dX0_minutesOf_34 : decode cX0_minutesOf 34 = .ok (.goto 10, 3) := by decide +kernel
theorem dX0_minutesOf_37 : decode cX0_minutesOf 37 = .ok (.aload_n 0, 1) := by decide +kernel
theorem dX0_minutesOf_38 : decode cX0_minutesOf 38 = .ok (.getfield 11, 3) := by decide +kernel
theorem dX0_minutesOf_41 : decode cX0_minutesOf 41 = .ok (.iload 4, 2) := by decide +kernel
theorem dX0_minutesOf_43 : decode cX0_minutesOf 43 = .ok (.iaload, 1) := by decide +kernel
theorem dX0_minutesOf_44 : decode cX0_minutesOf 44 = .ok (.ireturn, 1) := by decide +kernel
theorem dX0_stallsOf_0 : decode cX0_stallsOf 0 = .ok (.iload_n 1, 1) := by decide +kernel
theorem dX0_stallsOf_1 : decode cX0_stallsOf 1 = .ok (.bipush 8, 2) := by decide +kernel
theorem dX0_stallsOf_3 : decode cX0_stallsOf 3 = .ok (.imul, 1) := by decide +kernel
theorem dX0_stallsOf_4 : decode cX0_stallsOf 4 = .ok (.iload_n 2, 1) := by decide +kernel
theorem dX0_stallsOf_5 : decode cX0_stallsOf 5 = .ok (.iadd, 1) := by decide +kernel
theorem dX0_stallsOf_6 : decode cX0_stallsOf 6 = .ok (.istore 4, 2) := by decide +kernel
theorem dX0_stallsOf_8 : decode cX0_stallsOf 8 = .ok (.iload 4, 2) := by decide +kernel
theorem dX0_stallsOf_10 : decode cX0_stallsOf 10 = .ok (.ifCond .lt 10, 3) := by decide +kernel
theorem dX0_stallsOf_13 : decode cX0_stallsOf 13 = .ok (.iload 4, 2) := by decide +kernel
theorem dX0_stallsOf_15 : decode cX0_stallsOf 15 = .ok (.bipush 64, 2) := by decide +kernel
theorem dX0_stallsOf_17 : decode cX0_stallsOf 17 = .ok (.if_icmp .lt 6, 3) := by decide +kernel
theorem dX0_stallsOf_20 : decode cX0_stallsOf 20 = .ok (.bipush (-9), 2) := by decide +kernel
theorem dX0_stallsOf_22 : decode cX0_stallsOf 22 = .ok (.ireturn, 1) := by decide +kernel
theorem dX0_stallsOf_23 : decode cX0_stallsOf 23 = .ok (.iload_n 3, 1) := by decide +kernel
theorem dX0_stallsOf_24 : decode cX0_stallsOf 24 = .ok (.ifCond .eq 13, 3) := by decide +kernel
theorem dX0_stallsOf_27 : decode cX0_stallsOf 27 = .ok (.aload_n 0, 1) := by decide +kernel
theorem dX0_stallsOf_28 : decode cX0_stallsOf 28 = .ok (.getfield 21, 3) := by decide +kernel
theorem dX0_stallsOf_31 : decode cX0_stallsOf 31 = .ok (.iload 4, 2) := by decide +kernel
theorem dX0_stallsOf_33 : decode cX0_stallsOf 33 = .ok (.iaload, 1) := by decide +kernel
theorem dX0_stallsOf_34 : decode cX0_stallsOf 34 = .ok (.goto 10, 3) := by decide +kernel
theorem dX0_stallsOf_37 : decode cX0_stallsOf 37 = .ok (.aload_n 0, 1) := by decide +kernel
theorem dX0_stallsOf_38 : decode cX0_stallsOf 38 = .ok (.getfield 15, 3) := by decide +kernel
theorem dX0_stallsOf_41 : decode cX0_stallsOf 41 = .ok (.iload 4, 2) := by decide +kernel
theorem dX0_stallsOf_43 : decode cX0_stallsOf 43 = .ok (.iaload, 1) := by decide +kernel
theorem dX0_stallsOf_44 : decode cX0_stallsOf 44 = .ok (.ireturn, 1) := by decide +kernel
set_option maxRecDepth 20000 in
theorem ggX0_measure_X0_layWays : GoodIn wsX0_measure wsX0_layWays := goodIn_r _ [10, 11, 12, 13, 14, 15, 16, 17, 26, 27, 28, 29, 30, 31, 32, 33, 34, 35, 36, 37, 38, 39, 40, 41, 42, 43, 44, 45, 46, 47] (by decide +kernel) (by decide +kernel)
set_option maxRecDepth 20000 in
theorem gX0_measure_X0_layWays : GoodIn wsX0_measure (wsV RX0 27 RX0 yX0_layWays wsX0_layWays) := goodIn_app (goodIn_of _ (by decide +kernel)) ggX0_measure_X0_layWays
set_option maxRecDepth 20000 in
theorem ggX0_measure_X0_shorten : GoodIn wsX0_measure wsX0_shorten := goodIn_r _ [21, 11, 26, 27, 28, 29, 30] (by decide +kernel) (by decide +kernel)
set_option maxRecDepth 20000 in
theorem gX0_measure_X0_shorten : GoodIn wsX0_measure (wsV RX0 37 RX0 yX0_shorten wsX0_shorten) := goodIn_app (goodIn_of _ (by decide +kernel)) ggX0_measure_X0_shorten
set_option maxRecDepth 20000 in
theorem ggX0_measure_X0_keepIfNearer : GoodIn wsX0_measure wsX0_keepIfNearer := goodIn_r _ [25, 11, 12, 3, 4, 1, 2, 26, 27, 28, 29, 30] (by decide +kernel) (by decide +kernel)
set_option maxRecDepth 20000 in
theorem gX0_measure_X0_keepIfNearer : GoodIn wsX0_measure (wsV RX0 41 RX0 yX0_keepIfNearer wsX0_keepIfNearer) := goodIn_app (goodIn_of _ (by decide +kernel)) ggX0_measure_X0_keepIfNearer
theorem dX0_measure_0 : decode cX0_measure 0 = .ok (.iconst 0, 1) := by decide +kernel
theorem dX0_measure_1 : decode cX0_measure 1 = .ok (.istore_n 2, 1) := by decide +kernel
theorem dX0_measure_2 : decode cX0_measure 2 = .ok (.iload_n 2, 1) := by decide +kernel
theorem dX0_measure_3 : decode cX0_measure 3 = .ok (.bipush 64, 2) := by decide +kernel
theorem dX0_measure_5 : decode cX0_measure 5 = .ok (.if_icmp .ge 41, 3) := by decide +kernel
theorem dX0_measure_8 : decode cX0_measure 8 = .ok (.aload_n 0, 1) := by decide +kernel
theorem dX0_measure_9 : decode cX0_measure 9 = .ok (.getfield 11, 3) := by decide +kernel
theorem dX0_measure_12 : decode cX0_measure 12 = .ok (.iload_n 2, 1) := by decide +kernel
theorem dX0_measure_13 : decode cX0_measure 13 = .ok (.bipush (-9), 2) := by decide +kernel
theorem dX0_measure_15 : decode cX0_measure 15 = .ok (.iastore, 1) := by decide +kernel
theorem dX0_measure_16 : decode cX0_measure 16 = .ok (.aload_n 0, 1) := by decide +kernel
theorem dX0_measure_17 : decode cX0_measure 17 = .ok (.getfield 15, 3) := by decide +kernel
theorem dX0_measure_20 : decode cX0_measure 20 = .ok (.iload_n 2, 1) := by decide +kernel
theorem dX0_measure_21 : decode cX0_measure 21 = .ok (.bipush (-9), 2) := by decide +kernel
theorem dX0_measure_23 : decode cX0_measure 23 = .ok (.iastore, 1) := by decide +kernel
theorem dX0_measure_24 : decode cX0_measure 24 = .ok (.aload_n 0, 1) := by decide +kernel
theorem dX0_measure_25 : decode cX0_measure 25 = .ok (.getfield 18, 3) := by decide +kernel
theorem dX0_measure_28 : decode cX0_measure 28 = .ok (.iload_n 2, 1) := by decide +kernel
theorem dX0_measure_29 : decode cX0_measure 29 = .ok (.bipush (-9), 2) := by decide +kernel
theorem dX0_measure_31 : decode cX0_measure 31 = .ok (.iastore, 1) := by decide +kernel
theorem dX0_measure_32 : decode cX0_measure 32 = .ok (.aload_n 0, 1) := by decide +kernel
theorem dX0_measure_33 : decode cX0_measure 33 = .ok (.getfield 21, 3) := by decide +kernel
theorem dX0_measure_36 : decode cX0_measure 36 = .ok (.iload_n 2, 1) := by decide +kernel
theorem dX0_measure_37 : decode cX0_measure 37 = .ok (.bipush (-9), 2) := by decide +kernel
theorem dX0_measure_39 : decode cX0_measure 39 = .ok (.iastore, 1) := by decide +kernel
theorem dX0_measure_40 : decode cX0_measure 40 = .ok (.iinc 2 1, 3) := by decide +kernel
theorem dX0_measure_43 : decode cX0_measure 43 = .ok (.goto (-41), 3) := by decide +kernel
theorem dX0_measure_46 : decode cX0_measure 46 = .ok (.iconst 0, 1) := by decide +kernel
theorem dX0_measure_47 : decode cX0_measure 47 = .ok (.istore_n 2, 1) := by decide +kernel
theorem dX0_measure_48 : decode cX0_measure 48 = .ok (.iload_n 2, 1) := by decide +kernel
theorem dX0_measure_49 : decode cX0_measure 49 = .ok (.bipush 9, 2) := by decide +kernel
theorem dX0_measure_51 : decode cX0_measure 51 = .ok (.if_icmp .gt 43, 3) := by decide +kernel
theorem dX0_measure_54 : decode cX0_measure 54 = .ok (.aload_n 0, 1) := by decide +kernel
theorem dX0_measure_55 : decode cX0_measure 55 = .ok (.aload_n 1, 1) := by decide +kernel
theorem dX0_measure_56 : decode cX0_measure 56 = .ok (.iload_n 2, 1) := by decide +kernel
theorem dX0_measure_57 : decode cX0_measure 57 = .ok (.invokevirtual 27, 3) := by decide +kernel
theorem dX0_measure_60 : decode cX0_measure 60 = .ok (.aload_n 0, 1) := by decide +kernel
theorem dX0_measure_61 : decode cX0_measure 61 = .ok (.aload_n 1, 1) := by decide +kernel
theorem dX0_measure_62 : decode cX0_measure 62 = .ok (.getfield 31, 3) := by decide +kernel
theorem dX0_measure_65 : decode cX0_measure 65 = .ok (.invokevirtual 37, 3) := by decide +kernel
theorem dX0_measure_68 : decode cX0_measure 68 = .ok (.iconst 0, 1) := by decide +kernel
theorem dX0_measure_69 : decode cX0_measure 69 = .ok (.istore_n 3, 1) := by decide +kernel
theorem dX0_measure_70 : decode cX0_measure 70 = .ok (.iload_n 3, 1) := by decide +kernel
theorem dX0_measure_71 : decode cX0_measure 71 = .ok (.bipush 64, 2) := by decide +kernel
theorem dX0_measure_73 : decode cX0_measure 73 = .ok (.if_icmp .ge 15, 3) := by decide +kernel
theorem dX0_measure_76 : decode cX0_measure 76 = .ok (.aload_n 0, 1) := by decide +kernel
theorem dX0_measure_77 : decode cX0_measure 77 = .ok (.iload_n 3, 1) := by decide +kernel
theorem dX0_measure_78 : decode cX0_measure 78 = .ok (.iload_n 2, 1) := by decide +kernel
theorem dX0_measure_79 : decode cX0_measure 79 = .ok (.invokevirtual 41, 3) := by decide +kernel
theorem dX0_measure_82 : decode cX0_measure 82 = .ok (.iinc 3 1, 3) := by decide +kernel
theorem dX0_measure_85 : decode cX0_measure 85 = .ok (.goto (-15), 3) := by decide +kernel
theorem dX0_measure_88 : decode cX0_measure 88 = .ok (.iinc 2 1, 3) := by decide +kernel
theorem dX0_measure_91 : decode cX0_measure 91 = .ok (.goto (-43), 3) := by decide +kernel
theorem dX0_measure_94 : decode cX0_measure 94 = .ok (.return_, 1) := by decide +kernel
theorem dX0_layWays_0 : decode cX0_layWays 0 = .ok (.iconst 0, 1) := by decide +kernel
theorem dX0_layWays_1 : decode cX0_layWays 1 = .ok (.istore_n 3, 1) := by decide +kernel
theorem dX0_layWays_2 : decode cX0_layWays 2 = .ok (.iload_n 3, 1) := by decide +kernel
theorem dX0_layWays_3 : decode cX0_layWays 3 = .ok (.bipush 64, 2) := by decide +kernel
theorem dX0_layWays_5 : decode cX0_layWays 5 = .ok (.if_icmp .ge 32, 3) := by decide +kernel
theorem dX0_layWays_8 : decode cX0_layWays 8 = .ok (.aload_n 0, 1) := by decide +kernel
theorem dX0_layWays_9 : decode cX0_layWays 9 = .ok (.getfield 24, 3) := by decide +kernel
theorem dX0_layWays_12 : decode cX0_layWays 12 = .ok (.iload_n 3, 1) := by decide +kernel
theorem dX0_layWays_13 : decode cX0_layWays 13 = .ok (.iload_n 3, 1) := by decide +kernel
theorem dX0_layWays_14 : decode cX0_layWays 14 = .ok (.bipush 8, 2) := by decide +kernel
theorem dX0_layWays_16 : decode cX0_layWays 16 = .ok (.idiv, 1) := by decide +kernel
theorem dX0_layWays_17 : decode cX0_layWays 17 = .ok (.iload_n 3, 1) := by decide +kernel
theorem dX0_layWays_18 : decode cX0_layWays 18 = .ok (.bipush 8, 2) := by decide +kernel
theorem dX0_layWays_20 : decode cX0_layWays 20 = .ok (.irem, 1) := by decide +kernel
theorem dX0_layWays_21 : decode cX0_layWays 21 = .ok (.if_icmp .ne 7, 3) := by decide +kernel
theorem dX0_layWays_24 : decode cX0_layWays 24 = .ok (.iconst 0, 1) := by decide +kernel
theorem dX0_layWays_25 : decode cX0_layWays 25 = .ok (.goto 5, 3) := by decide +kernel
theorem dX0_layWays_28 : decode cX0_layWays 28 = .ok (.ldc 45, 2) := by decide +kernel
theorem dX0_layWays_30 : decode cX0_layWays 30 = .ok (.iastore, 1) := by decide +kernel
theorem dX0_layWays_31 : decode cX0_layWays 31 = .ok (.iinc 3 1, 3) := by decide +kernel
theorem dX0_layWays_34 : decode cX0_layWays 34 = .ok (.goto (-32), 3) := by decide +kernel
theorem dX0_layWays_37 : decode cX0_layWays 37 = .ok (.iconst 0, 1) := by decide +kernel
theorem dX0_layWays_38 : decode cX0_layWays 38 = .ok (.istore_n 3, 1) := by decide +kernel
theorem dX0_layWays_39 : decode cX0_layWays 39 = .ok (.iload_n 3, 1) := by decide +kernel
theorem dX0_layWays_40 : decode cX0_layWays 40 = .ok (.aload_n 1, 1) := by decide +kernel
theorem dX0_layWays_41 : decode cX0_layWays 41 = .ok (.getfield 46, 3) := by decide +kernel
theorem dX0_layWays_44 : decode cX0_layWays 44 = .ok (.if_icmp .ge 73, 3) := by decide +kernel
theorem dX0_layWays_47 : decode cX0_layWays 47 = .ok (.aload_n 1, 1) := by decide +kernel
theorem dX0_layWays_48 : decode cX0_layWays 48 = .ok (.getfield 49, 3) := by decide +kernel
theorem dX0_layWays_51 : decode cX0_layWays 51 = .ok (.iload_n 3, 1) := by decide +kernel
theorem dX0_layWays_52 : decode cX0_layWays 52 = .ok (.iaload, 1) := by decide +kernel
theorem dX0_layWays_53 : decode cX0_layWays 53 = .ok (.iload_n 2, 1) := by decide +kernel
theorem dX0_layWays_54 : decode cX0_layWays 54 = .ok (.if_icmp .gt 57, 3) := by decide +kernel
theorem dX0_layWays_57 : decode cX0_layWays 57 = .ok (.aload_n 0, 1) := by decide +kernel
theorem dX0_layWays_58 : decode cX0_layWays 58 = .ok (.getfield 24, 3) := by decide +kernel
theorem dX0_layWays_61 : decode cX0_layWays 61 = .ok (.aload_n 1, 1) := by decide +kernel
theorem dX0_layWays_62 : decode cX0_layWays 62 = .ok (.getfield 52, 3) := by decide +kernel
theorem dX0_layWays_65 : decode cX0_layWays 65 = .ok (.iload_n 3, 1) := by decide +kernel
theorem dX0_layWays_66 : decode cX0_layWays 66 = .ok (.iaload, 1) := by decide +kernel
theorem dX0_layWays_67 : decode cX0_layWays 67 = .ok (.bipush 8, 2) := by decide +kernel
theorem dX0_layWays_69 : decode cX0_layWays 69 = .ok (.imul, 1) := by decide +kernel
theorem dX0_layWays_70 : decode cX0_layWays 70 = .ok (.aload_n 1, 1) := by decide +kernel
theorem dX0_layWays_71 : decode cX0_layWays 71 = .ok (.getfield 55, 3) := by decide +kernel
theorem dX0_layWays_74 : decode cX0_layWays 74 = .ok (.iload_n 3, 1) := by decide +kernel
theorem dX0_layWays_75 : decode cX0_layWays 75 = .ok (.iaload, 1) := by decide +kernel
theorem dX0_layWays_76 : decode cX0_layWays 76 = .ok (.iadd, 1) := by decide +kernel
theorem dX0_layWays_77 : decode cX0_layWays 77 = .ok (.aload_n 1, 1) := by decide +kernel
theorem dX0_layWays_78 : decode cX0_layWays 78 = .ok (.getfield 58, 3) := by decide +kernel
theorem dX0_layWays_81 : decode cX0_layWays 81 = .ok (.iload_n 3, 1) := by decide +kernel
theorem dX0_layWays_82 : decode cX0_layWays 82 = .ok (.iaload, 1) := by decide +kernel
theorem dX0_layWays_83 : decode cX0_layWays 83 = .ok (.iastore, 1) := by decide +kernel
theorem dX0_layWays_84 : decode cX0_layWays 84 = .ok (.aload_n 0, 1) := by decide +kernel
theorem dX0_layWays_85 : decode cX0_layWays 85 = .ok (.getfield 24, 3) := by decide +kernel
theorem dX0_layWays_88 : decode cX0_layWays 88 = .ok (.aload_n 1, 1) := by decide +kernel
theorem dX0_layWays_89 : decode cX0_layWays 89 = .ok (.getfield 55, 3) := by decide +kernel
theorem dX0_layWays_92 : decode cX0_layWays 92 = .ok (.iload_n 3, 1) := by decide +kernel
theorem dX0_layWays_93 : decode cX0_layWays 93 = .ok (.iaload, 1) := by decide +kernel
theorem dX0_layWays_94 : decode cX0_layWays 94 = .ok (.bipush 8, 2) := by decide +kernel
theorem dX0_layWays_96 : decode cX0_layWays 96 = .ok (.imul, 1) := by decide +kernel
theorem dX0_layWays_97 : decode cX0_layWays 97 = .ok (.aload_n 1, 1) := by decide +kernel
theorem dX0_layWays_98 : decode cX0_layWays 98 = .ok (.getfield 52, 3) := by decide +kernel
theorem dX0_layWays_101 : decode cX0_layWays 101 = .ok (.iload_n 3, 1) := by decide +kernel
theorem dX0_layWays_102 : decode cX0_layWays 102 = .ok (.iaload, 1) := by decide +kernel
theorem dX0_layWays_103 : decode cX0_layWays 103 = .ok (.iadd, 1) := by decide +kernel
theorem dX0_layWays_104 : decode cX0_layWays 104 = .ok (.aload_n 1, 1) := by decide +kernel
theorem dX0_layWays_105 : decode cX0_layWays 105 = .ok (.getfield 58, 3) := by decide +kernel
theorem dX0_layWays_108 : decode cX0_layWays 108 = .ok (.iload_n 3, 1) := by decide +kernel
theorem dX0_layWays_109 : decode cX0_layWays 109 = .ok (.iaload, 1) := by decide +kernel
theorem dX0_layWays_110 : decode cX0_layWays 110 = .ok (.iastore, 1) := by decide +kernel
theorem dX0_layWays_111 : decode cX0_layWays 111 = .ok (.iinc 3 1, 3) := by decide +kernel
theorem dX0_layWays_114 : decode cX0_layWays 114 = .ok (.goto (-75), 3) := by decide +kernel
theorem dX0_layWays_117 : decode cX0_layWays 117 = .ok (.return_, 1) := by decide +kernel
theorem dX0_shorten_0 : decode cX0_shorten 0 = .ok (.iconst 0, 1) := by decide +kernel
theorem dX0_shorten_1 : decode cX0_shorten 1 = .ok (.istore_n 2, 1) := by decide +kernel
theorem dX0_shorten_2 : decode cX0_shorten 2 = .ok (.iload_n 2, 1) := by decide +kernel
theorem dX0_shorten_3 : decode cX0_shorten 3 = .ok (.iload_n 1, 1) := by decide +kernel
theorem dX0_shorten_4 : decode cX0_shorten 4 = .ok (.if_icmp .ge 93, 3) := by decide +kernel
theorem dX0_shorten_7 : decode cX0_shorten 7 = .ok (.iconst 0, 1) := by decide +kernel
theorem dX0_shorten_8 : decode cX0_shorten 8 = .ok (.istore_n 3, 1) := by decide +kernel
theorem dX0_shorten_9 : decode cX0_shorten 9 = .ok (.iload_n 3, 1) := by decide +kernel
theorem dX0_shorten_10 : decode cX0_shorten 10 = .ok (.iload_n 1, 1) := by decide +kernel
theorem dX0_shorten_11 : decode cX0_shorten 11 = .ok (.if_icmp .ge 80, 3) := by decide +kernel
theorem dX0_shorten_14 : decode cX0_shorten 14 = .ok (.iconst 0, 1) := by decide +kernel
theorem dX0_shorten_15 : decode cX0_shorten 15 = .ok (.istore 4, 2) := by decide +kernel
theorem dX0_shorten_17 : decode cX0_shorten 17 = .ok (.iload 4, 2) := by decide +kernel
theorem dX0_shorten_19 : decode cX0_shorten 19 = .ok (.iload_n 1, 1) := by decide +kernel
theorem dX0_shorten_20 : decode cX0_shorten 20 = .ok (.if_icmp .ge 65, 3) := by decide +kernel
theorem dX0_shorten_23 : decode cX0_shorten 23 = .ok (.aload_n 0, 1) := by decide +kernel
theorem dX0_shorten_24 : decode cX0_shorten 24 = .ok (.getfield 24, 3) := by decide +kernel
theorem dX0_shorten_27 : decode cX0_shorten 27 = .ok (.iload_n 3, 1) := by decide +kernel
theorem dX0_shorten_28 : decode cX0_shorten 28 = .ok (.bipush 8, 2) := by decide +kernel
theorem dX0_shorten_30 : decode cX0_shorten 30 = .ok (.imul, 1) := by decide +kernel
theorem dX0_shorten_31 : decode cX0_shorten 31 = .ok (.iload_n 2, 1) := by decide +kernel
theorem dX0_shorten_32 : decode cX0_shorten 32 = .ok (.iadd, 1) := by decide +kernel
theorem dX0_shorten_33 : decode cX0_shorten 33 = .ok (.iaload, 1) := by decide +kernel
theorem dX0_shorten_34 : decode cX0_shorten 34 = .ok (.aload_n 0, 1) := by decide +kernel
theorem dX0_shorten_35 : decode cX0_shorten 35 = .ok (.getfield 24, 3) := by decide +kernel
theorem dX0_shorten_38 : decode cX0_shorten 38 = .ok (.iload_n 2, 1) := by decide +kernel
theorem dX0_shorten_39 : decode cX0_shorten 39 = .ok (.bipush 8, 2) := by decide +kernel
theorem dX0_shorten_41 : decode cX0_shorten 41 = .ok (.imul, 1) := by decide +kernel
theorem dX0_shorten_42 : decode cX0_shorten 42 = .ok (.iload 4, 2) := by decide +kernel
theorem dX0_shorten_44 : decode cX0_shorten 44 = .ok (.iadd, 1) := by decide +kernel
theorem dX0_shorten_45 : decode cX0_shorten 45 = .ok (.iaload, 1) := by decide +kernel
theorem dX0_shorten_46 : decode cX0_shorten 46 = .ok (.iadd, 1) := by decide +kernel
theorem dX0_shorten_47 : decode cX0_shorten 47 = .ok (.istore 5, 2) := by decide +kernel
theorem dX0_shorten_49 : decode cX0_shorten 49 = .ok (.iload_n 3, 1) := by decide +kernel
theorem dX0_shorten_50 : decode cX0_shorten 50 = .ok (.bipush 8, 2) := by decide +kernel
theorem dX0_shorten_52 : decode cX0_shorten 52 = .ok (.imul, 1) := by decide +kernel
theorem dX0_shorten_53 : decode cX0_shorten 53 = .ok (.iload 4, 2) := by decide +kernel
theorem dX0_shorten_55 : decode cX0_shorten 55 = .ok (.iadd, 1) := by decide +kernel
theorem dX0_shorten_56 : decode cX0_shorten 56 = .ok (.istore 6, 2) := by decide +kernel
theorem dX0_shorten_58 : decode cX0_shorten 58 = .ok (.iload 5, 2) := by decide +kernel
theorem dX0_shorten_60 : decode cX0_shorten 60 = .ok (.aload_n 0, 1) := by decide +kernel
theorem dX0_shorten_61 : decode cX0_shorten 61 = .ok (.getfield 24, 3) := by decide +kernel
theorem dX0_shorten_64 : decode cX0_shorten 64 = .ok (.iload 6, 2) := by decide +kernel
theorem dX0_shorten_66 : decode cX0_shorten 66 = .ok (.iaload, 1) := by decide +kernel
theorem dX0_shorten_67 : decode cX0_shorten 67 = .ok (.if_icmp .ge 12, 3) := by decide +kernel
theorem dX0_shorten_70 : decode cX0_shorten 70 = .ok (.aload_n 0, 1) := by decide +kernel
theorem dX0_shorten_71 : decode cX0_shorten 71 = .ok (.getfield 24, 3) := by decide +kernel
theorem dX0_shorten_74 : decode cX0_shorten 74 = .ok (.iload 6, 2) := by decide +kernel
theorem dX0_shorten_76 : decode cX0_shorten 76 = .ok (.iload 5, 2) := by decide +kernel
theorem dX0_shorten_78 : decode cX0_shorten 78 = .ok (.iastore, 1) := by decide +kernel
theorem dX0_shorten_79 : decode cX0_shorten 79 = .ok (.iinc 4 1, 3) := by decide +kernel
theorem dX0_shorten_82 : decode cX0_shorten 82 = .ok (.goto (-65), 3) := by decide +kernel
theorem dX0_shorten_85 : decode cX0_shorten 85 = .ok (.iinc 3 1, 3) := by decide +kernel
theorem dX0_shorten_88 : decode cX0_shorten 88 = .ok (.goto (-79), 3) := by decide +kernel
theorem dX0_shorten_91 : decode cX0_shorten 91 = .ok (.iinc 2 1, 3) := by decide +kernel
theorem dX0_shorten_94 : decode cX0_shorten 94 = .ok (.goto (-92), 3) := by decide +kernel
theorem dX0_shorten_97 : decode cX0_shorten 97 = .ok (.return_, 1) := by decide +kernel
theorem dX0_keepIfNearer_0 : decode cX0_keepIfNearer 0 = .ok (.aload_n 0, 1) := by decide +kernel
theorem dX0_keepIfNearer_1 : decode cX0_keepIfNearer 1 = .ok (.getfield 24, 3) := by decide +kernel
theorem dX0_keepIfNearer_4 : decode cX0_keepIfNearer 4 = .ok (.iload_n 1, 1) := by decide +kernel
theorem dX0_keepIfNearer_5 : decode cX0_keepIfNearer 5 = .ok (.iaload, 1) := by decide +kernel
theorem dX0_keepIfNearer_6 : decode cX0_keepIfNearer 6 = .ok (.ldc 45, 2) := by decide +kernel
theorem dX0_keepIfNearer_8 : decode cX0_keepIfNearer 8 = .ok (.if_icmp .lt 4, 3) := by decide +kernel
theorem dX0_keepIfNearer_11 : decode cX0_keepIfNearer 11 = .ok (.return_, 1) := by decide +kernel
theorem dX0_keepIfNearer_12 : decode cX0_keepIfNearer 12 = .ok (.aload_n 0, 1) := by decide +kernel
theorem dX0_keepIfNearer_13 : decode cX0_keepIfNearer 13 = .ok (.getfield 18, 3) := by decide +kernel
theorem dX0_keepIfNearer_16 : decode cX0_keepIfNearer 16 = .ok (.iload_n 1, 1) := by decide +kernel
theorem dX0_keepIfNearer_17 : decode cX0_keepIfNearer 17 = .ok (.iaload, 1) := by decide +kernel
theorem dX0_keepIfNearer_18 : decode cX0_keepIfNearer 18 = .ok (.ifCond .ge 22, 3) := by decide +kernel
theorem dX0_keepIfNearer_21 : decode cX0_keepIfNearer 21 = .ok (.aload_n 0, 1) := by decide +kernel
theorem dX0_keepIfNearer_22 : decode cX0_keepIfNearer 22 = .ok (.getfield 18, 3) := by decide +kernel
theorem dX0_keepIfNearer_25 : decode cX0_keepIfNearer 25 = .ok (.iload_n 1, 1) := by decide +kernel
theorem dX0_keepIfNearer_26 : decode cX0_keepIfNearer 26 = .ok (.aload_n 0, 1) := by decide +kernel
theorem dX0_keepIfNearer_27 : decode cX0_keepIfNearer 27 = .ok (.getfield 24, 3) := by decide +kernel
theorem dX0_keepIfNearer_30 : decode cX0_keepIfNearer 30 = .ok (.iload_n 1, 1) := by decide +kernel
theorem dX0_keepIfNearer_31 : decode cX0_keepIfNearer 31 = .ok (.iaload, 1) := by decide +kernel
theorem dX0_keepIfNearer_32 : decode cX0_keepIfNearer 32 = .ok (.iastore, 1) := by decide +kernel
theorem dX0_keepIfNearer_33 : decode cX0_keepIfNearer 33 = .ok (.aload_n 0, 1) := by decide +kernel
theorem dX0_keepIfNearer_34 : decode cX0_keepIfNearer 34 = .ok (.getfield 21, 3) := by decide +kernel
theorem dX0_keepIfNearer_37 : decode cX0_keepIfNearer 37 = .ok (.iload_n 1, 1) := by decide +kernel
theorem dX0_keepIfNearer_38 : decode cX0_keepIfNearer 38 = .ok (.iload_n 2, 1) := by decide +kernel
theorem dX0_keepIfNearer_39 : decode cX0_keepIfNearer 39 = .ok (.iastore, 1) := by decide +kernel
theorem dX0_keepIfNearer_40 : decode cX0_keepIfNearer 40 = .ok (.aload_n 0, 1) := by decide +kernel
theorem dX0_keepIfNearer_41 : decode cX0_keepIfNearer 41 = .ok (.getfield 11, 3) := by decide +kernel
theorem dX0_keepIfNearer_44 : decode cX0_keepIfNearer 44 = .ok (.iload_n 1, 1) := by decide +kernel
theorem dX0_keepIfNearer_45 : decode cX0_keepIfNearer 45 = .ok (.iaload, 1) := by decide +kernel
theorem dX0_keepIfNearer_46 : decode cX0_keepIfNearer 46 = .ok (.ifCond .lt 18, 3) := by decide +kernel
theorem dX0_keepIfNearer_49 : decode cX0_keepIfNearer 49 = .ok (.aload_n 0, 1) := by decide +kernel
theorem dX0_keepIfNearer_50 : decode cX0_keepIfNearer 50 = .ok (.getfield 24, 3) := by decide +kernel
theorem dX0_keepIfNearer_53 : decode cX0_keepIfNearer 53 = .ok (.iload_n 1, 1) := by decide +kernel
theorem dX0_keepIfNearer_54 : decode cX0_keepIfNearer 54 = .ok (.iaload, 1) := by decide +kernel
theorem dX0_keepIfNearer_55 : decode cX0_keepIfNearer 55 = .ok (.aload_n 0, 1) := by decide +kernel
theorem dX0_keepIfNearer_56 : decode cX0_keepIfNearer 56 = .ok (.getfield 11, 3) := by decide +kernel
theorem dX0_keepIfNearer_59 : decode cX0_keepIfNearer 59 = .ok (.iload_n 1, 1) := by decide +kernel
theorem dX0_keepIfNearer_60 : decode cX0_keepIfNearer 60 = .ok (.iaload, 1) := by decide +kernel
theorem dX0_keepIfNearer_61 : decode cX0_keepIfNearer 61 = .ok (.if_icmp .ge 22, 3) := by decide +kernel
theorem dX0_keepIfNearer_64 : decode cX0_keepIfNearer 64 = .ok (.aload_n 0, 1) := by decide +kernel
theorem dX0_keepIfNearer_65 : decode cX0_keepIfNearer 65 = .ok (.getfield 11, 3) := by decide +kernel
theorem dX0_keepIfNearer_68 : decode cX0_keepIfNearer 68 = .ok (.iload_n 1, 1) := by decide +kernel
theorem dX0_keepIfNearer_69 : decode cX0_keepIfNearer 69 = .ok (.aload_n 0, 1) := by decide +kernel
theorem dX0_keepIfNearer_70 : decode cX0_keepIfNearer 70 = .ok (.getfield 24, 3) := by decide +kernel
theorem dX0_keepIfNearer_73 : decode cX0_keepIfNearer 73 = .ok (.iload_n 1, 1) := by decide +kernel
theorem dX0_keepIfNearer_74 : decode cX0_keepIfNearer 74 = .ok (.iaload, 1) := by decide +kernel
theorem dX0_keepIfNearer_75 : decode cX0_keepIfNearer 75 = .ok (.iastore, 1) := by decide +kernel
theorem dX0_keepIfNearer_76 : decode cX0_keepIfNearer 76 = .ok (.aload_n 0, 1) := by decide +kernel
theorem dX0_keepIfNearer_77 : decode cX0_keepIfNearer 77 = .ok (.getfield 15, 3) := by decide +kernel
theorem dX0_keepIfNearer_80 : decode cX0_keepIfNearer 80 = .ok (.iload_n 1, 1) := by decide +kernel
theorem dX0_keepIfNearer_81 : decode cX0_keepIfNearer 81 = .ok (.iload_n 2, 1) := by decide +kernel
theorem dX0_keepIfNearer_82 : decode cX0_keepIfNearer 82 = .ok (.iastore, 1) := by decide +kernel
theorem dX0_keepIfNearer_83 : decode cX0_keepIfNearer 83 = .ok (.return_, 1) := by decide +kernel
theorem dX1_init_0 : decode cX1_init 0 = .ok (.aload_n 0, 1) := by decide +kernel
theorem dX1_init_1 : decode cX1_init 1 = .ok (.invokespecial 3, 3) := by decide +kernel
theorem dX1_init_4 : decode cX1_init 4 = .ok (.aload_n 0, 1) := by decide +kernel
theorem dX1_init_5 : decode cX1_init 5 = .ok (.bipush 96, 2) := by decide +kernel
theorem dX1_init_7 : decode cX1_init 7 = .ok (.newarray .int, 2) := by decide +kernel
theorem dX1_init_9 : decode cX1_init 9 = .ok (.putfield 9, 3) := by decide +kernel
theorem dX1_init_12 : decode cX1_init 12 = .ok (.aload_n 0, 1) := by decide +kernel
theorem dX1_init_13 : decode cX1_init 13 = .ok (.iconst 0, 1) := by decide +kernel
theorem dX1_init_14 : decode cX1_init 14 = .ok (.putfield 15, 3) := by decide +kernel
theorem dX1_init_17 : decode cX1_init 17 = .ok (.return_, 1) := by decide +kernel
theorem dX1_take_0 : decode cX1_take 0 = .ok (.aload_n 0, 1) := by decide +kernel
theorem dX1_take_1 : decode cX1_take 1 = .ok (.getfield 15, 3) := by decide +kernel
theorem dX1_take_4 : decode cX1_take 4 = .ok (.bipush 96, 2) := by decide +kernel
theorem dX1_take_6 : decode cX1_take 6 = .ok (.if_icmp .ge 23, 3) := by decide +kernel
theorem dX1_take_9 : decode cX1_take 9 = .ok (.aload_n 0, 1) := by decide +kernel
theorem dX1_take_10 : decode cX1_take 10 = .ok (.getfield 9, 3) := by decide +kernel
theorem dX1_take_13 : decode cX1_take 13 = .ok (.aload_n 0, 1) := by decide +kernel
theorem dX1_take_14 : decode cX1_take 14 = .ok (.getfield 15, 3) := by decide +kernel
theorem dX1_take_17 : decode cX1_take 17 = .ok (.iload_n 1, 1) := by decide +kernel
theorem dX1_take_18 : decode cX1_take 18 = .ok (.iastore, 1) := by decide +kernel
theorem dX1_take_19 : decode cX1_take 19 = .ok (.aload_n 0, 1) := by decide +kernel
theorem dX1_take_20 : decode cX1_take 20 = .ok (.dup, 1) := by decide +kernel
theorem dX1_take_21 : decode cX1_take 21 = .ok (.getfield 15, 3) := by decide +kernel
theorem dX1_take_24 : decode cX1_take 24 = .ok (.iconst 1, 1) := by decide +kernel
theorem dX1_take_25 : decode cX1_take 25 = .ok (.iadd, 1) := by decide +kernel
theorem dX1_take_26 : decode cX1_take 26 = .ok (.putfield 15, 3) := by decide +kernel
theorem dX1_take_29 : decode cX1_take 29 = .ok (.aload_n 0, 1) := by decide +kernel
theorem dX1_take_30 : decode cX1_take 30 = .ok (.getfield 15, 3) := by decide +kernel
theorem dX1_take_33 : decode cX1_take 33 = .ok (.ireturn, 1) := by decide +kernel
theorem dX1_shapeBehind_0 : decode cX1_shapeBehind 0 = .ok (.iload_n 0, 1) := by decide +kernel
theorem dX1_shapeBehind_1 : decode cX1_shapeBehind 1 = .ok (.lookupswitch 66 #[(100, 63), (101, 57), (102, 60), (112, 51), (119, 54)], 51) := by decide +kernel
theorem dX1_shapeBehind_52 : decode cX1_shapeBehind 52 = .ok (.ldc 19, 2) := by decide +kernel
theorem dX1_shapeBehind_54 : decode cX1_shapeBehind 54 = .ok (.areturn, 1) := by decide +kernel
theorem dX1_shapeBehind_55 : decode cX1_shapeBehind 55 = .ok (.ldc 21, 2) := by decide +kernel
theorem dX1_shapeBehind_57 : decode cX1_shapeBehind 57 = .ok (.areturn, 1) := by decide +kernel
theorem dX1_shapeBehind_58 : decode cX1_shapeBehind 58 = .ok (.ldc 23, 2) := by decide +kernel
theorem dX1_shapeBehind_60 : decode cX1_shapeBehind 60 = .ok (.areturn, 1) := by decide +kernel
theorem dX1_shapeBehind_61 : decode cX1_shapeBehind 61 = .ok (.ldc 25, 2) := by decide +kernel
theorem dX1_shapeBehind_63 : decode cX1_shapeBehind 63 = .ok (.areturn, 1) := by decide +kernel
theorem dX1_shapeBehind_64 : decode cX1_shapeBehind 64 = .ok (.ldc 27, 2) := by decide +kernel
theorem dX1_shapeBehind_66 : decode cX1_shapeBehind 66 = .ok (.areturn, 1) := by decide +kernel
theorem dX1_shapeBehind_67 : decode cX1_shapeBehind 67 = .ok (.ldc 29, 2) := by decide +kernel
theorem dX1_shapeBehind_69 : decode cX1_shapeBehind 69 = .ok (.areturn, 1) := by decide +kernel
set_option maxRecDepth 20000 in
theorem ggX1_fits_J0_indexOf_0f7a4 : GoodIn wsX1_fits wsJ0_indexOf_0f7a4 := goodIn_r _ [5, 6, 7, 8, 4, 9, 10, 11, 12, 13, 14, 15, 16, 17, 18, 19, 20, 21, 22, 23, 24, 25, 26, 27, 28, 29, 30, 31, 32, 33, 34, 35, 36, 37, 38, 39, 40, 41, 42, 43, 44, 45, 46, 47, 48, 49, 50, 51, 52, 53, 54, 55, 56, 57, 58, 59, 60, 61, 62, 63, 64, 65, 66, 67, 68, 69, 70, 71, 72, 73, 74, 75, 76, 77, 78, 79, 80, 81, 82, 83, 84, 85, 86, 87, 88, 89] (by decide +kernel) (by decide +kernel)
set_option maxRecDepth 20000 in
theorem gX1_fits_J0_indexOf_0f7a4 : GoodIn wsX1_fits (wsV RX1 33 RJ0 yJ0_indexOf_0f7a4 wsJ0_indexOf_0f7a4) := goodIn_app (goodIn_of _ (by decide +kernel)) ggX1_fits_J0_indexOf_0f7a4
theorem dX1_fits_0 : decode cX1_fits 0 = .ok (.iload_n 0, 1) := by decide +kernel
theorem dX1_fits_1 : decode cX1_fits 1 = .ok (.bipush 107, 2) := by decide +kernel
theorem dX1_fits_3 : decode cX1_fits 3 = .ok (.if_icmp .ne 19, 3) := by decide +kernel
theorem dX1_fits_6 : decode cX1_fits 6 = .ok (.ldc 31, 2) := by decide +kernel
theorem dX1_fits_8 : decode cX1_fits 8 = .ok (.iload_n 1, 1) := by decide +kernel
theorem dX1_fits_9 : decode cX1_fits 9 = .ok (.i2c, 1) := by decide +kernel
theorem dX1_fits_10 : decode cX1_fits 10 = .ok (.invokevirtual 33, 3) := by decide +kernel
theorem dX1_fits_13 : decode cX1_fits 13 = .ok (.ifCond .lt 7, 3) := by decide +kernel
theorem dX1_fits_16 : decode cX1_fits 16 = .ok (.iconst 1, 1) := by decide +kernel
theorem dX1_fits_17 : decode cX1_fits 17 = .ok (.goto 4, 3) := by decide +kernel
theorem dX1_fits_20 : decode cX1_fits 20 = .ok (.iconst 0, 1) := by decide +kernel
theorem dX1_fits_21 : decode cX1_fits 21 = .ok (.ireturn, 1) := by decide +kernel
theorem dX1_fits_22 : decode cX1_fits 22 = .ok (.iload_n 0, 1) := by decide +kernel
theorem dX1_fits_23 : decode cX1_fits 23 = .ok (.bipush 48, 2) := by decide +kernel
theorem dX1_fits_25 : decode cX1_fits 25 = .ok (.if_icmp .ne 21, 3) := by decide +kernel
theorem dX1_fits_28 : decode cX1_fits 28 = .ok (.iload_n 1, 1) := by decide +kernel
theorem dX1_fits_29 : decode cX1_fits 29 = .ok (.bipush 48, 2) := by decide +kernel
theorem dX1_fits_31 : decode cX1_fits 31 = .ok (.if_icmp .lt 13, 3) := by decide +kernel
theorem dX1_fits_34 : decode cX1_fits 34 = .ok (.iload_n 1, 1) := by decide +kernel
theorem dX1_fits_35 : decode cX1_fits 35 = .ok (.bipush 57, 2) := by decide +kernel
theorem dX1_fits_37 : decode cX1_fits 37 = .ok (.if_icmp .gt 7, 3) := by decide +kernel
theorem dX1_fits_40 : decode cX1_fits 40 = .ok (.iconst 1, 1) := by decide +kernel
theorem dX1_fits_41 : decode cX1_fits 41 = .ok (.goto 4, 3) := by decide +kernel
theorem dX1_fits_44 : decode cX1_fits 44 = .ok (.iconst 0, 1) := by decide +kernel
theorem dX1_fits_45 : decode cX1_fits 45 = .ok (.ireturn, 1) := by decide +kernel
theorem dX1_fits_46 : decode cX1_fits 46 = .ok (.iload_n 1, 1) := by decide +kernel
theorem dX1_fits_47 : decode cX1_fits 47 = .ok (.iload_n 0, 1) := by decide +kernel
theorem dX1_fits_48 : decode cX1_fits 48 = .ok (.if_icmp .ne 7, 3) := by decide +kernel
theorem dX1_fits_51 : decode cX1_fits 51 = .ok (.iconst 1, 1) := by decide +kernel
theorem dX1_fits_52 : decode cX1_fits 52 = .ok (.goto 4, 3) := by decide +kernel
theorem dX1_fits_55 : decode cX1_fits 55 = .ok (.iconst 0, 1) := by decide +kernel
theorem dX1_fits_56 : decode cX1_fits 56 = .ok (.ireturn, 1) := by decide +kernel
set_option maxRecDepth 20000 in
theorem ggX1_firstMisfit_J0_length_8abf5 : GoodIn wsX1_firstMisfit wsJ0_length_8abf5 := goodIn_r _ [7, 8, 9, 10, 11, 6, 12, 13, 14] (by decide +kernel) (by decide +kernel)
set_option maxRecDepth 20000 in
theorem gX1_firstMisfit_J0_length_8abf5 : GoodIn wsX1_firstMisfit (wsV RX1 39 RJ0 yJ0_length_8abf5 wsJ0_length_8abf5) := goodIn_app (goodIn_of _ (by decide +kernel)) ggX1_firstMisfit_J0_length_8abf5
set_option maxRecDepth 20000 in
theorem ggX1_firstMisfit_X1_shapeBehind : GoodIn wsX1_firstMisfit wsX1_shapeBehind := goodIn_r _ [18] (by decide +kernel) (by decide +kernel)
set_option maxRecDepth 20000 in
theorem gX1_firstMisfit_X1_shapeBehind : GoodIn wsX1_firstMisfit (va_wsS RX1 42 yX1_shapeBehind wsX1_shapeBehind) := goodIn_app (goodIn_of _ (by decide +kernel)) ggX1_firstMisfit_X1_shapeBehind
set_option maxRecDepth 20000 in
theorem ggX1_firstMisfit_J0_isEmpty_aae02 : GoodIn wsX1_firstMisfit wsJ0_isEmpty_aae02 := goodIn_r _ [22, 8] (by decide +kernel) (by decide +kernel)
set_option maxRecDepth 20000 in
theorem gX1_firstMisfit_J0_isEmpty_aae02 : GoodIn wsX1_firstMisfit (wsV RX1 46 RJ0 yJ0_isEmpty_aae02 wsJ0_isEmpty_aae02) := goodIn_app (goodIn_of _ (by decide +kernel)) ggX1_firstMisfit_J0_isEmpty_aae02
set_option maxRecDepth 20000 in
theorem ggX1_firstMisfit_J0_charAt_5068e : GoodIn wsX1_firstMisfit wsJ0_charAt_5068e := goodIn_r _ [26, 8, 27, 28, 29, 6, 30, 13, 14, 31, 32, 33, 34, 35, 36, 37, 38, 39, 40, 41, 42, 43, 44, 45, 46, 47, 48, 49, 50, 51, 52, 53, 54, 55, 56, 57, 58, 59] (by decide +kernel) (by decide +kernel)
set_option maxRecDepth 20000 in
theorem gX1_firstMisfit_J0_charAt_5068e : GoodIn wsX1_firstMisfit (wsV RX1 50 RJ0 yJ0_charAt_5068e wsJ0_charAt_5068e) := goodIn_app (goodIn_of _ (by decide +kernel)) ggX1_firstMisfit_J0_charAt_5068e
set_option maxRecDepth 20000 in
theorem ggX1_firstMisfit_X1_fits : GoodIn wsX1_firstMisfit wsX1_fits := goodIn_r _ [62, 63, 64, 65, 6, 66, 67, 68, 69, 70, 8, 27, 28, 29, 30, 13, 14, 71, 4, 5, 7, 9, 10, 11, 12, 72, 73, 33, 74, 75, 76, 77, 78, 79, 80, 81, 82, 83, 84, 85, 86, 87, 88, 89, 45, 90, 91, 92, 93, 94, 95, 96, 97, 98, 99, 50, 51, 52, 100, 101, 102, 38, 103, 104, 41, 105, 106, 107, 108, 54, 55, 56, 57, 58, 59, 109, 110, 111, 112, 113, 114, 115, 116, 117, 118, 119, 120, 121, 122, 123] (by decide +kernel) (by decide +kernel)
set_option maxRecDepth 20000 in
theorem gX1_firstMisfit_X1_fits : GoodIn wsX1_firstMisfit (va_wsS RX1 54 yX1_fits wsX1_fits) := goodIn_app (goodIn_of _ (by decide +kernel)) ggX1_firstMisfit_X1_fits
theorem dX1_firstMisfit_0 : decode cX1_firstMisfit 0 = .ok (.ldc 29, 2) := by decide +kernel
theorem dX1_firstMisfit_2 : decode cX1_firstMisfit 2 = .ok (.astore_n 1, 1) := by decide +kernel
theorem dX1_firstMisfit_3 : decode cX1_firstMisfit 3 = .ok (.iconst 0, 1) := by decide +kernel
theorem dX1_firstMisfit_4 : decode cX1_firstMisfit 4 = .ok (.istore_n 2, 1) := by decide +kernel
theorem dX1_firstMisfit_5 : decode cX1_firstMisfit 5 = .ok (.iconst 0, 1) := by decide +kernel
theorem dX1_firstMisfit_6 : decode cX1_firstMisfit 6 = .ok (.istore_n 3, 1) := by decide +kernel
theorem dX1_firstMisfit_7 : decode cX1_firstMisfit 7 = .ok (.iload_n 3, 1) := by decide +kernel
theorem dX1_firstMisfit_8 : decode cX1_firstMisfit 8 = .ok (.aload_n 0, 1) := by decide +kernel
theorem dX1_firstMisfit_9 : decode cX1_firstMisfit 9 = .ok (.getfield 15, 3) := by decide +kernel
theorem dX1_firstMisfit_12 : decode cX1_firstMisfit 12 = .ok (.if_icmp .ge 63, 3) := by decide +kernel
theorem dX1_firstMisfit_15 : decode cX1_firstMisfit 15 = .ok (.iload_n 2, 1) := by decide +kernel
theorem dX1_firstMisfit_16 : decode cX1_firstMisfit 16 = .ok (.aload_n 1, 1) := by decide +kernel
theorem dX1_firstMisfit_17 : decode cX1_firstMisfit 17 = .ok (.invokevirtual 39, 3) := by decide +kernel
theorem dX1_firstMisfit_20 : decode cX1_firstMisfit 20 = .ok (.if_icmp .lt 24, 3) := by decide +kernel
theorem dX1_firstMisfit_23 : decode cX1_firstMisfit 23 = .ok (.aload_n 0, 1) := by decide +kernel
theorem dX1_firstMisfit_24 : decode cX1_firstMisfit 24 = .ok (.getfield 9, 3) := by decide +kernel
theorem dX1_firstMisfit_27 : decode cX1_firstMisfit 27 = .ok (.iload_n 3, 1) := by decide +kernel
theorem dX1_firstMisfit_28 : decode cX1_firstMisfit 28 = .ok (.iaload, 1) := by decide +kernel
theorem dX1_firstMisfit_29 : decode cX1_firstMisfit 29 = .ok (.invokestatic 42, 3) := by decide +kernel
theorem dX1_firstMisfit_32 : decode cX1_firstMisfit 32 = .ok (.astore_n 1, 1) := by decide +kernel
theorem dX1_firstMisfit_33 : decode cX1_firstMisfit 33 = .ok (.iconst 0, 1) := by decide +kernel
theorem dX1_firstMisfit_34 : decode cX1_firstMisfit 34 = .ok (.istore_n 2, 1) := by decide +kernel
theorem dX1_firstMisfit_35 : decode cX1_firstMisfit 35 = .ok (.aload_n 1, 1) := by decide +kernel
theorem dX1_firstMisfit_36 : decode cX1_firstMisfit 36 = .ok (.invokevirtual 46, 3) := by decide +kernel
theorem dX1_firstMisfit_39 : decode cX1_firstMisfit 39 = .ok (.ifCond .eq 30, 3) := by decide +kernel
theorem dX1_firstMisfit_42 : decode cX1_firstMisfit 42 = .ok (.iload_n 3, 1) := by decide +kernel
theorem dX1_firstMisfit_43 : decode cX1_firstMisfit 43 = .ok (.ireturn, 1) := by decide +kernel
theorem dX1_firstMisfit_44 : decode cX1_firstMisfit 44 = .ok (.aload_n 1, 1) := by decide +kernel
theorem dX1_firstMisfit_45 : decode cX1_firstMisfit 45 = .ok (.iload_n 2, 1) := by decide +kernel
theorem dX1_firstMisfit_46 : decode cX1_firstMisfit 46 = .ok (.invokevirtual 50, 3) := by decide +kernel
theorem dX1_firstMisfit_49 : decode cX1_firstMisfit 49 = .ok (.aload_n 0, 1) := by decide +kernel
theorem dX1_firstMisfit_50 : decode cX1_firstMisfit 50 = .ok (.getfield 9, 3) := by decide +kernel
theorem dX1_firstMisfit_53 : decode cX1_firstMisfit 53 = .ok (.iload_n 3, 1) := by decide +kernel
theorem dX1_firstMisfit_54 : decode cX1_firstMisfit 54 = .ok (.iaload, 1) := by decide +kernel
theorem dX1_firstMisfit_55 : decode cX1_firstMisfit 55 = .ok (.invokestatic 54, 3) := by decide +kernel
theorem dX1_firstMisfit_58 : decode cX1_firstMisfit 58 = .ok (.ifCond .eq 9, 3) := by decide +kernel
theorem dX1_firstMisfit_61 : decode cX1_firstMisfit 61 = .ok (.iinc 2 1, 3) := by decide +kernel
theorem dX1_firstMisfit_64 : decode cX1_firstMisfit 64 = .ok (.goto 5, 3) := by decide +kernel
theorem dX1_firstMisfit_67 : decode cX1_firstMisfit 67 = .ok (.iload_n 3, 1) := by decide +kernel
theorem dX1_firstMisfit_68 : decode cX1_firstMisfit 68 = .ok (.ireturn, 1) := by decide +kernel
theorem dX1_firstMisfit_69 : decode cX1_firstMisfit 69 = .ok (.iinc 3 1, 3) := by decide +kernel
theorem dX1_firstMisfit_72 : decode cX1_firstMisfit 72 = .ok (.goto (-65), 3) := by decide +kernel
theorem dX1_firstMisfit_75 : decode cX1_firstMisfit 75 = .ok (.aload_n 0, 1) := by decide +kernel
theorem dX1_firstMisfit_76 : decode cX1_firstMisfit 76 = .ok (.getfield 15, 3) := by decide +kernel
theorem dX1_firstMisfit_79 : decode cX1_firstMisfit 79 = .ok (.ifCond .le 15, 3) := by decide +kernel
theorem dX1_firstMisfit_82 : decode cX1_firstMisfit 82 = .ok (.iload_n 2, 1) := by decide +kernel
theorem dX1_firstMisfit_83 : decode cX1_firstMisfit 83 = .ok (.aload_n 1, 1) := by decide +kernel
theorem dX1_firstMisfit_84 : decode cX1_firstMisfit 84 = .ok (.invokevirtual 39, 3) := by decide +kernel
theorem dX1_firstMisfit_87 : decode cX1_firstMisfit 87 = .ok (.if_icmp .lt 7, 3) := by decide +kernel
theorem dX1_firstMisfit_90 : decode cX1_firstMisfit 90 = .ok (.iconst (-1), 1) := by decide +kernel
theorem dX1_firstMisfit_91 : decode cX1_firstMisfit 91 = .ok (.goto 7, 3) := by decide +kernel
theorem dX1_firstMisfit_94 : decode cX1_firstMisfit 94 = .ok (.aload_n 0, 1) := by decide +kernel
theorem dX1_firstMisfit_95 : decode cX1_firstMisfit 95 = .ok (.getfield 15, 3) := by decide +kernel
theorem dX1_firstMisfit_98 : decode cX1_firstMisfit 98 = .ok (.ireturn, 1) := by decide +kernel
set_option maxRecDepth 20000 in
theorem ggX1_firstWrongStatement_X1_tellStatement : GoodIn wsX1_firstWrongStatement wsX1_tellStatement := goodIn_r _ [7, 2, 8, 9, 10, 6, 11, 1, 12, 13, 14, 15, 16, 17, 18, 19, 20, 21, 22, 23, 24, 25, 26, 27, 28, 29, 30, 31, 32, 33, 34, 35, 36, 37, 38, 39, 40, 41, 42, 43, 44, 45, 46, 47, 48, 49, 50, 51, 52, 53, 54, 55, 56, 57, 58, 59, 60, 61, 62, 63, 64, 65, 66, 67, 68, 69, 70, 71, 72, 73, 74, 75, 76, 77, 78, 79, 80, 81, 82, 83, 84, 85, 86, 87, 88, 89, 90, 91, 92, 93, 94, 95, 96, 97, 98, 99, 100, 101, 102, 103, 104, 105, 106, 107, 108, 109, 110, 111, 112, 113, 114, 115, 116, 117, 118, 119, 120, 121, 122, 123, 124, 125, 126, 127, 128, 129, 130, 131, 132, 133, 134, 135, 136, 137, 138, 139, 140, 141, 142, 143, 144, 145, 146, 147, 148, 149, 150, 151, 152, 153, 154, 155, 156, 157, 158, 159, 160, 161, 162, 163, 164, 165] (by decide +kernel) (by decide +kernel)
set_option maxRecDepth 20000 in
theorem gX1_firstWrongStatement_X1_tellStatement : GoodIn wsX1_firstWrongStatement (wsV RX1 58 RX1 yX1_tellStatement wsX1_tellStatement) := goodIn_app (goodIn_of _ (by decide +kernel)) ggX1_firstWrongStatement_X1_tellStatement
theorem dX1_firstWrongStatement_0 : decode cX1_firstWrongStatement 0 = .ok (.iconst 0, 1) := by decide +kernel
theorem dX1_firstWrongStatement_1 : decode cX1_firstWrongStatement 1 = .ok (.istore_n 2, 1) := by decide +kernel
theorem dX1_firstWrongStatement_2 : decode cX1_firstWrongStatement 2 = .ok (.iload_n 2, 1) := by decide +kernel
theorem dX1_firstWrongStatement_3 : decode cX1_firstWrongStatement 3 = .ok (.aload_n 0, 1) := by decide +kernel
theorem dX1_firstWrongStatement_4 : decode cX1_firstWrongStatement 4 = .ok (.getfield 15, 3) := by decide +kernel
theorem dX1_firstWrongStatement_7 : decode cX1_firstWrongStatement 7 = .ok (.if_icmp .ge 47, 3) := by decide +kernel
theorem dX1_firstWrongStatement_10 : decode cX1_firstWrongStatement 10 = .ok (.iload_n 2, 1) := by decide +kernel
theorem dX1_firstWrongStatement_11 : decode cX1_firstWrongStatement 11 = .ok (.ifCond .eq 16, 3) := by decide +kernel
theorem dX1_firstWrongStatement_14 : decode cX1_firstWrongStatement 14 = .ok (.aload_n 0, 1) := by decide +kernel
theorem dX1_firstWrongStatement_15 : decode cX1_firstWrongStatement 15 = .ok (.getfield 9, 3) := by decide +kernel
theorem dX1_firstWrongStatement_18 : decode cX1_firstWrongStatement 18 = .ok (.iload_n 2, 1) := by decide +kernel
theorem dX1_firstWrongStatement_19 : decode cX1_firstWrongStatement 19 = .ok (.iconst 1, 1) := by decide +kernel
theorem dX1_firstWrongStatement_20 : decode cX1_firstWrongStatement 20 = .ok (.isub, 1) := by decide +kernel
theorem dX1_firstWrongStatement_21 : decode cX1_firstWrongStatement 21 = .ok (.iaload, 1) := by decide +kernel
theorem dX1_firstWrongStatement_22 : decode cX1_firstWrongStatement 22 = .ok (.bipush 59, 2) := by decide +kernel
theorem dX1_firstWrongStatement_24 : decode cX1_firstWrongStatement 24 = .ok (.if_icmp .ne 7, 3) := by decide +kernel
theorem dX1_firstWrongStatement_27 : decode cX1_firstWrongStatement 27 = .ok (.iconst 1, 1) := by decide +kernel
theorem dX1_firstWrongStatement_28 : decode cX1_firstWrongStatement 28 = .ok (.goto 4, 3) := by decide +kernel
theorem dX1_firstWrongStatement_31 : decode cX1_firstWrongStatement 31 = .ok (.iconst 0, 1) := by decide +kernel
theorem dX1_firstWrongStatement_32 : decode cX1_firstWrongStatement 32 = .ok (.istore_n 3, 1) := by decide +kernel
theorem dX1_firstWrongStatement_33 : decode cX1_firstWrongStatement 33 = .ok (.iload_n 3, 1) := by decide +kernel
theorem dX1_firstWrongStatement_34 : decode cX1_firstWrongStatement 34 = .ok (.ifCond .eq 14, 3) := by decide +kernel
theorem dX1_firstWrongStatement_37 : decode cX1_firstWrongStatement 37 = .ok (.aload_n 0, 1) := by decide +kernel
theorem dX1_firstWrongStatement_38 : decode cX1_firstWrongStatement 38 = .ok (.aload_n 1, 1) := by decide +kernel
theorem dX1_firstWrongStatement_39 : decode cX1_firstWrongStatement 39 = .ok (.iload_n 2, 1) := by decide +kernel
theorem dX1_firstWrongStatement_40 : decode cX1_firstWrongStatement 40 = .ok (.invokevirtual 58, 3) := by decide +kernel
theorem dX1_firstWrongStatement_43 : decode cX1_firstWrongStatement 43 = .ok (.ifCond .ne 5, 3) := by decide +kernel
theorem dX1_firstWrongStatement_46 : decode cX1_firstWrongStatement 46 = .ok (.iload_n 2, 1) := by decide +kernel
theorem dX1_firstWrongStatement_47 : decode cX1_firstWrongStatement 47 = .ok (.ireturn, 1) := by decide +kernel
theorem dX1_firstWrongStatement_48 : decode cX1_firstWrongStatement 48 = .ok (.iinc 2 1, 3) := by decide +kernel
theorem dX1_firstWrongStatement_51 : decode cX1_firstWrongStatement 51 = .ok (.goto (-49), 3) := by decide +kernel
theorem dX1_firstWrongStatement_54 : decode cX1_firstWrongStatement 54 = .ok (.iconst (-1), 1) := by decide +kernel
theorem dX1_firstWrongStatement_55 : decode cX1_firstWrongStatement 55 = .ok (.ireturn, 1) := by decide +kernel
theorem dX1_statements_0 : decode cX1_statements 0 = .ok (.iconst 0, 1) := by decide +kernel
theorem dX1_statements_1 : decode cX1_statements 1 = .ok (.istore_n 1, 1) := by decide +kernel
theorem dX1_statements_2 : decode cX1_statements 2 = .ok (.iconst 0, 1) := by decide +kernel
theorem dX1_statements_3 : decode cX1_statements 3 = .ok (.istore_n 2, 1) := by decide +kernel
theorem dX1_statements_4 : decode cX1_statements 4 = .ok (.iload_n 2, 1) := by decide +kernel
theorem dX1_statements_5 : decode cX1_statements 5 = .ok (.aload_n 0, 1) := by decide +kernel
theorem dX1_statements_6 : decode cX1_statements 6 = .ok (.getfield 15, 3) := by decide +kernel
theorem dX1_statements_9 : decode cX1_statements 9 = .ok (.if_icmp .ge 23, 3) := by decide +kernel
theorem dX1_statements_12 : decode cX1_statements 12 = .ok (.aload_n 0, 1) := by decide +kernel
theorem dX1_statements_13 : decode cX1_statements 13 = .ok (.getfield 9, 3) := by decide +kernel
theorem dX1_statements_16 : decode cX1_statements 16 = .ok (.iload_n 2, 1) := by decide +kernel
theorem dX1_statements_17 : decode cX1_statements 17 = .ok (.iaload, 1) := by decide +kernel
theorem dX1_statements_18 : decode cX1_statements 18 = .ok (.bipush 59, 2) := by decide +kernel
theorem dX1_statements_20 : decode cX1_statements 20 = .ok (.if_icmp .ne 6, 3) := by decide +kernel
theorem dX1_statements_23 : decode cX1_statements 23 = .ok (.iinc 1 1, 3) := by decide +kernel
theorem dX1_statements_26 : decode cX1_statements 26 = .ok (.iinc 2 1, 3) := by decide +kernel
theorem dX1_statements_29 : decode cX1_statements 29 = .ok (.goto (-25), 3) := by decide +kernel
theorem dX1_statements_32 : decode cX1_statements 32 = .ok (.iload_n 1, 1) := by decide +kernel
theorem dX1_statements_33 : decode cX1_statements 33 = .ok (.ireturn, 1) := by decide +kernel
set_option maxRecDepth 20000 in
theorem ggX1_tellStatement_X1_kindAt : GoodIn wsX1_tellStatement wsX1_kindAt := goodIn_r _ [6, 7, 1, 8, 9, 10, 11, 12, 13, 14, 15, 16, 17, 18, 19, 20, 21, 22, 23, 24, 25, 26, 27, 28, 29, 30, 31, 32, 33, 34, 35, 36, 37, 38, 39, 40, 41, 42, 43, 44, 45, 46, 47, 48, 49, 50, 51, 52, 53, 54, 55, 56, 57, 58, 59, 60, 61, 62, 63, 64, 65, 66, 67, 68, 69, 70, 71, 72, 73, 74, 75, 76, 77, 78, 79, 80, 81, 82, 83, 84, 85, 86, 87, 88, 89, 90, 91, 92, 93, 94, 95, 96, 143, 144] (by decide +kernel) (by decide +kernel)
set_option maxRecDepth 20000 in
theorem gX1_tellStatement_X1_kindAt : GoodIn wsX1_tellStatement (wsV RX1 62 RX1 yX1_kindAt wsX1_kindAt) := goodIn_app (goodIn_of _ (by decide +kernel)) ggX1_tellStatement_X1_kindAt
set_option maxRecDepth 20000 in
theorem ggX1_tellStatement_X1_number : GoodIn wsX1_tellStatement wsX1_number := goodIn_r _ [100, 7, 1, 143, 144] (by decide +kernel) (by decide +kernel)
set_option maxRecDepth 20000 in
theorem gX1_tellStatement_X1_number : GoodIn wsX1_tellStatement (wsV RX1 65 RX1 yX1_number wsX1_number) := goodIn_app (goodIn_of _ (by decide +kernel)) ggX1_tellStatement_X1_number
set_option maxRecDepth 20000 in
theorem ggX1_tellStatement_X2_addPlace : GoodIn wsX1_tellStatement wsX2_addPlace := goodIn_r _ [105, 106, 107, 108, 109, 145, 146, 147, 148, 149, 150, 151, 152, 153, 154, 155, 156, 157, 158, 159, 160, 161] (by decide +kernel) (by decide +kernel)
set_option maxRecDepth 20000 in
theorem gX1_tellStatement_X2_addPlace : GoodIn wsX1_tellStatement (wsV RX1 69 RX2 yX2_addPlace wsX2_addPlace) := goodIn_app (goodIn_of _ (by decide +kernel)) ggX1_tellStatement_X2_addPlace
set_option maxRecDepth 20000 in
theorem ggX1_tellStatement_X2_addWay : GoodIn wsX1_tellStatement wsX2_addWay := goodIn_r _ [113, 114, 106, 115, 116, 117, 118, 119, 120, 121, 104, 122, 145, 146, 147, 148, 149, 150, 151, 152, 153, 154, 155, 156, 157, 158, 159, 160, 161] (by decide +kernel) (by decide +kernel)
set_option maxRecDepth 20000 in
theorem gX1_tellStatement_X2_addWay : GoodIn wsX1_tellStatement (wsV RX1 75 RX2 yX2_addWay wsX2_addWay) := goodIn_app (goodIn_of _ (by decide +kernel)) ggX1_tellStatement_X2_addWay
set_option maxRecDepth 20000 in
theorem ggX1_tellStatement_X2_addErrand : GoodIn wsX1_tellStatement wsX2_addErrand := goodIn_r _ [126, 127, 106, 128, 129, 130, 131, 145, 146, 147, 148, 149, 150, 151, 152, 153, 154, 155, 156, 157, 158, 159, 160, 161] (by decide +kernel) (by decide +kernel)
set_option maxRecDepth 20000 in
theorem gX1_tellStatement_X2_addErrand : GoodIn wsX1_tellStatement (wsV RX1 79 RX2 yX2_addErrand wsX2_addErrand) := goodIn_app (goodIn_of _ (by decide +kernel)) ggX1_tellStatement_X2_addErrand
set_option maxRecDepth 20000 in
theorem ggX1_tellStatement_X2_useFuel : GoodIn wsX1_tellStatement wsX2_useFuel := goodIn_r _ [135, 136, 137, 145, 146, 147, 148, 149, 150, 151, 152, 153, 154, 155, 156, 157, 158, 159, 160, 161] (by decide +kernel) (by decide +kernel)
set_option maxRecDepth 20000 in
theorem gX1_tellStatement_X2_useFuel : GoodIn wsX1_tellStatement (wsV RX1 82 RX2 yX2_useFuel wsX2_useFuel) := goodIn_app (goodIn_of _ (by decide +kernel)) ggX1_tellStatement_X2_useFuel
set_option maxRecDepth 20000 in
theorem ggX1_tellStatement_X2_takeDriver : GoodIn wsX1_tellStatement wsX2_takeDriver := goodIn_r _ [141, 142, 145, 146, 147, 148, 149, 150, 151, 152, 153, 154, 155, 156, 157, 158, 159, 160, 161] (by decide +kernel) (by decide +kernel)
set_option maxRecDepth 20000 in
theorem gX1_tellStatement_X2_takeDriver : GoodIn wsX1_tellStatement (wsV RX1 86 RX2 yX2_takeDriver wsX2_takeDriver) := goodIn_app (goodIn_of _ (by decide +kernel)) ggX1_tellStatement_X2_takeDriver
theorem dX1_tellStatement_0 : decode cX1_tellStatement 0 = .ok (.aload_n 0, 1) := by decide +kernel
theorem dX1_tellStatement_1 : decode cX1_tellStatement 1 = .ok (.getfield 9, 3) := by decide +kernel
theorem dX1_tellStatement_4 : decode cX1_tellStatement 4 = .ok (.iload_n 2, 1) := by decide +kernel
theorem dX1_tellStatement_5 : decode cX1_tellStatement 5 = .ok (.iaload, 1) := by decide +kernel
theorem dX1_tellStatement_6 : decode cX1_tellStatement 6 = .ok (.lookupswitch 187 #[(100, 174), (101, 115), (102, 153), (112, 50), (119, 78)], 50) := by decide +kernel
theorem dX1_tellStatement_56 : decode cX1_tellStatement 56 = .ok (.aload_n 1, 1) := by decide +kernel
theorem dX1_tellStatement_57 : decode cX1_tellStatement 57 = .ok (.aload_n 0, 1) := by decide +kernel
theorem dX1_tellStatement_58 : decode cX1_tellStatement 58 = .ok (.iload_n 2, 1) := by decide +kernel
theorem dX1_tellStatement_59 : decode cX1_tellStatement 59 = .ok (.iconst 1, 1) := by decide +kernel
theorem dX1_tellStatement_60 : decode cX1_tellStatement 60 = .ok (.iadd, 1) := by decide +kernel
theorem dX1_tellStatement_61 : decode cX1_tellStatement 61 = .ok (.invokevirtual 62, 3) := by decide +kernel
theorem dX1_tellStatement_64 : decode cX1_tellStatement 64 = .ok (.aload_n 0, 1) := by decide +kernel
theorem dX1_tellStatement_65 : decode cX1_tellStatement 65 = .ok (.iload_n 2, 1) := by decide +kernel
theorem dX1_tellStatement_66 : decode cX1_tellStatement 66 = .ok (.iconst 2, 1) := by decide +kernel
theorem dX1_tellStatement_67 : decode cX1_tellStatement 67 = .ok (.iadd, 1) := by decide +kernel
theorem dX1_tellStatement_68 : decode cX1_tellStatement 68 = .ok (.iconst 1, 1) := by decide +kernel
theorem dX1_tellStatement_69 : decode cX1_tellStatement 69 = .ok (.invokevirtual 65, 3) := by decide +kernel
theorem dX1_tellStatement_72 : decode cX1_tellStatement 72 = .ok (.aload_n 0, 1) := by decide +kernel
theorem dX1_tellStatement_73 : decode cX1_tellStatement 73 = .ok (.iload_n 2, 1) := by decide +kernel
theorem dX1_tellStatement_74 : decode cX1_tellStatement 74 = .ok (.iconst 3, 1) := by decide +kernel
theorem dX1_tellStatement_75 : decode cX1_tellStatement 75 = .ok (.iadd, 1) := by decide +kernel
theorem dX1_tellStatement_76 : decode cX1_tellStatement 76 = .ok (.iconst 1, 1) := by decide +kernel
theorem dX1_tellStatement_77 : decode cX1_tellStatement 77 = .ok (.invokevirtual 65, 3) := by decide +kernel
theorem dX1_tellStatement_80 : decode cX1_tellStatement 80 = .ok (.invokevirtual 69, 3) := by decide +kernel
theorem dX1_tellStatement_83 : decode cX1_tellStatement 83 = .ok (.ireturn, 1) := by decide +kernel
theorem dX1_tellStatement_84 : decode cX1_tellStatement 84 = .ok (.aload_n 1, 1) := by decide +kernel
theorem dX1_tellStatement_85 : decode cX1_tellStatement 85 = .ok (.aload_n 0, 1) := by decide +kernel
theorem dX1_tellStatement_86 : decode cX1_tellStatement 86 = .ok (.iload_n 2, 1) := by decide +kernel
theorem dX1_tellStatement_87 : decode cX1_tellStatement 87 = .ok (.iconst 1, 1) := by decide +kernel
theorem dX1_tellStatement_88 : decode cX1_tellStatement 88 = .ok (.iadd, 1) := by decide +kernel
theorem dX1_tellStatement_89 : decode cX1_tellStatement 89 = .ok (.iconst 1, 1) := by decide +kernel
theorem dX1_tellStatement_90 : decode cX1_tellStatement 90 = .ok (.invokevirtual 65, 3) := by decide +kernel
theorem dX1_tellStatement_93 : decode cX1_tellStatement 93 = .ok (.aload_n 0, 1) := by decide +kernel
theorem dX1_tellStatement_94 : decode cX1_tellStatement 94 = .ok (.iload_n 2, 1) := by decide +kernel
theorem dX1_tellStatement_95 : decode cX1_tellStatement 95 = .ok (.iconst 2, 1) := by decide +kernel
theorem dX1_tellStatement_96 : decode cX1_tellStatement 96 = .ok (.iadd, 1) := by decide +kernel
theorem dX1_tellStatement_97 : decode cX1_tellStatement 97 = .ok (.iconst 1, 1) := by decide +kernel
theorem dX1_tellStatement_98 : decode cX1_tellStatement 98 = .ok (.invokevirtual 65, 3) := by decide +kernel
theorem dX1_tellStatement_101 : decode cX1_tellStatement 101 = .ok (.aload_n 0, 1) := by decide +kernel
theorem dX1_tellStatement_102 : decode cX1_tellStatement 102 = .ok (.iload_n 2, 1) := by decide +kernel
theorem dX1_tellStatement_103 : decode cX1_tellStatement 103 = .ok (.iconst 3, 1) := by decide +kernel
theorem dX1_tellStatement_104 : decode cX1_tellStatement 104 = .ok (.iadd, 1) := by decide +kernel
theorem dX1_tellStatement_105 : decode cX1_tellStatement 105 = .ok (.iconst 2, 1) := by decide +kernel
theorem dX1_tellStatement_106 : decode cX1_tellStatement 106 = .ok (.invokevirtual 65, 3) := by decide +kernel
theorem dX1_tellStatement_109 : decode cX1_tellStatement 109 = .ok (.aload_n 0, 1) := by decide +kernel
theorem dX1_tellStatement_110 : decode cX1_tellStatement 110 = .ok (.iload_n 2, 1) := by decide +kernel
theorem dX1_tellStatement_111 : decode cX1_tellStatement 111 = .ok (.iconst 5, 1) := by decide +kernel
theorem dX1_tellStatement_112 : decode cX1_tellStatement 112 = .ok (.iadd, 1) := by decide +kernel
theorem dX1_tellStatement_113 : decode cX1_tellStatement 113 = .ok (.iconst 1, 1) := by decide +kernel
theorem dX1_tellStatement_114 : decode cX1_tellStatement 114 = .ok (.invokevirtual 65, 3) := by decide +kernel
theorem dX1_tellStatement_117 : decode cX1_tellStatement 117 = .ok (.invokevirtual 75, 3) := by decide +kernel
theorem dX1_tellStatement_120 : decode cX1_tellStatement 120 = .ok (.ireturn, 1) := by decide +kernel
theorem dX1_tellStatement_121 : decode cX1_tellStatement 121 = .ok (.aload_n 1, 1) := by decide +kernel
theorem dX1_tellStatement_122 : decode cX1_tellStatement 122 = .ok (.aload_n 0, 1) := by decide +kernel
theorem dX1_tellStatement_123 : decode cX1_tellStatement 123 = .ok (.iload_n 2, 1) := by decide +kernel
theorem dX1_tellStatement_124 : decode cX1_tellStatement 124 = .ok (.iconst 1, 1) := by decide +kernel
theorem dX1_tellStatement_125 : decode cX1_tellStatement 125 = .ok (.iadd, 1) := by decide +kernel
theorem dX1_tellStatement_126 : decode cX1_tellStatement 126 = .ok (.iconst 1, 1) := by decide +kernel
theorem dX1_tellStatement_127 : decode cX1_tellStatement 127 = .ok (.invokevirtual 65, 3) := by decide +kernel
theorem dX1_tellStatement_130 : decode cX1_tellStatement 130 = .ok (.aload_n 0, 1) := by decide +kernel
theorem dX1_tellStatement_131 : decode cX1_tellStatement 131 = .ok (.iload_n 2, 1) := by decide +kernel
theorem dX1_tellStatement_132 : decode cX1_tellStatement 132 = .ok (.iconst 2, 1) := by decide +kernel
theorem dX1_tellStatement_133 : decode cX1_tellStatement 133 = .ok (.iadd, 1) := by decide +kernel
theorem dX1_tellStatement_134 : decode cX1_tellStatement 134 = .ok (.iconst 2, 1) := by decide +kernel
theorem dX1_tellStatement_135 : decode cX1_tellStatement 135 = .ok (.invokevirtual 65, 3) := by decide +kernel
theorem dX1_tellStatement_138 : decode cX1_tellStatement 138 = .ok (.aload_n 0, 1) := by decide +kernel
theorem dX1_tellStatement_139 : decode cX1_tellStatement 139 = .ok (.iload_n 2, 1) := by decide +kernel
theorem dX1_tellStatement_140 : decode cX1_tellStatement 140 = .ok (.iconst 4, 1) := by decide +kernel
theorem dX1_tellStatement_141 : decode cX1_tellStatement 141 = .ok (.iadd, 1) := by decide +kernel
theorem dX1_tellStatement_142 : decode cX1_tellStatement 142 = .ok (.iconst 2, 1) := by decide +kernel
theorem dX1_tellStatement_143 : decode cX1_tellStatement 143 = .ok (.invokevirtual 65, 3) := by decide +kernel
theorem dX1_tellStatement_146 : decode cX1_tellStatement 146 = .ok (.aload_n 0, 1) := by decide +kernel
theorem dX1_tellStatement_147 : decode cX1_tellStatement 147 = .ok (.iload_n 2, 1) := by decide +kernel
theorem dX1_tellStatement_148 : decode cX1_tellStatement 148 = .ok (.bipush 6, 2) := by decide +kernel
theorem dX1_tellStatement_150 : decode cX1_tellStatement 150 = .ok (.iadd, 1) := by decide +kernel
theorem dX1_tellStatement_151 : decode cX1_tellStatement 151 = .ok (.iconst 3, 1) := by decide +kernel
theorem dX1_tellStatement_152 : decode cX1_tellStatement 152 = .ok (.invokevirtual 65, 3) := by decide +kernel
theorem dX1_tellStatement_155 : decode cX1_tellStatement 155 = .ok (.invokevirtual 79, 3) := by decide +kernel
theorem dX1_tellStatement_158 : decode cX1_tellStatement 158 = .ok (.ireturn, 1) := by decide +kernel
theorem dX1_tellStatement_159 : decode cX1_tellStatement 159 = .ok (.aload_n 1, 1) := by decide +kernel
theorem dX1_tellStatement_160 : decode cX1_tellStatement 160 = .ok (.aload_n 0, 1) := by decide +kernel
theorem dX1_tellStatement_161 : decode cX1_tellStatement 161 = .ok (.iload_n 2, 1) := by decide +kernel
theorem dX1_tellStatement_162 : decode cX1_tellStatement 162 = .ok (.iconst 1, 1) := by decide +kernel
theorem dX1_tellStatement_163 : decode cX1_tellStatement 163 = .ok (.iadd, 1) := by decide +kernel
theorem dX1_tellStatement_164 : decode cX1_tellStatement 164 = .ok (.iconst 1, 1) := by decide +kernel
theorem dX1_tellStatement_165 : decode cX1_tellStatement 165 = .ok (.invokevirtual 65, 3) := by decide +kernel
theorem dX1_tellStatement_168 : decode cX1_tellStatement 168 = .ok (.aload_n 0, 1) := by decide +kernel
theorem dX1_tellStatement_169 : decode cX1_tellStatement 169 = .ok (.iload_n 2, 1) := by decide +kernel
theorem dX1_tellStatement_170 : decode cX1_tellStatement 170 = .ok (.iconst 2, 1) := by decide +kernel
theorem dX1_tellStatement_171 : decode cX1_tellStatement 171 = .ok (.iadd, 1) := by decide +kernel
theorem dX1_tellStatement_172 : decode cX1_tellStatement 172 = .ok (.iconst 2, 1) := by decide +kernel
theorem dX1_tellStatement_173 : decode cX1_tellStatement 173 = .ok (.invokevirtual 65, 3) := by decide +kernel
theorem dX1_tellStatement_176 : decode cX1_tellStatement 176 = .ok (.invokevirtual 82, 3) := by decide +kernel
theorem dX1_tellStatement_179 : decode cX1_tellStatement 179 = .ok (.ireturn, 1) := by decide +kernel
theorem dX1_tellStatement_180 : decode cX1_tellStatement 180 = .ok (.aload_n 1, 1) := by decide +kernel
theorem dX1_tellStatement_181 : decode cX1_tellStatement 181 = .ok (.aload_n 0, 1) := by decide +kernel
theorem dX1_tellStatement_182 : decode cX1_tellStatement 182 = .ok (.iload_n 2, 1) := by decide +kernel
theorem dX1_tellStatement_183 : decode cX1_tellStatement 183 = .ok (.iconst 1, 1) := by decide +kernel
theorem dX1_tellStatement_184 : decode cX1_tellStatement 184 = .ok (.iadd, 1) := by decide +kernel
theorem dX1_tellStatement_185 : decode cX1_tellStatement 185 = .ok (.iconst 1, 1) := by decide +kernel
theorem dX1_tellStatement_186 : decode cX1_tellStatement 186 = .ok (.invokevirtual 65, 3) := by decide +kernel
theorem dX1_tellStatement_189 : decode cX1_tellStatement 189 = .ok (.invokevirtual 86, 3) := by decide +kernel
theorem dX1_tellStatement_192 : decode cX1_tellStatement 192 = .ok (.ireturn, 1) := by decide +kernel
theorem dX1_tellStatement_193 : decode cX1_tellStatement 193 = .ok (.iconst 0, 1) := by decide +kernel
theorem dX1_tellStatement_194 : decode cX1_tellStatement 194 = .ok (.ireturn, 1) := by decide +kernel
set_option maxRecDepth 20000 in
theorem ggX1_kindAt_J0_indexOf_0f7a4 : GoodIn wsX1_kindAt wsJ0_indexOf_0f7a4 := goodIn_r _ [7, 8, 9, 10, 6, 11, 12, 13, 14, 15, 16, 17, 18, 19, 20, 21, 22, 23, 24, 25, 26, 27, 28, 29, 30, 31, 32, 33, 34, 35, 36, 37, 38, 39, 40, 41, 42, 43, 44, 45, 46, 47, 48, 49, 50, 51, 52, 53, 54, 55, 56, 57, 58, 59, 60, 61, 62, 63, 64, 65, 66, 67, 68, 69, 70, 71, 72, 73, 74, 75, 76, 77, 78, 79, 80, 81, 82, 83, 84, 85, 86, 87, 88, 89, 90, 91] (by decide +kernel) (by decide +kernel)
set_option maxRecDepth 20000 in
theorem gX1_kindAt_J0_indexOf_0f7a4 : GoodIn wsX1_kindAt (wsV RX1 33 RJ0 yJ0_indexOf_0f7a4 wsJ0_indexOf_0f7a4) := goodIn_app (goodIn_of _ (by decide +kernel)) ggX1_kindAt_J0_indexOf_0f7a4
theorem dX1_kindAt_0 : decode cX1_kindAt 0 = .ok (.iload_n 1, 1) := by decide +kernel
theorem dX1_kindAt_1 : decode cX1_kindAt 1 = .ok (.aload_n 0, 1) := by decide +kernel
theorem dX1_kindAt_2 : decode cX1_kindAt 2 = .ok (.getfield 15, 3) := by decide +kernel
theorem dX1_kindAt_5 : decode cX1_kindAt 5 = .ok (.if_icmp .ge 18, 3) := by decide +kernel
theorem dX1_kindAt_8 : decode cX1_kindAt 8 = .ok (.ldc 31, 2) := by decide +kernel
theorem dX1_kindAt_10 : decode cX1_kindAt 10 = .ok (.aload_n 0, 1) := by decide +kernel
theorem dX1_kindAt_11 : decode cX1_kindAt 11 = .ok (.getfield 9, 3) := by decide +kernel
theorem dX1_kindAt_14 : decode cX1_kindAt 14 = .ok (.iload_n 1, 1) := by decide +kernel
theorem dX1_kindAt_15 : decode cX1_kindAt 15 = .ok (.iaload, 1) := by decide +kernel
theorem dX1_kindAt_16 : decode cX1_kindAt 16 = .ok (.i2c, 1) := by decide +kernel
theorem dX1_kindAt_17 : decode cX1_kindAt 17 = .ok (.invokevirtual 33, 3) := by decide +kernel
theorem dX1_kindAt_20 : decode cX1_kindAt 20 = .ok (.goto 4, 3) := by decide +kernel
theorem dX1_kindAt_23 : decode cX1_kindAt 23 = .ok (.iconst 0, 1) := by decide +kernel
theorem dX1_kindAt_24 : decode cX1_kindAt 24 = .ok (.ireturn, 1) := by decide +kernel
theorem dX1_number_0 : decode cX1_number 0 = .ok (.iconst 0, 1) := by decide +kernel
theorem dX1_number_1 : decode cX1_number 1 = .ok (.istore_n 3, 1) := by decide +kernel
theorem dX1_number_2 : decode cX1_number 2 = .ok (.iload_n 1, 1) := by decide +kernel
theorem dX1_number_3 : decode cX1_number 3 = .ok (.istore 4, 2) := by decide +kernel
theorem dX1_number_5 : decode cX1_number 5 = .ok (.iload 4, 2) := by decide +kernel
theorem dX1_number_7 : decode cX1_number 7 = .ok (.iload_n 1, 1) := by decide +kernel
theorem dX1_number_8 : decode cX1_number 8 = .ok (.iload_n 2, 1) := by decide +kernel
theorem dX1_number_9 : decode cX1_number 9 = .ok (.iadd, 1) := by decide +kernel
theorem dX1_number_10 : decode cX1_number 10 = .ok (.if_icmp .ge 34, 3) := by decide +kernel
theorem dX1_number_13 : decode cX1_number 13 = .ok (.iload 4, 2) := by decide +kernel
theorem dX1_number_15 : decode cX1_number 15 = .ok (.aload_n 0, 1) := by decide +kernel
theorem dX1_number_16 : decode cX1_number 16 = .ok (.getfield 15, 3) := by decide +kernel
theorem dX1_number_19 : decode cX1_number 19 = .ok (.if_icmp .ge 25, 3) := by decide +kernel
theorem dX1_number_22 : decode cX1_number 22 = .ok (.bipush 10, 2) := by decide +kernel
theorem dX1_number_24 : decode cX1_number 24 = .ok (.iload_n 3, 1) := by decide +kernel
theorem dX1_number_25 : decode cX1_number 25 = .ok (.imul, 1) := by decide +kernel
theorem dX1_number_26 : decode cX1_number 26 = .ok (.aload_n 0, 1) := by decide +kernel
theorem dX1_number_27 : decode cX1_number 27 = .ok (.getfield 9, 3) := by decide +kernel
theorem dX1_number_30 : decode cX1_number 30 = .ok (.iload 4, 2) := by decide +kernel
theorem dX1_number_32 : decode cX1_number 32 = .ok (.iaload, 1) := by decide +kernel
theorem dX1_number_33 : decode cX1_number 33 = .ok (.iadd, 1) := by decide +kernel
theorem dX1_number_34 : decode cX1_number 34 = .ok (.bipush 48, 2) := by decide +kernel
theorem dX1_number_36 : decode cX1_number 36 = .ok (.isub, 1) := by decide +kernel
theorem dX1_number_37 : decode cX1_number 37 = .ok (.istore_n 3, 1) := by decide +kernel
theorem dX1_number_38 : decode cX1_number 38 = .ok (.iinc 4 1, 3) := by decide +kernel
theorem dX1_number_41 : decode cX1_number 41 = .ok (.goto (-36), 3) := by decide +kernel
theorem dX1_number_44 : decode cX1_number 44 = .ok (.iload_n 3, 1) := by decide +kernel
theorem dX1_number_45 : decode cX1_number 45 = .ok (.ireturn, 1) := by decide +kernel
theorem dX2_init_0 : decode cX2_init 0 = .ok (.aload_n 0, 1) := by decide +kernel
theorem dX2_init_1 : decode cX2_init 1 = .ok (.invokespecial 3, 3) := by decide +kernel
theorem dX2_init_4 : decode cX2_init 4 = .ok (.aload_n 0, 1) := by decide +kernel
theorem dX2_init_5 : decode cX2_init 5 = .ok (.bipush 8, 2) := by decide +kernel
theorem dX2_init_7 : decode cX2_init 7 = .ok (.newarray .int, 2) := by decide +kernel
theorem dX2_init_9 : decode cX2_init 9 = .ok (.putfield 9, 3) := by decide +kernel
theorem dX2_init_12 : decode cX2_init 12 = .ok (.aload_n 0, 1) := by decide +kernel
theorem dX2_init_13 : decode cX2_init 13 = .ok (.bipush 8, 2) := by decide +kernel
theorem dX2_init_15 : decode cX2_init 15 = .ok (.newarray .int, 2) := by decide +kernel
theorem dX2_init_17 : decode cX2_init 17 = .ok (.putfield 15, 3) := by decide +kernel
theorem dX2_init_20 : decode cX2_init 20 = .ok (.aload_n 0, 1) := by decide +kernel
theorem dX2_init_21 : decode cX2_init 21 = .ok (.bipush 8, 2) := by decide +kernel
theorem dX2_init_23 : decode cX2_init 23 = .ok (.newarray .int, 2) := by decide +kernel
theorem dX2_init_25 : decode cX2_init 25 = .ok (.putfield 18, 3) := by decide +kernel
theorem dX2_init_28 : decode cX2_init 28 = .ok (.aload_n 0, 1) := by decide +kernel
theorem dX2_init_29 : decode cX2_init 29 = .ok (.bipush 14, 2) := by decide +kernel
theorem dX2_init_31 : decode cX2_init 31 = .ok (.newarray .int, 2) := by decide +kernel
theorem dX2_init_33 : decode cX2_init 33 = .ok (.putfield 21, 3) := by decide +kernel
theorem dX2_init_36 : decode cX2_init 36 = .ok (.aload_n 0, 1) := by decide +kernel
theorem dX2_init_37 : decode cX2_init 37 = .ok (.bipush 14, 2) := by decide +kernel
theorem dX2_init_39 : decode cX2_init 39 = .ok (.newarray .int, 2) := by decide +kernel
theorem dX2_init_41 : decode cX2_init 41 = .ok (.putfield 24, 3) := by decide +kernel
theorem dX2_init_44 : decode cX2_init 44 = .ok (.aload_n 0, 1) := by decide +kernel
theorem dX2_init_45 : decode cX2_init 45 = .ok (.bipush 14, 2) := by decide +kernel
theorem dX2_init_47 : decode cX2_init 47 = .ok (.newarray .int, 2) := by decide +kernel
theorem dX2_init_49 : decode cX2_init 49 = .ok (.putfield 27, 3) := by decide +kernel
theorem dX2_init_52 : decode cX2_init 52 = .ok (.aload_n 0, 1) := by decide +kernel
theorem dX2_init_53 : decode cX2_init 53 = .ok (.bipush 14, 2) := by decide +kernel
theorem dX2_init_55 : decode cX2_init 55 = .ok (.newarray .int, 2) := by decide +kernel
theorem dX2_init_57 : decode cX2_init 57 = .ok (.putfield 30, 3) := by decide +kernel
theorem dX2_init_60 : decode cX2_init 60 = .ok (.aload_n 0, 1) := by decide +kernel
theorem dX2_init_61 : decode cX2_init 61 = .ok (.iconst 5, 1) := by decide +kernel
theorem dX2_init_62 : decode cX2_init 62 = .ok (.newarray .int, 2) := by decide +kernel
theorem dX2_init_64 : decode cX2_init 64 = .ok (.putfield 33, 3) := by decide +kernel
theorem dX2_init_67 : decode cX2_init 67 = .ok (.aload_n 0, 1) := by decide +kernel
theorem dX2_init_68 : decode cX2_init 68 = .ok (.iconst 5, 1) := by decide +kernel
theorem dX2_init_69 : decode cX2_init 69 = .ok (.newarray .int, 2) := by decide +kernel
theorem dX2_init_71 : decode cX2_init 71 = .ok (.putfield 36, 3) := by decide +kernel
theorem dX2_init_74 : decode cX2_init 74 = .ok (.aload_n 0, 1) := by decide +kernel
theorem dX2_init_75 : decode cX2_init 75 = .ok (.iconst 5, 1) := by decide +kernel
theorem dX2_init_76 : decode cX2_init 76 = .ok (.newarray .int, 2) := by decide +kernel
theorem dX2_init_78 : decode cX2_init 78 = .ok (.putfield 39, 3) := by decide +kernel
theorem dX2_init_81 : decode cX2_init 81 = .ok (.aload_n 0, 1) := by decide +kernel
theorem dX2_init_82 : decode cX2_init 82 = .ok (.iconst 5, 1) := by decide +kernel
theorem dX2_init_83 : decode cX2_init 83 = .ok (.newarray .int, 2) := by decide +kernel
theorem dX2_init_85 : decode cX2_init 85 = .ok (.putfield 42, 3) := by decide +kernel
theorem dX2_init_88 : decode cX2_init 88 = .ok (.aload_n 0, 1) := by decide +kernel
theorem dX2_init_89 : decode cX2_init 89 = .ok (.iconst 0, 1) := by decide +kernel
theorem dX2_init_90 : decode cX2_init 90 = .ok (.putfield 45, 3) := by decide +kernel
theorem dX2_init_93 : decode cX2_init 93 = .ok (.aload_n 0, 1) := by decide +kernel
theorem dX2_init_94 : decode cX2_init 94 = .ok (.iconst 0, 1) := by decide +kernel
theorem dX2_init_95 : decode cX2_init 95 = .ok (.putfield 49, 3) := by decide +kernel
theorem dX2_init_98 : decode cX2_init 98 = .ok (.aload_n 0, 1) := by decide +kernel
theorem dX2_init_99 : decode cX2_init 99 = .ok (.iconst 0, 1) := by decide +kernel
theorem dX2_init_100 : decode cX2_init 100 = .ok (.putfield 52, 3) := by decide +kernel
theorem dX2_init_103 : decode cX2_init 103 = .ok (.aload_n 0, 1) := by decide +kernel
theorem dX2_init_104 : decode cX2_init 104 = .ok (.iconst 1, 1) := by decide +kernel
theorem dX2_init_105 : decode cX2_init 105 = .ok (.putfield 55, 3) := by decide +kernel
theorem dX2_init_108 : decode cX2_init 108 = .ok (.aload_n 0, 1) := by decide +kernel
theorem dX2_init_109 : decode cX2_init 109 = .ok (.bipush 10, 2) := by decide +kernel
theorem dX2_init_111 : decode cX2_init 111 = .ok (.putfield 58, 3) := by decide +kernel
theorem dX2_init_114 : decode cX2_init 114 = .ok (.aload_n 0, 1) := by decide +kernel
theorem dX2_init_115 : decode cX2_init 115 = .ok (.iconst 0, 1) := by decide +kernel
theorem dX2_init_116 : decode cX2_init 116 = .ok (.putfield 61, 3) := by decide +kernel
theorem dX2_init_119 : decode cX2_init 119 = .ok (.return_, 1) := by decide +kernel
theorem dX2_becomeLike_0 : decode cX2_becomeLike 0 = .ok (.aload_n 1, 1) := by decide +kernel
theorem dX2_becomeLike_1 : decode cX2_becomeLike 1 = .ok (.getfield 9, 3) := by decide +kernel
theorem dX2_becomeLike_4 : decode cX2_becomeLike 4 = .ok (.iconst 0, 1) := by decide +kernel
theorem dX2_becomeLike_5 : decode cX2_becomeLike 5 = .ok (.aload_n 0, 1) := by decide +kernel
theorem dX2_becomeLike_6 : decode cX2_becomeLike 6 = .ok (.getfield 9, 3) := by decide +kernel
theorem dX2_becomeLike_9 : decode cX2_becomeLike 9 = .ok (.iconst 0, 1) := by decide +kernel
theorem dX2_becomeLike_10 : decode cX2_becomeLike 10 = .ok (.bipush 8, 2) := by decide +kernel
theorem dX2_becomeLike_12 : decode cX2_becomeLike 12 = .ok (.invokestatic 64, 3) := by decide +kernel
theorem dX2_becomeLike_15 : decode cX2_becomeLike 15 = .ok (.aload_n 1, 1) := by decide +kernel
theorem dX2_becomeLike_16 : decode cX2_becomeLike 16 = .ok (.getfield 15, 3) := by decide +kernel
theorem dX2_becomeLike_19 : decode cX2_becomeLike 19 = .ok (.iconst 0, 1) := by decide +kernel
theorem dX2_becomeLike_20 : decode cX2_becomeLike 20 = .ok (.aload_n 0, 1) := by decide +kernel
theorem dX2_becomeLike_21 : decode cX2_becomeLike 21 = .ok (.getfield 15, 3) := by decide +kernel
theorem dX2_becomeLike_24 : decode cX2_becomeLike 24 = .ok (.iconst 0, 1) := by decide +kernel
theorem dX2_becomeLike_25 : decode cX2_becomeLike 25 = .ok (.bipush 8, 2) := by decide +kernel
theorem dX2_becomeLike_27 : decode cX2_becomeLike 27 = .ok (.invokestatic 64, 3) := by decide +kernel
theorem dX2_becomeLike_30 : decode cX2_becomeLike 30 = .ok (.aload_n 1, 1) := by decide +kernel
theorem dX2_becomeLike_31 : decode cX2_becomeLike 31 = .ok (.getfield 18, 3) := by decide +kernel
theorem dX2_becomeLike_34 : decode cX2_becomeLike 34 = .ok (.iconst 0, 1) := by decide +kernel
theorem dX2_becomeLike_35 : decode cX2_becomeLike 35 = .ok (.aload_n 0, 1) := by decide +kernel
theorem dX2_becomeLike_36 : decode cX2_becomeLike 36 = .ok (.getfield 18, 3) := by decide +kernel
theorem dX2_becomeLike_39 : decode cX2_becomeLike 39 = .ok (.iconst 0, 1) := by decide +kernel
theorem dX2_becomeLike_40 : decode cX2_becomeLike 40 = .ok (.bipush 8, 2) := by decide +kernel
theorem dX2_becomeLike_42 : decode cX2_becomeLike 42 = .ok (.invokestatic 64, 3) := by decide +kernel
theorem dX2_becomeLike_45 : decode cX2_becomeLike 45 = .ok (.aload_n 1, 1) := by decide +kernel
theorem dX2_becomeLike_46 : decode cX2_becomeLike 46 = .ok (.getfield 21, 3) := by decide +kernel
theorem dX2_becomeLike_49 : decode cX2_becomeLike 49 = .ok (.iconst 0, 1) := by decide +kernel
theorem dX2_becomeLike_50 : decode cX2_becomeLike 50 = .ok (.aload_n 0, 1) := by decide +kernel
theorem dX2_becomeLike_51 : decode cX2_becomeLike 51 = .ok (.getfield 21, 3) := by decide +kernel
theorem dX2_becomeLike_54 : decode cX2_becomeLike 54 = .ok (.iconst 0, 1) := by decide +kernel
theorem dX2_becomeLike_55 : decode cX2_becomeLike 55 = .ok (.bipush 14, 2) := by decide +kernel
theorem dX2_becomeLike_57 : decode cX2_becomeLike 57 = .ok (.invokestatic 64, 3) := by decide +kernel
theorem dX2_becomeLike_60 : decode cX2_becomeLike 60 = .ok (.aload_n 1, 1) := by decide +kernel
theorem dX2_becomeLike_61 : decode cX2_becomeLike 61 = .ok (.getfield 24, 3) := by decide +kernel
theorem dX2_becomeLike_64 : decode cX2_becomeLike 64 = .ok (.iconst 0, 1) := by decide +kernel
theorem dX2_becomeLike_65 : decode cX2_becomeLike 65 = .ok (.aload_n 0, 1) := by decide +kernel
theorem dX2_becomeLike_66 : decode cX2_becomeLike 66 = .ok (.getfield 24, 3) := by decide +kernel
theorem dX2_becomeLike_69 : decode cX2_becomeLike 69 = .ok (.iconst 0, 1) := by decide +kernel
theorem dX2_becomeLike_70 : decode cX2_becomeLike 70 = .ok (.bipush 14, 2) := by decide +kernel
theorem dX2_becomeLike_72 : decode cX2_becomeLike 72 = .ok (.invokestatic 64, 3) := by decide +kernel
theorem dX2_becomeLike_75 : decode cX2_becomeLike 75 = .ok (.aload_n 1, 1) := by decide +kernel
theorem dX2_becomeLike_76 : decode cX2_becomeLike 76 = .ok (.getfield 27, 3) := by decide +kernel
theorem dX2_becomeLike_79 : decode cX2_becomeLike 79 = .ok (.iconst 0, 1) := by decide +kernel
theorem dX2_becomeLike_80 : decode cX2_becomeLike 80 = .ok (.aload_n 0, 1) := by decide +kernel
theorem dX2_becomeLike_81 : decode cX2_becomeLike 81 = .ok (.getfield 27, 3) := by decide +kernel
theorem dX2_becomeLike_84 : decode cX2_becomeLike 84 = .ok (.iconst 0, 1) := by decide +kernel
theorem dX2_becomeLike_85 : decode cX2_becomeLike 85 = .ok (.bipush 14, 2) := by decide +kernel
theorem dX2_becomeLike_87 : decode cX2_becomeLike 87 = .ok (.invokestatic 64, 3) := by decide +kernel
theorem dX2_becomeLike_90 : decode cX2_becomeLike 90 = .ok (.aload_n 1, 1) := by decide +kernel
theorem dX2_becomeLike_91 : decode cX2_becomeLike 91 = .ok (.getfield 30, 3) := by decide +kernel
theorem dX2_becomeLike_94 : decode cX2_becomeLike 94 = .ok (.iconst 0, 1) := by decide +kernel
theorem dX2_becomeLike_95 : decode cX2_becomeLike 95 = .ok (.aload_n 0, 1) := by decide +kernel
theorem dX2_becomeLike_96 : decode cX2_becomeLike 96 = .ok (.getfield 30, 3) := by decide +kernel
theorem dX2_becomeLike_99 : decode cX2_becomeLike 99 = .ok (.iconst 0, 1) := by decide +kernel
theorem dX2_becomeLike_100 : decode cX2_becomeLike 100 = .ok (.bipush 14, 2) := by decide +kernel
theorem dX2_becomeLike_102 : decode cX2_becomeLike 102 = .ok (.invokestatic 64, 3) := by decide +kernel
theorem dX2_becomeLike_105 : decode cX2_becomeLike 105 = .ok (.aload_n 1, 1) := by decide +kernel
theorem dX2_becomeLike_106 : decode cX2_becomeLike 106 = .ok (.getfield 33, 3) := by decide +kernel
theorem dX2_becomeLike_109 : decode cX2_becomeLike 109 = .ok (.iconst 0, 1) := by decide +kernel
theorem dX2_becomeLike_110 : decode cX2_becomeLike 110 = .ok (.aload_n 0, 1) := by decide +kernel
theorem dX2_becomeLike_111 : decode cX2_becomeLike 111 = .ok (.getfield 33, 3) := by decide +kernel
theorem dX2_becomeLike_114 : decode cX2_becomeLike 114 = .ok (.iconst 0, 1) := by decide +kernel
theorem dX2_becomeLike_115 : decode cX2_becomeLike 115 = .ok (.iconst 5, 1) := by decide +kernel
theorem dX2_becomeLike_116 : decode cX2_becomeLike 116 = .ok (.invokestatic 64, 3) := by decide +kernel
theorem dX2_becomeLike_119 : decode cX2_becomeLike 119 = .ok (.aload_n 1, 1) := by decide +kernel
theorem dX2_becomeLike_120 : decode cX2_becomeLike 120 = .ok (.getfield 36, 3) := by decide +kernel
theorem dX2_becomeLike_123 : decode cX2_becomeLike 123 = .ok (.iconst 0, 1) := by decide +kernel
theorem dX2_becomeLike_124 : decode cX2_becomeLike 124 = .ok (.aload_n 0, 1) := by decide +kernel
theorem dX2_becomeLike_125 : decode cX2_becomeLike 125 = .ok (.getfield 36, 3) := by decide +kernel
theorem dX2_becomeLike_128 : decode cX2_becomeLike 128 = .ok (.iconst 0, 1) := by decide +kernel
theorem dX2_becomeLike_129 : decode cX2_becomeLike 129 = .ok (.iconst 5, 1) := by decide +kernel
theorem dX2_becomeLike_130 : decode cX2_becomeLike 130 = .ok (.invokestatic 64, 3) := by decide +kernel
theorem dX2_becomeLike_133 : decode cX2_becomeLike 133 = .ok (.aload_n 1, 1) := by decide +kernel
theorem dX2_becomeLike_134 : decode cX2_becomeLike 134 = .ok (.getfield 39, 3) := by decide +kernel
theorem dX2_becomeLike_137 : decode cX2_becomeLike 137 = .ok (.iconst 0, 1) := by decide +kernel
theorem dX2_becomeLike_138 : decode cX2_becomeLike 138 = .ok (.aload_n 0, 1) := by decide +kernel
theorem dX2_becomeLike_139 : decode cX2_becomeLike 139 = .ok (.getfield 39, 3) := by decide +kernel
theorem dX2_becomeLike_142 : decode cX2_becomeLike 142 = .ok (.iconst 0, 1) := by decide +kernel
theorem dX2_becomeLike_143 : decode cX2_becomeLike 143 = .ok (.iconst 5, 1) := by decide +kernel
theorem dX2_becomeLike_144 : decode cX2_becomeLike 144 = .ok (.invokestatic 64, 3) := by decide +kernel
theorem dX2_becomeLike_147 : decode cX2_becomeLike 147 = .ok (.aload_n 1, 1) := by decide +kernel
theorem dX2_becomeLike_148 : decode cX2_becomeLike 148 = .ok (.getfield 42, 3) := by decide +kernel
theorem dX2_becomeLike_151 : decode cX2_becomeLike 151 = .ok (.iconst 0, 1) := by decide +kernel
theorem dX2_becomeLike_152 : decode cX2_becomeLike 152 = .ok (.aload_n 0, 1) := by decide +kernel
theorem dX2_becomeLike_153 : decode cX2_becomeLike 153 = .ok (.getfield 42, 3) := by decide +kernel
theorem dX2_becomeLike_156 : decode cX2_becomeLike 156 = .ok (.iconst 0, 1) := by decide +kernel
theorem dX2_becomeLike_157 : decode cX2_becomeLike 157 = .ok (.iconst 5, 1) := by decide +kernel
theorem dX2_becomeLike_158 : decode cX2_becomeLike 158 = .ok (.invokestatic 64, 3) := by decide +kernel
theorem dX2_becomeLike_161 : decode cX2_becomeLike 161 = .ok (.aload_n 0, 1) := by decide +kernel
theorem dX2_becomeLike_162 : decode cX2_becomeLike 162 = .ok (.aload_n 1, 1) := by decide +kernel
theorem dX2_becomeLike_163 : decode cX2_becomeLike 163 = .ok (.getfield 45, 3) := by decide +kernel
theorem dX2_becomeLike_166 : decode cX2_becomeLike 166 = .ok (.putfield 45, 3) := by decide +kernel
theorem dX2_becomeLike_169 : decode cX2_becomeLike 169 = .ok (.aload_n 0, 1) := by decide +kernel
theorem dX2_becomeLike_170 : decode cX2_becomeLike 170 = .ok (.aload_n 1, 1) := by decide +kernel
theorem dX2_becomeLike_171 : decode cX2_becomeLike 171 = .ok (.getfield 49, 3) := by decide +kernel
theorem dX2_becomeLike_174 : decode cX2_becomeLike 174 = .ok (.putfield 49, 3) := by decide +kernel
theorem dX2_becomeLike_177 : decode cX2_becomeLike 177 = .ok (.aload_n 0, 1) := by decide +kernel
theorem dX2_becomeLike_178 : decode cX2_becomeLike 178 = .ok (.aload_n 1, 1) := by decide +kernel
theorem dX2_becomeLike_179 : decode cX2_becomeLike 179 = .ok (.getfield 52, 3) := by decide +kernel
theorem dX2_becomeLike_182 : decode cX2_becomeLike 182 = .ok (.putfield 52, 3) := by decide +kernel
theorem dX2_becomeLike_185 : decode cX2_becomeLike 185 = .ok (.aload_n 0, 1) := by decide +kernel
theorem dX2_becomeLike_186 : decode cX2_becomeLike 186 = .ok (.aload_n 1, 1) := by decide +kernel
theorem dX2_becomeLike_187 : decode cX2_becomeLike 187 = .ok (.getfield 55, 3) := by decide +kernel
theorem dX2_becomeLike_190 : decode cX2_becomeLike 190 = .ok (.putfield 55, 3) := by decide +kernel
theorem dX2_becomeLike_193 : decode cX2_becomeLike 193 = .ok (.aload_n 0, 1) := by decide +kernel
theorem dX2_becomeLike_194 : decode cX2_becomeLike 194 = .ok (.aload_n 1, 1) := by decide +kernel
theorem dX2_becomeLike_195 : decode cX2_becomeLike 195 = .ok (.getfield 58, 3) := by decide +kernel
theorem dX2_becomeLike_198 : decode cX2_becomeLike 198 = .ok (.putfield 58, 3) := by decide +kernel
theorem dX2_becomeLike_201 : decode cX2_becomeLike 201 = .ok (.aload_n 0, 1) := by decide +kernel
theorem dX2_becomeLike_202 : decode cX2_becomeLike 202 = .ok (.aload_n 1, 1) := by decide +kernel
theorem dX2_becomeLike_203 : decode cX2_becomeLike 203 = .ok (.getfield 61, 3) := by decide +kernel
theorem dX2_becomeLike_206 : decode cX2_becomeLike 206 = .ok (.putfield 61, 3) := by decide +kernel
theorem dX2_becomeLike_209 : decode cX2_becomeLike 209 = .ok (.return_, 1) := by decide +kernel
theorem dX2_addPlace_0 : decode cX2_addPlace 0 = .ok (.aload_n 0, 1) := by decide +kernel
theorem dX2_addPlace_1 : decode cX2_addPlace 1 = .ok (.getfield 45, 3) := by decide +kernel
theorem dX2_addPlace_4 : decode cX2_addPlace 4 = .ok (.bipush 8, 2) := by decide +kernel
theorem dX2_addPlace_6 : decode cX2_addPlace 6 = .ok (.if_icmp .ge 8, 3) := by decide +kernel
theorem dX2_addPlace_9 : decode cX2_addPlace 9 = .ok (.iload_n 3, 1) := by decide +kernel
theorem dX2_addPlace_10 : decode cX2_addPlace 10 = .ok (.iconst 3, 1) := by decide +kernel
theorem dX2_addPlace_11 : decode cX2_addPlace 11 = .ok (.if_icmp .le 5, 3) := by decide +kernel
theorem dX2_addPlace_14 : decode cX2_addPlace 14 = .ok (.iconst 0, 1) := by decide +kernel
theorem dX2_addPlace_15 : decode cX2_addPlace 15 = .ok (.ireturn, 1) := by decide +kernel
theorem dX2_addPlace_16 : decode cX2_addPlace 16 = .ok (.aload_n 0, 1) := by decide +kernel
theorem dX2_addPlace_17 : decode cX2_addPlace 17 = .ok (.getfield 9, 3) := by decide +kernel
theorem dX2_addPlace_20 : decode cX2_addPlace 20 = .ok (.aload_n 0, 1) := by decide +kernel
theorem dX2_addPlace_21 : decode cX2_addPlace 21 = .ok (.getfield 45, 3) := by decide +kernel
theorem dX2_addPlace_24 : decode cX2_addPlace 24 = .ok (.iload_n 1, 1) := by decide +kernel
theorem dX2_addPlace_25 : decode cX2_addPlace 25 = .ok (.iastore, 1) := by decide +kernel
theorem dX2_addPlace_26 : decode cX2_addPlace 26 = .ok (.aload_n 0, 1) := by decide +kernel
theorem dX2_addPlace_27 : decode cX2_addPlace 27 = .ok (.getfield 15, 3) := by decide +kernel
theorem dX2_addPlace_30 : decode cX2_addPlace 30 = .ok (.aload_n 0, 1) := by decide +kernel
theorem dX2_addPlace_31 : decode cX2_addPlace 31 = .ok (.getfield 45, 3) := by decide +kernel
theorem dX2_addPlace_34 : decode cX2_addPlace 34 = .ok (.iload_n 2, 1) := by decide +kernel
theorem dX2_addPlace_35 : decode cX2_addPlace 35 = .ok (.iastore, 1) := by decide +kernel
theorem dX2_addPlace_36 : decode cX2_addPlace 36 = .ok (.aload_n 0, 1) := by decide +kernel
theorem dX2_addPlace_37 : decode cX2_addPlace 37 = .ok (.getfield 18, 3) := by decide +kernel
theorem dX2_addPlace_40 : decode cX2_addPlace 40 = .ok (.aload_n 0, 1) := by decide +kernel
theorem dX2_addPlace_41 : decode cX2_addPlace 41 = .ok (.getfield 45, 3) := by decide +kernel
theorem dX2_addPlace_44 : decode cX2_addPlace 44 = .ok (.iload_n 3, 1) := by decide +kernel
theorem dX2_addPlace_45 : decode cX2_addPlace 45 = .ok (.iastore, 1) := by decide +kernel
theorem dX2_addPlace_46 : decode cX2_addPlace 46 = .ok (.aload_n 0, 1) := by decide +kernel
theorem dX2_addPlace_47 : decode cX2_addPlace 47 = .ok (.dup, 1) := by decide +kernel
theorem dX2_addPlace_48 : decode cX2_addPlace 48 = .ok (.getfield 45, 3) := by decide +kernel
theorem dX2_addPlace_51 : decode cX2_addPlace 51 = .ok (.iconst 1, 1) := by decide +kernel
theorem dX2_addPlace_52 : decode cX2_addPlace 52 = .ok (.iadd, 1) := by decide +kernel
theorem dX2_addPlace_53 : decode cX2_addPlace 53 = .ok (.putfield 45, 3) := by decide +kernel
theorem dX2_addPlace_56 : decode cX2_addPlace 56 = .ok (.iconst 1, 1) := by decide +kernel
theorem dX2_addPlace_57 : decode cX2_addPlace 57 = .ok (.ireturn, 1) := by decide +kernel
set_option maxRecDepth 20000 in
theorem ggX2_addWay_X2_hasWay : GoodIn wsX2_addWay wsX2_hasWay := goodIn_r _ [11, 1, 3, 4, 12, 13, 14, 15, 16, 17, 18, 19, 20, 21, 22, 23, 24, 25, 26, 27, 28] (by decide +kernel) (by decide +kernel)
set_option maxRecDepth 20000 in
theorem gX2_addWay_X2_hasWay : GoodIn wsX2_addWay (wsV RX2 70 RX2 yX2_hasWay wsX2_hasWay) := goodIn_app (goodIn_of _ (by decide +kernel)) ggX2_addWay_X2_hasWay
theorem dX2_addWay_0 : decode cX2_addWay 0 = .ok (.aload_n 0, 1) := by decide +kernel
theorem dX2_addWay_1 : decode cX2_addWay 1 = .ok (.getfield 49, 3) := by decide +kernel
theorem dX2_addWay_4 : decode cX2_addWay 4 = .ok (.bipush 14, 2) := by decide +kernel
theorem dX2_addWay_6 : decode cX2_addWay 6 = .ok (.if_icmp .ge 33, 3) := by decide +kernel
theorem dX2_addWay_9 : decode cX2_addWay 9 = .ok (.iload_n 1, 1) := by decide +kernel
theorem dX2_addWay_10 : decode cX2_addWay 10 = .ok (.aload_n 0, 1) := by decide +kernel
theorem dX2_addWay_11 : decode cX2_addWay 11 = .ok (.getfield 45, 3) := by decide +kernel
theorem dX2_addWay_14 : decode cX2_addWay 14 = .ok (.if_icmp .ge 25, 3) := by decide +kernel
theorem dX2_addWay_17 : decode cX2_addWay 17 = .ok (.iload_n 2, 1) := by decide +kernel
theorem dX2_addWay_18 : decode cX2_addWay 18 = .ok (.aload_n 0, 1) := by decide +kernel
theorem dX2_addWay_19 : decode cX2_addWay 19 = .ok (.getfield 45, 3) := by decide +kernel
theorem dX2_addWay_22 : decode cX2_addWay 22 = .ok (.if_icmp .ge 17, 3) := by decide +kernel
theorem dX2_addWay_25 : decode cX2_addWay 25 = .ok (.iload_n 1, 1) := by decide +kernel
theorem dX2_addWay_26 : decode cX2_addWay 26 = .ok (.iload_n 2, 1) := by decide +kernel
theorem dX2_addWay_27 : decode cX2_addWay 27 = .ok (.if_icmp .eq 12, 3) := by decide +kernel
theorem dX2_addWay_30 : decode cX2_addWay 30 = .ok (.aload_n 0, 1) := by decide +kernel
theorem dX2_addWay_31 : decode cX2_addWay 31 = .ok (.iload_n 1, 1) := by decide +kernel
theorem dX2_addWay_32 : decode cX2_addWay 32 = .ok (.iload_n 2, 1) := by decide +kernel
theorem dX2_addWay_33 : decode cX2_addWay 33 = .ok (.invokevirtual 70, 3) := by decide +kernel
theorem dX2_addWay_36 : decode cX2_addWay 36 = .ok (.ifCond .eq 5, 3) := by decide +kernel
theorem dX2_addWay_39 : decode cX2_addWay 39 = .ok (.iconst 0, 1) := by decide +kernel
theorem dX2_addWay_40 : decode cX2_addWay 40 = .ok (.ireturn, 1) := by decide +kernel
theorem dX2_addWay_41 : decode cX2_addWay 41 = .ok (.iload_n 3, 1) := by decide +kernel
theorem dX2_addWay_42 : decode cX2_addWay 42 = .ok (.iconst 1, 1) := by decide +kernel
theorem dX2_addWay_43 : decode cX2_addWay 43 = .ok (.if_icmp .lt 9, 3) := by decide +kernel
theorem dX2_addWay_46 : decode cX2_addWay 46 = .ok (.iload_n 3, 1) := by decide +kernel
theorem dX2_addWay_47 : decode cX2_addWay 47 = .ok (.bipush 60, 2) := by decide +kernel
theorem dX2_addWay_49 : decode cX2_addWay 49 = .ok (.if_icmp .le 5, 3) := by decide +kernel
theorem dX2_addWay_52 : decode cX2_addWay 52 = .ok (.iconst 0, 1) := by decide +kernel
theorem dX2_addWay_53 : decode cX2_addWay 53 = .ok (.ireturn, 1) := by decide +kernel
theorem dX2_addWay_54 : decode cX2_addWay 54 = .ok (.aload_n 0, 1) := by decide +kernel
theorem dX2_addWay_55 : decode cX2_addWay 55 = .ok (.getfield 21, 3) := by decide +kernel
theorem dX2_addWay_58 : decode cX2_addWay 58 = .ok (.aload_n 0, 1) := by decide +kernel
theorem dX2_addWay_59 : decode cX2_addWay 59 = .ok (.getfield 49, 3) := by decide +kernel
theorem dX2_addWay_62 : decode cX2_addWay 62 = .ok (.iload_n 1, 1) := by decide +kernel
theorem dX2_addWay_63 : decode cX2_addWay 63 = .ok (.iastore, 1) := by decide +kernel
theorem dX2_addWay_64 : decode cX2_addWay 64 = .ok (.aload_n 0, 1) := by decide +kernel
theorem dX2_addWay_65 : decode cX2_addWay 65 = .ok (.getfield 24, 3) := by decide +kernel
theorem dX2_addWay_68 : decode cX2_addWay 68 = .ok (.aload_n 0, 1) := by decide +kernel
theorem dX2_addWay_69 : decode cX2_addWay 69 = .ok (.getfield 49, 3) := by decide +kernel
theorem dX2_addWay_72 : decode cX2_addWay 72 = .ok (.iload_n 2, 1) := by decide +kernel
theorem dX2_addWay_73 : decode cX2_addWay 73 = .ok (.iastore, 1) := by decide +kernel
theorem dX2_addWay_74 : decode cX2_addWay 74 = .ok (.aload_n 0, 1) := by decide +kernel
theorem dX2_addWay_75 : decode cX2_addWay 75 = .ok (.getfield 27, 3) := by decide +kernel
theorem dX2_addWay_78 : decode cX2_addWay 78 = .ok (.aload_n 0, 1) := by decide +kernel
theorem dX2_addWay_79 : decode cX2_addWay 79 = .ok (.getfield 49, 3) := by decide +kernel
theorem dX2_addWay_82 : decode cX2_addWay 82 = .ok (.iload_n 3, 1) := by decide +kernel
theorem dX2_addWay_83 : decode cX2_addWay 83 = .ok (.iastore, 1) := by decide +kernel
theorem dX2_addWay_84 : decode cX2_addWay 84 = .ok (.aload_n 0, 1) := by decide +kernel
theorem dX2_addWay_85 : decode cX2_addWay 85 = .ok (.getfield 30, 3) := by decide +kernel
theorem dX2_addWay_88 : decode cX2_addWay 88 = .ok (.aload_n 0, 1) := by decide +kernel
theorem dX2_addWay_89 : decode cX2_addWay 89 = .ok (.getfield 49, 3) := by decide +kernel
theorem dX2_addWay_92 : decode cX2_addWay 92 = .ok (.iload 4, 2) := by decide +kernel
theorem dX2_addWay_94 : decode cX2_addWay 94 = .ok (.iastore, 1) := by decide +kernel
theorem dX2_addWay_95 : decode cX2_addWay 95 = .ok (.aload_n 0, 1) := by decide +kernel
theorem dX2_addWay_96 : decode cX2_addWay 96 = .ok (.dup, 1) := by decide +kernel
theorem dX2_addWay_97 : decode cX2_addWay 97 = .ok (.getfield 49, 3) := by decide +kernel
theorem dX2_addWay_100 : decode cX2_addWay 100 = .ok (.iconst 1, 1) := by decide +kernel
theorem dX2_addWay_101 : decode cX2_addWay 101 = .ok (.iadd, 1) := by decide +kernel
theorem dX2_addWay_102 : decode cX2_addWay 102 = .ok (.putfield 49, 3) := by decide +kernel
theorem dX2_addWay_105 : decode cX2_addWay 105 = .ok (.iconst 1, 1) := by decide +kernel
theorem dX2_addWay_106 : decode cX2_addWay 106 = .ok (.ireturn, 1) := by decide +kernel
theorem dX2_hasWay_0 : decode cX2_hasWay 0 = .ok (.iconst 0, 1) := by decide +kernel
theorem dX2_hasWay_1 : decode cX2_hasWay 1 = .ok (.istore_n 3, 1) := by decide +kernel
theorem dX2_hasWay_2 : decode cX2_hasWay 2 = .ok (.iload_n 3, 1) := by decide +kernel
theorem dX2_hasWay_3 : decode cX2_hasWay 3 = .ok (.aload_n 0, 1) := by decide +kernel
theorem dX2_hasWay_4 : decode cX2_hasWay 4 = .ok (.getfield 49, 3) := by decide +kernel
theorem dX2_hasWay_7 : decode cX2_hasWay 7 = .ok (.if_icmp .ge 51, 3) := by decide +kernel
theorem dX2_hasWay_10 : decode cX2_hasWay 10 = .ok (.aload_n 0, 1) := by decide +kernel
theorem dX2_hasWay_11 : decode cX2_hasWay 11 = .ok (.getfield 21, 3) := by decide +kernel
theorem dX2_hasWay_14 : decode cX2_hasWay 14 = .ok (.iload_n 3, 1) := by decide +kernel
theorem dX2_hasWay_15 : decode cX2_hasWay 15 = .ok (.iaload, 1) := by decide +kernel
theorem dX2_hasWay_16 : decode cX2_hasWay 16 = .ok (.iload_n 1, 1) := by decide +kernel
theorem dX2_hasWay_17 : decode cX2_hasWay 17 = .ok (.if_icmp .ne 13, 3) := by decide +kernel
theorem dX2_hasWay_20 : decode cX2_hasWay 20 = .ok (.aload_n 0, 1) := by decide +kernel
theorem dX2_hasWay_21 : decode cX2_hasWay 21 = .ok (.getfield 24, 3) := by decide +kernel
theorem dX2_hasWay_24 : decode cX2_hasWay 24 = .ok (.iload_n 3, 1) := by decide +kernel
theorem dX2_hasWay_25 : decode cX2_hasWay 25 = .ok (.iaload, 1) := by decide +kernel
theorem dX2_hasWay_26 : decode cX2_hasWay 26 = .ok (.iload_n 2, 1) := by decide +kernel
theorem dX2_hasWay_27 : decode cX2_hasWay 27 = .ok (.if_icmp .eq 23, 3) := by decide +kernel
theorem dX2_hasWay_30 : decode cX2_hasWay 30 = .ok (.aload_n 0, 1) := by decide +kernel
theorem dX2_hasWay_31 : decode cX2_hasWay 31 = .ok (.getfield 21, 3) := by decide +kernel
theorem dX2_hasWay_34 : decode cX2_hasWay 34 = .ok (.iload_n 3, 1) := by decide +kernel
theorem dX2_hasWay_35 : decode cX2_hasWay 35 = .ok (.iaload, 1) := by decide +kernel
theorem dX2_hasWay_36 : decode cX2_hasWay 36 = .ok (.iload_n 2, 1) := by decide +kernel
theorem dX2_hasWay_37 : decode cX2_hasWay 37 = .ok (.if_icmp .ne 15, 3) := by decide +kernel
theorem dX2_hasWay_40 : decode cX2_hasWay 40 = .ok (.aload_n 0, 1) := by decide +kernel
theorem dX2_hasWay_41 : decode cX2_hasWay 41 = .ok (.getfield 24, 3) := by decide +kernel
theorem dX2_hasWay_44 : decode cX2_hasWay 44 = .ok (.iload_n 3, 1) := by decide +kernel
theorem dX2_hasWay_45 : decode cX2_hasWay 45 = .ok (.iaload, 1) := by decide +kernel
theorem dX2_hasWay_46 : decode cX2_hasWay 46 = .ok (.iload_n 1, 1) := by decide +kernel
theorem dX2_hasWay_47 : decode cX2_hasWay 47 = .ok (.if_icmp .ne 5, 3) := by decide +kernel
theorem dX2_hasWay_50 : decode cX2_hasWay 50 = .ok (.iconst 1, 1) := by decide +kernel
theorem dX2_hasWay_51 : decode cX2_hasWay 51 = .ok (.ireturn, 1) := by decide +kernel
theorem dX2_hasWay_52 : decode cX2_hasWay 52 = .ok (.iinc 3 1, 3) := by decide +kernel
theorem dX2_hasWay_55 : decode cX2_hasWay 55 = .ok (.goto (-53), 3) := by decide +kernel
theorem dX2_hasWay_58 : decode cX2_hasWay 58 = .ok (.iconst 0, 1) := by decide +kernel
theorem dX2_hasWay_59 : decode cX2_hasWay 59 = .ok (.ireturn, 1) := by decide +kernel
theorem dX2_addErrand_0 : decode cX2_addErrand 0 = .ok (.aload_n 0, 1) := by decide +kernel
theorem dX2_addErrand_1 : decode cX2_addErrand 1 = .ok (.getfield 52, 3) := by decide +kernel
theorem dX2_addErrand_4 : decode cX2_addErrand 4 = .ok (.iconst 5, 1) := by decide +kernel
theorem dX2_addErrand_5 : decode cX2_addErrand 5 = .ok (.if_icmp .ge 22, 3) := by decide +kernel
theorem dX2_addErrand_8 : decode cX2_addErrand 8 = .ok (.iload_n 1, 1) := by decide +kernel
theorem dX2_addErrand_9 : decode cX2_addErrand 9 = .ok (.aload_n 0, 1) := by decide +kernel
theorem dX2_addErrand_10 : decode cX2_addErrand 10 = .ok (.getfield 45, 3) := by decide +kernel
theorem dX2_addErrand_13 : decode cX2_addErrand 13 = .ok (.if_icmp .ge 14, 3) := by decide +kernel
theorem dX2_addErrand_16 : decode cX2_addErrand 16 = .ok (.iload_n 2, 1) := by decide +kernel
theorem dX2_addErrand_17 : decode cX2_addErrand 17 = .ok (.iconst 1, 1) := by decide +kernel
theorem dX2_addErrand_18 : decode cX2_addErrand 18 = .ok (.if_icmp .lt 9, 3) := by decide +kernel
theorem dX2_addErrand_21 : decode cX2_addErrand 21 = .ok (.iload_n 2, 1) := by decide +kernel
theorem dX2_addErrand_22 : decode cX2_addErrand 22 = .ok (.bipush 60, 2) := by decide +kernel
theorem dX2_addErrand_24 : decode cX2_addErrand 24 = .ok (.if_icmp .le 5, 3) := by decide +kernel
theorem dX2_addErrand_27 : decode cX2_addErrand 27 = .ok (.iconst 0, 1) := by decide +kernel
theorem dX2_addErrand_28 : decode cX2_addErrand 28 = .ok (.ireturn, 1) := by decide +kernel
theorem dX2_addErrand_29 : decode cX2_addErrand 29 = .ok (.aload_n 0, 1) := by decide +kernel
theorem dX2_addErrand_30 : decode cX2_addErrand 30 = .ok (.getfield 33, 3) := by decide +kernel
theorem dX2_addErrand_33 : decode cX2_addErrand 33 = .ok (.aload_n 0, 1) := by decide +kernel
theorem dX2_addErrand_34 : decode cX2_addErrand 34 = .ok (.getfield 52, 3) := by decide +kernel
theorem dX2_addErrand_37 : decode cX2_addErrand 37 = .ok (.iload_n 1, 1) := by decide +kernel
theorem dX2_addErrand_38 : decode cX2_addErrand 38 = .ok (.iastore, 1) := by decide +kernel
theorem dX2_addErrand_39 : decode cX2_addErrand 39 = .ok (.aload_n 0, 1) := by decide +kernel
theorem dX2_addErrand_40 : decode cX2_addErrand 40 = .ok (.getfield 36, 3) := by decide +kernel
theorem dX2_addErrand_43 : decode cX2_addErrand 43 = .ok (.aload_n 0, 1) := by decide +kernel
theorem dX2_addErrand_44 : decode cX2_addErrand 44 = .ok (.getfield 52, 3) := by decide +kernel
theorem dX2_addErrand_47 : decode cX2_addErrand 47 = .ok (.iload_n 2, 1) := by decide +kernel
theorem dX2_addErrand_48 : decode cX2_addErrand 48 = .ok (.iastore, 1) := by decide +kernel
theorem dX2_addErrand_49 : decode cX2_addErrand 49 = .ok (.aload_n 0, 1) := by decide +kernel
theorem dX2_addErrand_50 : decode cX2_addErrand 50 = .ok (.getfield 39, 3) := by decide +kernel
theorem dX2_addErrand_53 : decode cX2_addErrand 53 = .ok (.aload_n 0, 1) := by decide +kernel
theorem dX2_addErrand_54 : decode cX2_addErrand 54 = .ok (.getfield 52, 3) := by decide +kernel
theorem dX2_addErrand_57 : decode cX2_addErrand 57 = .ok (.iload_n 3, 1) := by decide +kernel
theorem dX2_addErrand_58 : decode cX2_addErrand 58 = .ok (.iastore, 1) := by decide +kernel
theorem dX2_addErrand_59 : decode cX2_addErrand 59 = .ok (.aload_n 0, 1) := by decide +kernel
theorem dX2_addErrand_60 : decode cX2_addErrand 60 = .ok (.getfield 42, 3) := by decide +kernel
theorem dX2_addErrand_63 : decode cX2_addErrand 63 = .ok (.aload_n 0, 1) := by decide +kernel
theorem dX2_addErrand_64 : decode cX2_addErrand 64 = .ok (.getfield 52, 3) := by decide +kernel
theorem dX2_addErrand_67 : decode cX2_addErrand 67 = .ok (.iload 4, 2) := by decide +kernel
theorem dX2_addErrand_69 : decode cX2_addErrand 69 = .ok (.iastore, 1) := by decide +kernel
theorem dX2_addErrand_70 : decode cX2_addErrand 70 = .ok (.aload_n 0, 1) := by decide +kernel
theorem dX2_addErrand_71 : decode cX2_addErrand 71 = .ok (.dup, 1) := by decide +kernel
theorem dX2_addErrand_72 : decode cX2_addErrand 72 = .ok (.getfield 52, 3) := by decide +kernel
theorem dX2_addErrand_75 : decode cX2_addErrand 75 = .ok (.iconst 1, 1) := by decide +kernel
theorem dX2_addErrand_76 : decode cX2_addErrand 76 = .ok (.iadd, 1) := by decide +kernel
theorem dX2_addErrand_77 : decode cX2_addErrand 77 = .ok (.putfield 52, 3) := by decide +kernel
theorem dX2_addErrand_80 : decode cX2_addErrand 80 = .ok (.iconst 1, 1) := by decide +kernel
theorem dX2_addErrand_81 : decode cX2_addErrand 81 = .ok (.ireturn, 1) := by decide +kernel
theorem dX2_useFuel_0 : decode cX2_useFuel 0 = .ok (.iload_n 2, 1) := by decide +kernel
theorem dX2_useFuel_1 : decode cX2_useFuel 1 = .ok (.bipush 60, 2) := by decide +kernel
theorem dX2_useFuel_3 : decode cX2_useFuel 3 = .ok (.if_icmp .le 5, 3) := by decide +kernel
theorem dX2_useFuel_6 : decode cX2_useFuel 6 = .ok (.iconst 0, 1) := by decide +kernel
theorem dX2_useFuel_7 : decode cX2_useFuel 7 = .ok (.ireturn, 1) := by decide +kernel
theorem dX2_useFuel_8 : decode cX2_useFuel 8 = .ok (.aload_n 0, 1) := by decide +kernel
theorem dX2_useFuel_9 : decode cX2_useFuel 9 = .ok (.iload_n 1, 1) := by decide +kernel
theorem dX2_useFuel_10 : decode cX2_useFuel 10 = .ok (.putfield 55, 3) := by decide +kernel
theorem dX2_useFuel_13 : decode cX2_useFuel 13 = .ok (.aload_n 0, 1) := by decide +kernel
theorem dX2_useFuel_14 : decode cX2_useFuel 14 = .ok (.iload_n 2, 1) := by decide +kernel
theorem dX2_useFuel_15 : decode cX2_useFuel 15 = .ok (.putfield 58, 3) := by decide +kernel
theorem dX2_useFuel_18 : decode cX2_useFuel 18 = .ok (.iconst 1, 1) := by decide +kernel
theorem dX2_useFuel_19 : decode cX2_useFuel 19 = .ok (.ireturn, 1) := by decide +kernel
theorem dX2_takeDriver_0 : decode cX2_takeDriver 0 = .ok (.iload_n 1, 1) := by decide +kernel
theorem dX2_takeDriver_1 : decode cX2_takeDriver 1 = .ok (.iconst 5, 1) := by decide +kernel
theorem dX2_takeDriver_2 : decode cX2_takeDriver 2 = .ok (.if_icmp .le 5, 3) := by decide +kernel
theorem dX2_takeDriver_5 : decode cX2_takeDriver 5 = .ok (.iconst 0, 1) := by decide +kernel
theorem dX2_takeDriver_6 : decode cX2_takeDriver 6 = .ok (.ireturn, 1) := by decide +kernel
theorem dX2_takeDriver_7 : decode cX2_takeDriver 7 = .ok (.aload_n 0, 1) := by decide +kernel
theorem dX2_takeDriver_8 : decode cX2_takeDriver 8 = .ok (.iload_n 1, 1) := by decide +kernel
theorem dX2_takeDriver_9 : decode cX2_takeDriver 9 = .ok (.putfield 61, 3) := by decide +kernel
theorem dX2_takeDriver_12 : decode cX2_takeDriver 12 = .ok (.iconst 1, 1) := by decide +kernel
theorem dX2_takeDriver_13 : decode cX2_takeDriver 13 = .ok (.ireturn, 1) := by decide +kernel
set_option maxRecDepth 20000 in
theorem ggX2_startsAt_X2_startsWith : GoodIn wsX2_startsAt wsX2_startsWith := goodIn_r _ [6, 7, 8, 9, 10, 11, 12, 13, 14, 15, 16, 17, 18, 19, 20, 21, 22, 23, 24, 25, 26, 27, 28, 29, 30, 31, 32] (by decide +kernel) (by decide +kernel)
set_option maxRecDepth 20000 in
theorem gX2_startsAt_X2_startsWith : GoodIn wsX2_startsAt (wsV RX2 74 RX2 yX2_startsWith wsX2_startsWith) := goodIn_app (goodIn_of _ (by decide +kernel)) ggX2_startsAt_X2_startsWith
theorem dX2_startsAt_0 : decode cX2_startsAt 0 = .ok (.aload_n 0, 1) := by decide +kernel
theorem dX2_startsAt_1 : decode cX2_startsAt 1 = .ok (.iload_n 1, 1) := by decide +kernel
theorem dX2_startsAt_2 : decode cX2_startsAt 2 = .ok (.aload_n 0, 1) := by decide +kernel
theorem dX2_startsAt_3 : decode cX2_startsAt 3 = .ok (.getfield 18, 3) := by decide +kernel
theorem dX2_startsAt_6 : decode cX2_startsAt 6 = .ok (.iload_n 1, 1) := by decide +kernel
theorem dX2_startsAt_7 : decode cX2_startsAt 7 = .ok (.iaload, 1) := by decide +kernel
theorem dX2_startsAt_8 : decode cX2_startsAt 8 = .ok (.invokevirtual 74, 3) := by decide +kernel
theorem dX2_startsAt_11 : decode cX2_startsAt 11 = .ok (.ireturn, 1) := by decide +kernel
set_option maxRecDepth 20000 in
theorem ggX2_pushedAt_X2_pushedWith : GoodIn wsX2_pushedAt wsX2_pushedWith := goodIn_r _ [6, 7, 8, 9, 10, 11, 12, 13, 5, 14, 15, 16, 17, 18, 19, 20, 21, 22, 23, 24, 25, 26, 27, 28, 29, 30, 31, 32, 33, 34, 35, 36] (by decide +kernel) (by decide +kernel)
set_option maxRecDepth 20000 in
theorem gX2_pushedAt_X2_pushedWith : GoodIn wsX2_pushedAt (wsV RX2 78 RX2 yX2_pushedWith wsX2_pushedWith) := goodIn_app (goodIn_of _ (by decide +kernel)) ggX2_pushedAt_X2_pushedWith
theorem dX2_pushedAt_0 : decode cX2_pushedAt 0 = .ok (.aload_n 0, 1) := by decide +kernel
theorem dX2_pushedAt_1 : decode cX2_pushedAt 1 = .ok (.iload_n 1, 1) := by decide +kernel
theorem dX2_pushedAt_2 : decode cX2_pushedAt 2 = .ok (.aload_n 0, 1) := by decide +kernel
theorem dX2_pushedAt_3 : decode cX2_pushedAt 3 = .ok (.getfield 18, 3) := by decide +kernel
theorem dX2_pushedAt_6 : decode cX2_pushedAt 6 = .ok (.iload_n 1, 1) := by decide +kernel
theorem dX2_pushedAt_7 : decode cX2_pushedAt 7 = .ok (.iaload, 1) := by decide +kernel
theorem dX2_pushedAt_8 : decode cX2_pushedAt 8 = .ok (.invokevirtual 78, 3) := by decide +kernel
theorem dX2_pushedAt_11 : decode cX2_pushedAt 11 = .ok (.ireturn, 1) := by decide +kernel
theorem dX2_startsWith_0 : decode cX2_startsWith 0 = .ok (.bipush 10, 2) := by decide +kernel
theorem dX2_startsWith_2 : decode cX2_startsWith 2 = .ok (.iconst 2, 1) := by decide +kernel
theorem dX2_startsWith_3 : decode cX2_startsWith 3 = .ok (.aload_n 0, 1) := by decide +kernel
theorem dX2_startsWith_4 : decode cX2_startsWith 4 = .ok (.getfield 15, 3) := by decide +kernel
theorem dX2_startsWith_7 : decode cX2_startsWith 7 = .ok (.iload_n 1, 1) := by decide +kernel
theorem dX2_startsWith_8 : decode cX2_startsWith 8 = .ok (.iaload, 1) := by decide +kernel
theorem dX2_startsWith_9 : decode cX2_startsWith 9 = .ok (.imul, 1) := by decide +kernel
theorem dX2_startsWith_10 : decode cX2_startsWith 10 = .ok (.invokestatic 81, 3) := by decide +kernel
theorem dX2_startsWith_13 : decode cX2_startsWith 13 = .ok (.istore_n 3, 1) := by decide +kernel
theorem dX2_startsWith_14 : decode cX2_startsWith 14 = .ok (.iconst 0, 1) := by decide +kernel
theorem dX2_startsWith_15 : decode cX2_startsWith 15 = .ok (.iload_n 3, 1) := by decide +kernel
theorem dX2_startsWith_16 : decode cX2_startsWith 16 = .ok (.iconst 2, 1) := by decide +kernel
theorem dX2_startsWith_17 : decode cX2_startsWith 17 = .ok (.isub, 1) := by decide +kernel
theorem dX2_startsWith_18 : decode cX2_startsWith 18 = .ok (.invokestatic 86, 3) := by decide +kernel
theorem dX2_startsWith_21 : decode cX2_startsWith 21 = .ok (.istore 4, 2) := by decide +kernel
theorem dX2_startsWith_23 : decode cX2_startsWith 23 = .ok (.bipush 10, 2) := by decide +kernel
theorem dX2_startsWith_25 : decode cX2_startsWith 25 = .ok (.iload_n 3, 1) := by decide +kernel
theorem dX2_startsWith_26 : decode cX2_startsWith 26 = .ok (.iconst 1, 1) := by decide +kernel
theorem dX2_startsWith_27 : decode cX2_startsWith 27 = .ok (.iadd, 1) := by decide +kernel
theorem dX2_startsWith_28 : decode cX2_startsWith 28 = .ok (.invokestatic 81, 3) := by decide +kernel
theorem dX2_startsWith_31 : decode cX2_startsWith 31 = .ok (.istore 5, 2) := by decide +kernel
theorem dX2_startsWith_33 : decode cX2_startsWith 33 = .ok (.aload_n 0, 1) := by decide +kernel
theorem dX2_startsWith_34 : decode cX2_startsWith 34 = .ok (.getfield 9, 3) := by decide +kernel
theorem dX2_startsWith_37 : decode cX2_startsWith 37 = .ok (.iload_n 1, 1) := by decide +kernel
theorem dX2_startsWith_38 : decode cX2_startsWith 38 = .ok (.iaload, 1) := by decide +kernel
theorem dX2_startsWith_39 : decode cX2_startsWith 39 = .ok (.tableswitch 78 1 5 #[33, 36, 39, 56, 61], 33) := by decide +kernel
theorem dX2_startsWith_72 : decode cX2_startsWith 72 = .ok (.iload 4, 2) := by decide +kernel
theorem dX2_startsWith_74 : decode cX2_startsWith 74 = .ok (.ireturn, 1) := by decide +kernel
theorem dX2_startsWith_75 : decode cX2_startsWith 75 = .ok (.iload 5, 2) := by decide +kernel
theorem dX2_startsWith_77 : decode cX2_startsWith 77 = .ok (.ireturn, 1) := by decide +kernel
theorem dX2_startsWith_78 : decode cX2_startsWith 78 = .ok (.aload_n 0, 1) := by decide +kernel
theorem dX2_startsWith_79 : decode cX2_startsWith 79 = .ok (.getfield 15, 3) := by decide +kernel
theorem dX2_startsWith_82 : decode cX2_startsWith 82 = .ok (.iload_n 1, 1) := by decide +kernel
theorem dX2_startsWith_83 : decode cX2_startsWith 83 = .ok (.iaload, 1) := by decide +kernel
theorem dX2_startsWith_84 : decode cX2_startsWith 84 = .ok (.ifCond .le 8, 3) := by decide +kernel
theorem dX2_startsWith_87 : decode cX2_startsWith 87 = .ok (.bipush 10, 2) := by decide +kernel
theorem dX2_startsWith_89 : decode cX2_startsWith 89 = .ok (.goto 5, 3) := by decide +kernel
theorem dX2_startsWith_92 : decode cX2_startsWith 92 = .ok (.iload 5, 2) := by decide +kernel
theorem dX2_startsWith_94 : decode cX2_startsWith 94 = .ok (.ireturn, 1) := by decide +kernel
theorem dX2_startsWith_95 : decode cX2_startsWith 95 = .ok (.iload 4, 2) := by decide +kernel
theorem dX2_startsWith_97 : decode cX2_startsWith 97 = .ok (.iconst 2, 1) := by decide +kernel
theorem dX2_startsWith_98 : decode cX2_startsWith 98 = .ok (.idiv, 1) := by decide +kernel
theorem dX2_startsWith_99 : decode cX2_startsWith 99 = .ok (.ireturn, 1) := by decide +kernel
theorem dX2_startsWith_100 : decode cX2_startsWith 100 = .ok (.iconst 0, 1) := by decide +kernel
theorem dX2_startsWith_101 : decode cX2_startsWith 101 = .ok (.iload 5, 2) := by decide +kernel
theorem dX2_startsWith_103 : decode cX2_startsWith 103 = .ok (.iconst 3, 1) := by decide +kernel
theorem dX2_startsWith_104 : decode cX2_startsWith 104 = .ok (.iconst 0, 1) := by decide +kernel
theorem dX2_startsWith_105 : decode cX2_startsWith 105 = .ok (.iconst 2, 1) := by decide +kernel
theorem dX2_startsWith_106 : decode cX2_startsWith 106 = .ok (.iload_n 2, 1) := by decide +kernel
theorem dX2_startsWith_107 : decode cX2_startsWith 107 = .ok (.isub, 1) := by decide +kernel
theorem dX2_startsWith_108 : decode cX2_startsWith 108 = .ok (.invokestatic 86, 3) := by decide +kernel
theorem dX2_startsWith_111 : decode cX2_startsWith 111 = .ok (.imul, 1) := by decide +kernel
theorem dX2_startsWith_112 : decode cX2_startsWith 112 = .ok (.isub, 1) := by decide +kernel
theorem dX2_startsWith_113 : decode cX2_startsWith 113 = .ok (.invokestatic 86, 3) := by decide +kernel
theorem dX2_startsWith_116 : decode cX2_startsWith 116 = .ok (.ireturn, 1) := by decide +kernel
theorem dX2_startsWith_117 : decode cX2_startsWith 117 = .ok (.iload_n 3, 1) := by decide +kernel
theorem dX2_startsWith_118 : decode cX2_startsWith 118 = .ok (.ireturn, 1) := by decide +kernel
set_option maxRecDepth 20000 in
theorem ggX2_pushedWith_X2_startsWith : GoodIn wsX2_pushedWith wsX2_startsWith := goodIn_r _ [9, 10, 1, 2, 3, 4, 11, 12, 13, 14, 15, 16, 17, 18, 19, 20, 21, 22, 23, 24, 25, 26, 27, 28, 29, 30, 31] (by decide +kernel) (by decide +kernel)
set_option maxRecDepth 20000 in
theorem gX2_pushedWith_X2_startsWith : GoodIn wsX2_pushedWith (wsV RX2 74 RX2 yX2_startsWith wsX2_startsWith) := goodIn_app (goodIn_of _ (by decide +kernel)) ggX2_pushedWith_X2_startsWith
theorem dX2_pushedWith_0 : decode cX2_pushedWith 0 = .ok (.bipush 10, 2) := by decide +kernel
theorem dX2_pushedWith_2 : decode cX2_pushedWith 2 = .ok (.aload_n 0, 1) := by decide +kernel
theorem dX2_pushedWith_3 : decode cX2_pushedWith 3 = .ok (.iload_n 1, 1) := by decide +kernel
theorem dX2_pushedWith_4 : decode cX2_pushedWith 4 = .ok (.iload_n 2, 1) := by decide +kernel
theorem dX2_pushedWith_5 : decode cX2_pushedWith 5 = .ok (.invokevirtual 74, 3) := by decide +kernel
theorem dX2_pushedWith_8 : decode cX2_pushedWith 8 = .ok (.iconst 2, 1) := by decide +kernel
theorem dX2_pushedWith_9 : decode cX2_pushedWith 9 = .ok (.iload_n 2, 1) := by decide +kernel
theorem dX2_pushedWith_10 : decode cX2_pushedWith 10 = .ok (.imul, 1) := by decide +kernel
theorem dX2_pushedWith_11 : decode cX2_pushedWith 11 = .ok (.iadd, 1) := by decide +kernel
theorem dX2_pushedWith_12 : decode cX2_pushedWith 12 = .ok (.invokestatic 81, 3) := by decide +kernel
theorem dX2_pushedWith_15 : decode cX2_pushedWith 15 = .ok (.ireturn, 1) := by decide +kernel
theorem dX2_allWorth_0 : decode cX2_allWorth 0 = .ok (.iconst 0, 1) := by decide +kernel
theorem dX2_allWorth_1 : decode cX2_allWorth 1 = .ok (.istore_n 1, 1) := by decide +kernel
theorem dX2_allWorth_2 : decode cX2_allWorth 2 = .ok (.iconst 0, 1) := by decide +kernel
theorem dX2_allWorth_3 : decode cX2_allWorth 3 = .ok (.istore_n 2, 1) := by decide +kernel
theorem dX2_allWorth_4 : decode cX2_allWorth 4 = .ok (.iload_n 2, 1) := by decide +kernel
theorem dX2_allWorth_5 : decode cX2_allWorth 5 = .ok (.aload_n 0, 1) := by decide +kernel
theorem dX2_allWorth_6 : decode cX2_allWorth 6 = .ok (.getfield 52, 3) := by decide +kernel
theorem dX2_allWorth_9 : decode cX2_allWorth 9 = .ok (.if_icmp .ge 18, 3) := by decide +kernel
theorem dX2_allWorth_12 : decode cX2_allWorth 12 = .ok (.iload_n 1, 1) := by decide +kernel
theorem dX2_allWorth_13 : decode cX2_allWorth 13 = .ok (.aload_n 0, 1) := by decide +kernel
theorem dX2_allWorth_14 : decode cX2_allWorth 14 = .ok (.getfield 39, 3) := by decide +kernel
theorem dX2_allWorth_17 : decode cX2_allWorth 17 = .ok (.iload_n 2, 1) := by decide +kernel
theorem dX2_allWorth_18 : decode cX2_allWorth 18 = .ok (.iaload, 1) := by decide +kernel
theorem dX2_allWorth_19 : decode cX2_allWorth 19 = .ok (.iadd, 1) := by decide +kernel
theorem dX2_allWorth_20 : decode cX2_allWorth 20 = .ok (.istore_n 1, 1) := by decide +kernel
theorem dX2_allWorth_21 : decode cX2_allWorth 21 = .ok (.iinc 2 1, 3) := by decide +kernel
theorem dX2_allWorth_24 : decode cX2_allWorth 24 = .ok (.goto (-20), 3) := by decide +kernel
theorem dX2_allWorth_27 : decode cX2_allWorth 27 = .ok (.iload_n 1, 1) := by decide +kernel
theorem dX2_allWorth_28 : decode cX2_allWorth 28 = .ok (.ireturn, 1) := by decide +kernel
set_option maxRecDepth 20000 in
theorem ggX3_init_X2_init : GoodIn wsX3_init wsX2_init := goodIn_r _ [28, 29, 2, 3, 12, 30, 31, 32, 33, 34, 35, 36, 37, 38, 39, 40, 41, 42, 43, 44, 45, 46, 55, 56, 57, 58, 59, 60, 61, 62, 63, 64, 65, 66, 67, 68, 69, 70, 71] (by decide +kernel) (by decide +kernel)
set_option maxRecDepth 20000 in
theorem gX3_init_X2_init_n11 : GoodIn wsX3_init (wsX2_init) := ggX3_init_X2_init
set_option maxRecDepth 20000 in
theorem ggX3_init_X0_init : GoodIn wsX3_init wsX0_init := goodIn_r _ [48, 49, 2, 3, 12, 50, 51, 52, 53, 54, 87, 88, 89, 90, 91] (by decide +kernel) (by decide +kernel)
set_option maxRecDepth 20000 in
theorem gX3_init_X0_init_n20 : GoodIn wsX3_init (wsX0_init) := ggX3_init_X0_init
theorem dX3_init_0 : decode cX3_init 0 = .ok (.aload_n 0, 1) := by decide +kernel
theorem dX3_init_1 : decode cX3_init 1 = .ok (.invokespecial 3, 3) := by decide +kernel
theorem dX3_init_4 : decode cX3_init 4 = .ok (.aload_n 0, 1) := by decide +kernel
theorem dX3_init_5 : decode cX3_init 5 = .ok (.new 9, 3) := by decide +kernel
theorem dX3_init_8 : decode cX3_init 8 = .ok (.dup, 1) := by decide +kernel
theorem dX3_init_9 : decode cX3_init 9 = .ok (.invokespecial 11, 3) := by decide +kernel
theorem dX3_init_12 : decode cX3_init 12 = .ok (.putfield 12, 3) := by decide +kernel
theorem dX3_init_15 : decode cX3_init 15 = .ok (.aload_n 0, 1) := by decide +kernel
theorem dX3_init_16 : decode cX3_init 16 = .ok (.new 18, 3) := by decide +kernel
theorem dX3_init_19 : decode cX3_init 19 = .ok (.dup, 1) := by decide +kernel
theorem dX3_init_20 : decode cX3_init 20 = .ok (.invokespecial 20, 3) := by decide +kernel
theorem dX3_init_23 : decode cX3_init 23 = .ok (.putfield 21, 3) := by decide +kernel
theorem dX3_init_26 : decode cX3_init 26 = .ok (.aload_n 0, 1) := by decide +kernel
theorem dX3_init_27 : decode cX3_init 27 = .ok (.bipush 8, 2) := by decide +kernel
theorem dX3_init_29 : decode cX3_init 29 = .ok (.newarray .int, 2) := by decide +kernel
theorem dX3_init_31 : decode cX3_init 31 = .ok (.putfield 25, 3) := by decide +kernel
theorem dX3_init_34 : decode cX3_init 34 = .ok (.aload_n 0, 1) := by decide +kernel
theorem dX3_init_35 : decode cX3_init 35 = .ok (.bipush 8, 2) := by decide +kernel
theorem dX3_init_37 : decode cX3_init 37 = .ok (.newarray .int, 2) := by decide +kernel
theorem dX3_init_39 : decode cX3_init 39 = .ok (.putfield 29, 3) := by decide +kernel
theorem dX3_init_42 : decode cX3_init 42 = .ok (.aload_n 0, 1) := by decide +kernel
theorem dX3_init_43 : decode cX3_init 43 = .ok (.bipush 12, 2) := by decide +kernel
theorem dX3_init_45 : decode cX3_init 45 = .ok (.newarray .int, 2) := by decide +kernel
theorem dX3_init_47 : decode cX3_init 47 = .ok (.putfield 32, 3) := by decide +kernel
theorem dX3_init_50 : decode cX3_init 50 = .ok (.aload_n 0, 1) := by decide +kernel
theorem dX3_init_51 : decode cX3_init 51 = .ok (.bipush 12, 2) := by decide +kernel
theorem dX3_init_53 : decode cX3_init 53 = .ok (.newarray .boolean, 2) := by decide +kernel
theorem dX3_init_55 : decode cX3_init 55 = .ok (.putfield 35, 3) := by decide +kernel
theorem dX3_init_58 : decode cX3_init 58 = .ok (.aload_n 0, 1) := by decide +kernel
theorem dX3_init_59 : decode cX3_init 59 = .ok (.iconst 0, 1) := by decide +kernel
theorem dX3_init_60 : decode cX3_init 60 = .ok (.putfield 39, 3) := by decide +kernel
theorem dX3_init_63 : decode cX3_init 63 = .ok (.aload_n 0, 1) := by decide +kernel
theorem dX3_init_64 : decode cX3_init 64 = .ok (.iconst 0, 1) := by decide +kernel
theorem dX3_init_65 : decode cX3_init 65 = .ok (.putfield 43, 3) := by decide +kernel
theorem dX3_init_68 : decode cX3_init 68 = .ok (.aload_n 0, 1) := by decide +kernel
theorem dX3_init_69 : decode cX3_init 69 = .ok (.iconst 0, 1) := by decide +kernel
theorem dX3_init_70 : decode cX3_init 70 = .ok (.putfield 46, 3) := by decide +kernel
theorem dX3_init_73 : decode cX3_init 73 = .ok (.aload_n 0, 1) := by decide +kernel
theorem dX3_init_74 : decode cX3_init 74 = .ok (.iconst 0, 1) := by decide +kernel
theorem dX3_init_75 : decode cX3_init 75 = .ok (.putfield 49, 3) := by decide +kernel
theorem dX3_init_78 : decode cX3_init 78 = .ok (.aload_n 0, 1) := by decide +kernel
theorem dX3_init_79 : decode cX3_init 79 = .ok (.iconst 0, 1) := by decide +kernel
theorem dX3_init_80 : decode cX3_init 80 = .ok (.putfield 52, 3) := by decide +kernel
theorem dX3_init_83 : decode cX3_init 83 = .ok (.aload_n 0, 1) := by decide +kernel
theorem dX3_init_84 : decode cX3_init 84 = .ok (.iconst 0, 1) := by decide +kernel
theorem dX3_init_85 : decode cX3_init 85 = .ok (.putfield 55, 3) := by decide +kernel
theorem dX3_init_88 : decode cX3_init 88 = .ok (.aload_n 0, 1) := by decide +kernel
theorem dX3_init_89 : decode cX3_init 89 = .ok (.iconst 0, 1) := by decide +kernel
theorem dX3_init_90 : decode cX3_init 90 = .ok (.putfield 58, 3) := by decide +kernel
theorem dX3_init_93 : decode cX3_init 93 = .ok (.aload_n 0, 1) := by decide +kernel
theorem dX3_init_94 : decode cX3_init 94 = .ok (.lconst 0, 1) := by decide +kernel
theorem dX3_init_95 : decode cX3_init 95 = .ok (.putfield 61, 3) := by decide +kernel
theorem dX3_init_98 : decode cX3_init 98 = .ok (.aload_n 0, 1) := by decide +kernel
theorem dX3_init_99 : decode cX3_init 99 = .ok (.lconst 0, 1) := by decide +kernel
theorem dX3_init_100 : decode cX3_init 100 = .ok (.putfield 65, 3) := by decide +kernel
theorem dX3_init_103 : decode cX3_init 103 = .ok (.return_, 1) := by decide +kernel
set_option maxRecDepth 20000 in
theorem ggX3_supposeAsItIs_X3_supposePushers : GoodIn wsX3_supposeAsItIs wsX3_supposePushers := goodIn_r _ [12, 13, 1, 14, 15, 16, 17, 18, 19, 20, 21, 22, 23, 24, 25, 26, 27, 28, 29, 30, 31, 32, 33, 34, 35, 36, 37, 38, 39, 40, 41, 42, 43, 44, 45, 46, 47, 48, 49, 50, 51, 52, 53, 54, 55, 56, 57, 58, 59, 60, 61, 62, 63, 64, 65] (by decide +kernel) (by decide +kernel)
set_option maxRecDepth 20000 in
theorem gX3_supposeAsItIs_X3_supposePushers : GoodIn wsX3_supposeAsItIs (wsV RX3 76 RX3 yX3_supposePushers wsX3_supposePushers) := goodIn_app (goodIn_of _ (by decide +kernel)) ggX3_supposeAsItIs_X3_supposePushers
theorem dX3_supposeAsItIs_0 : decode cX3_supposeAsItIs 0 = .ok (.aload_n 0, 1) := by decide +kernel
theorem dX3_supposeAsItIs_1 : decode cX3_supposeAsItIs 1 = .ok (.aload_n 0, 1) := by decide +kernel
theorem dX3_supposeAsItIs_2 : decode cX3_supposeAsItIs 2 = .ok (.getfield 12, 3) := by decide +kernel
theorem dX3_supposeAsItIs_5 : decode cX3_supposeAsItIs 5 = .ok (.getfield 68, 3) := by decide +kernel
theorem dX3_supposeAsItIs_8 : decode cX3_supposeAsItIs 8 = .ok (.putfield 46, 3) := by decide +kernel
theorem dX3_supposeAsItIs_11 : decode cX3_supposeAsItIs 11 = .ok (.aload_n 0, 1) := by decide +kernel
theorem dX3_supposeAsItIs_12 : decode cX3_supposeAsItIs 12 = .ok (.aload_n 0, 1) := by decide +kernel
theorem dX3_supposeAsItIs_13 : decode cX3_supposeAsItIs 13 = .ok (.getfield 12, 3) := by decide +kernel
theorem dX3_supposeAsItIs_16 : decode cX3_supposeAsItIs 16 = .ok (.getfield 69, 3) := by decide +kernel
theorem dX3_supposeAsItIs_19 : decode cX3_supposeAsItIs 19 = .ok (.putfield 49, 3) := by decide +kernel
theorem dX3_supposeAsItIs_22 : decode cX3_supposeAsItIs 22 = .ok (.iconst 0, 1) := by decide +kernel
theorem dX3_supposeAsItIs_23 : decode cX3_supposeAsItIs 23 = .ok (.istore_n 1, 1) := by decide +kernel
theorem dX3_supposeAsItIs_24 : decode cX3_supposeAsItIs 24 = .ok (.iload_n 1, 1) := by decide +kernel
theorem dX3_supposeAsItIs_25 : decode cX3_supposeAsItIs 25 = .ok (.aload_n 0, 1) := by decide +kernel
theorem dX3_supposeAsItIs_26 : decode cX3_supposeAsItIs 26 = .ok (.getfield 12, 3) := by decide +kernel
theorem dX3_supposeAsItIs_29 : decode cX3_supposeAsItIs 29 = .ok (.getfield 70, 3) := by decide +kernel
theorem dX3_supposeAsItIs_32 : decode cX3_supposeAsItIs 32 = .ok (.if_icmp .ge 23, 3) := by decide +kernel
theorem dX3_supposeAsItIs_35 : decode cX3_supposeAsItIs 35 = .ok (.aload_n 0, 1) := by decide +kernel
theorem dX3_supposeAsItIs_36 : decode cX3_supposeAsItIs 36 = .ok (.iload_n 1, 1) := by decide +kernel
theorem dX3_supposeAsItIs_37 : decode cX3_supposeAsItIs 37 = .ok (.aload_n 0, 1) := by decide +kernel
theorem dX3_supposeAsItIs_38 : decode cX3_supposeAsItIs 38 = .ok (.getfield 12, 3) := by decide +kernel
theorem dX3_supposeAsItIs_41 : decode cX3_supposeAsItIs 41 = .ok (.getfield 73, 3) := by decide +kernel
theorem dX3_supposeAsItIs_44 : decode cX3_supposeAsItIs 44 = .ok (.iload_n 1, 1) := by decide +kernel
theorem dX3_supposeAsItIs_45 : decode cX3_supposeAsItIs 45 = .ok (.iaload, 1) := by decide +kernel
theorem dX3_supposeAsItIs_46 : decode cX3_supposeAsItIs 46 = .ok (.invokevirtual 76, 3) := by decide +kernel
theorem dX3_supposeAsItIs_49 : decode cX3_supposeAsItIs 49 = .ok (.iinc 1 1, 3) := by decide +kernel
theorem dX3_supposeAsItIs_52 : decode cX3_supposeAsItIs 52 = .ok (.goto (-28), 3) := by decide +kernel
theorem dX3_supposeAsItIs_55 : decode cX3_supposeAsItIs 55 = .ok (.return_, 1) := by decide +kernel
set_option maxRecDepth 20000 in
theorem ggX3_supposePushers_X2_startsWith : GoodIn wsX3_supposePushers wsX2_startsWith := goodIn_r _ [8, 9, 10, 11, 12, 13, 14, 15, 16, 17, 38, 39, 40, 41, 42, 43, 44, 45, 46, 47, 48, 49, 50, 51, 52, 53, 54] (by decide +kernel) (by decide +kernel)
set_option maxRecDepth 20000 in
theorem gX3_supposePushers_X2_startsWith : GoodIn wsX3_supposePushers (wsV RX3 80 RX2 yX2_startsWith wsX2_startsWith) := goodIn_app (goodIn_of _ (by decide +kernel)) ggX3_supposePushers_X2_startsWith
set_option maxRecDepth 20000 in
theorem ggX3_supposePushers_X2_pushedWith : GoodIn wsX3_supposePushers wsX2_pushedWith := goodIn_r _ [21, 10, 11, 12, 13, 22, 5, 6, 7, 8, 9, 14, 15, 16, 17, 38, 39, 40, 41, 42, 43, 44, 45, 46, 47, 48, 49, 50, 51, 52, 53, 54] (by decide +kernel) (by decide +kernel)
set_option maxRecDepth 20000 in
theorem gX3_supposePushers_X2_pushedWith : GoodIn wsX3_supposePushers (wsV RX3 84 RX2 yX2_pushedWith wsX2_pushedWith) := goodIn_app (goodIn_of _ (by decide +kernel)) ggX3_supposePushers_X2_pushedWith
theorem dX3_supposePushers_0 : decode cX3_supposePushers 0 = .ok (.aload_n 0, 1) := by decide +kernel
theorem dX3_supposePushers_1 : decode cX3_supposePushers 1 = .ok (.getfield 25, 3) := by decide +kernel
theorem dX3_supposePushers_4 : decode cX3_supposePushers 4 = .ok (.iload_n 1, 1) := by decide +kernel
theorem dX3_supposePushers_5 : decode cX3_supposePushers 5 = .ok (.aload_n 0, 1) := by decide +kernel
theorem dX3_supposePushers_6 : decode cX3_supposePushers 6 = .ok (.getfield 12, 3) := by decide +kernel
theorem dX3_supposePushers_9 : decode cX3_supposePushers 9 = .ok (.iload_n 1, 1) := by decide +kernel
theorem dX3_supposePushers_10 : decode cX3_supposePushers 10 = .ok (.iload_n 2, 1) := by decide +kernel
theorem dX3_supposePushers_11 : decode cX3_supposePushers 11 = .ok (.invokevirtual 80, 3) := by decide +kernel
theorem dX3_supposePushers_14 : decode cX3_supposePushers 14 = .ok (.iastore, 1) := by decide +kernel
theorem dX3_supposePushers_15 : decode cX3_supposePushers 15 = .ok (.aload_n 0, 1) := by decide +kernel
theorem dX3_supposePushers_16 : decode cX3_supposePushers 16 = .ok (.getfield 29, 3) := by decide +kernel
theorem dX3_supposePushers_19 : decode cX3_supposePushers 19 = .ok (.iload_n 1, 1) := by decide +kernel
theorem dX3_supposePushers_20 : decode cX3_supposePushers 20 = .ok (.aload_n 0, 1) := by decide +kernel
theorem dX3_supposePushers_21 : decode cX3_supposePushers 21 = .ok (.getfield 12, 3) := by decide +kernel
theorem dX3_supposePushers_24 : decode cX3_supposePushers 24 = .ok (.iload_n 1, 1) := by decide +kernel
theorem dX3_supposePushers_25 : decode cX3_supposePushers 25 = .ok (.iload_n 2, 1) := by decide +kernel
theorem dX3_supposePushers_26 : decode cX3_supposePushers 26 = .ok (.invokevirtual 84, 3) := by decide +kernel
theorem dX3_supposePushers_29 : decode cX3_supposePushers 29 = .ok (.iastore, 1) := by decide +kernel
theorem dX3_supposePushers_30 : decode cX3_supposePushers 30 = .ok (.return_, 1) := by decide +kernel
theorem dX3_supposeSureStart_0 : decode cX3_supposeSureStart 0 = .ok (.aload_n 0, 1) := by decide +kernel
theorem dX3_supposeSureStart_1 : decode cX3_supposeSureStart 1 = .ok (.getfield 25, 3) := by decide +kernel
theorem dX3_supposeSureStart_4 : decode cX3_supposeSureStart 4 = .ok (.iload_n 1, 1) := by decide +kernel
theorem dX3_supposeSureStart_5 : decode cX3_supposeSureStart 5 = .ok (.bipush 10, 2) := by decide +kernel
theorem dX3_supposeSureStart_7 : decode cX3_supposeSureStart 7 = .ok (.iastore, 1) := by decide +kernel
theorem dX3_supposeSureStart_8 : decode cX3_supposeSureStart 8 = .ok (.aload_n 0, 1) := by decide +kernel
theorem dX3_supposeSureStart_9 : decode cX3_supposeSureStart 9 = .ok (.getfield 29, 3) := by decide +kernel
theorem dX3_supposeSureStart_12 : decode cX3_supposeSureStart 12 = .ok (.iload_n 1, 1) := by decide +kernel
theorem dX3_supposeSureStart_13 : decode cX3_supposeSureStart 13 = .ok (.bipush 10, 2) := by decide +kernel
theorem dX3_supposeSureStart_15 : decode cX3_supposeSureStart 15 = .ok (.iastore, 1) := by decide +kernel
theorem dX3_supposeSureStart_16 : decode cX3_supposeSureStart 16 = .ok (.return_, 1) := by decide +kernel
set_option maxRecDepth 20000 in
theorem ggX3_goBy_X3_startHere : GoodIn wsX3_goBy wsX3_startHere := goodIn_r _ [13, 14, 15, 2, 16, 7, 17, 18, 19, 20, 12, 21, 1, 22, 23, 62, 63, 64, 65, 66, 67, 68, 69, 70, 71, 72, 73, 74, 75, 76] (by decide +kernel) (by decide +kernel)
set_option maxRecDepth 20000 in
theorem gX3_goBy_X3_startHere : GoodIn wsX3_goBy (wsV RX3 89 RX3 yX3_startHere wsX3_startHere) := goodIn_app (goodIn_of _ (by decide +kernel)) ggX3_goBy_X3_startHere
set_option maxRecDepth 20000 in
theorem ggX3_goBy_X3_visit : GoodIn wsX3_goBy wsX3_visit := goodIn_r _ [27, 28, 29, 30, 3, 31, 4, 8, 7, 32, 33, 34, 5, 35, 36, 37, 12, 38, 14, 16, 39, 2, 40, 41, 42, 43, 44, 45, 46, 47, 48, 49, 50, 17, 51, 52, 53, 54, 55, 56, 18, 19, 20, 21, 1, 22, 23, 57, 58, 59, 60, 61, 9, 10, 11, 13, 15, 62, 63, 64, 65, 66, 67, 68, 69, 70, 71, 72, 73, 74, 75, 76, 77, 78, 79, 80, 81, 82, 83, 84, 85, 86, 87, 88, 89, 90, 91, 92, 93, 94, 95, 96, 97, 98] (by decide +kernel) (by decide +kernel)
set_option maxRecDepth 20000 in
theorem gX3_goBy_X3_visit : GoodIn wsX3_goBy (wsV RX3 92 RX3 yX3_visit wsX3_visit) := goodIn_app (goodIn_of _ (by decide +kernel)) ggX3_goBy_X3_visit
set_option maxRecDepth 20000 in
theorem ggX3_goBy_X3_driveTo : GoodIn wsX3_goBy wsX3_driveTo := goodIn_r _ [50, 14, 39, 2, 3, 7, 17, 51, 52, 53, 43, 54, 55, 56, 40, 41, 42, 44, 45, 46, 18, 19, 20, 12, 21, 1, 22, 23, 62, 63, 64, 65, 66, 67, 68, 69, 70, 71, 72, 73, 74, 75, 76, 94, 95, 96, 97, 98] (by decide +kernel) (by decide +kernel)
set_option maxRecDepth 20000 in
theorem gX3_goBy_X3_driveTo : GoodIn wsX3_goBy (wsV RX3 96 RX3 yX3_driveTo wsX3_driveTo) := goodIn_app (goodIn_of _ (by decide +kernel)) ggX3_goBy_X3_driveTo
theorem dX3_goBy_0 : decode cX3_goBy 0 = .ok (.aload_n 0, 1) := by decide +kernel
theorem dX3_goBy_1 : decode cX3_goBy 1 = .ok (.iconst 0, 1) := by decide +kernel
theorem dX3_goBy_2 : decode cX3_goBy 2 = .ok (.putfield 39, 3) := by decide +kernel
theorem dX3_goBy_5 : decode cX3_goBy 5 = .ok (.aload_n 0, 1) := by decide +kernel
theorem dX3_goBy_6 : decode cX3_goBy 6 = .ok (.iconst 0, 1) := by decide +kernel
theorem dX3_goBy_7 : decode cX3_goBy 7 = .ok (.putfield 43, 3) := by decide +kernel
theorem dX3_goBy_10 : decode cX3_goBy 10 = .ok (.aload_n 0, 1) := by decide +kernel
theorem dX3_goBy_11 : decode cX3_goBy 11 = .ok (.iconst 0, 1) := by decide +kernel
theorem dX3_goBy_12 : decode cX3_goBy 12 = .ok (.putfield 52, 3) := by decide +kernel
theorem dX3_goBy_15 : decode cX3_goBy 15 = .ok (.aload_n 0, 1) := by decide +kernel
theorem dX3_goBy_16 : decode cX3_goBy 16 = .ok (.iconst 0, 1) := by decide +kernel
theorem dX3_goBy_17 : decode cX3_goBy 17 = .ok (.putfield 55, 3) := by decide +kernel
theorem dX3_goBy_20 : decode cX3_goBy 20 = .ok (.aload_n 0, 1) := by decide +kernel
theorem dX3_goBy_21 : decode cX3_goBy 21 = .ok (.iconst 0, 1) := by decide +kernel
theorem dX3_goBy_22 : decode cX3_goBy 22 = .ok (.putfield 58, 3) := by decide +kernel
theorem dX3_goBy_25 : decode cX3_goBy 25 = .ok (.aload_n 0, 1) := by decide +kernel
theorem dX3_goBy_26 : decode cX3_goBy 26 = .ok (.ldc2_w 87, 3) := by decide +kernel
theorem dX3_goBy_29 : decode cX3_goBy 29 = .ok (.putfield 61, 3) := by decide +kernel
theorem dX3_goBy_32 : decode cX3_goBy 32 = .ok (.aload_n 0, 1) := by decide +kernel
theorem dX3_goBy_33 : decode cX3_goBy 33 = .ok (.lconst 0, 1) := by decide +kernel
theorem dX3_goBy_34 : decode cX3_goBy 34 = .ok (.putfield 65, 3) := by decide +kernel
theorem dX3_goBy_37 : decode cX3_goBy 37 = .ok (.aload_n 0, 1) := by decide +kernel
theorem dX3_goBy_38 : decode cX3_goBy 38 = .ok (.invokevirtual 89, 3) := by decide +kernel
theorem dX3_goBy_41 : decode cX3_goBy 41 = .ok (.iconst 0, 1) := by decide +kernel
theorem dX3_goBy_42 : decode cX3_goBy 42 = .ok (.istore_n 3, 1) := by decide +kernel
theorem dX3_goBy_43 : decode cX3_goBy 43 = .ok (.iload_n 3, 1) := by decide +kernel
theorem dX3_goBy_44 : decode cX3_goBy 44 = .ok (.iload_n 2, 1) := by decide +kernel
theorem dX3_goBy_45 : decode cX3_goBy 45 = .ok (.if_icmp .ge 22, 3) := by decide +kernel
theorem dX3_goBy_48 : decode cX3_goBy 48 = .ok (.iload_n 3, 1) := by decide +kernel
theorem dX3_goBy_49 : decode cX3_goBy 49 = .ok (.aload_n 1, 1) := by decide +kernel
theorem dX3_goBy_50 : decode cX3_goBy 50 = .ok (.arraylength, 1) := by decide +kernel
theorem dX3_goBy_51 : decode cX3_goBy 51 = .ok (.if_icmp .ge 16, 3) := by decide +kernel
theorem dX3_goBy_54 : decode cX3_goBy 54 = .ok (.aload_n 0, 1) := by decide +kernel
theorem dX3_goBy_55 : decode cX3_goBy 55 = .ok (.aload_n 1, 1) := by decide +kernel
theorem dX3_goBy_56 : decode cX3_goBy 56 = .ok (.iload_n 3, 1) := by decide +kernel
theorem dX3_goBy_57 : decode cX3_goBy 57 = .ok (.iaload, 1) := by decide +kernel
theorem dX3_goBy_58 : decode cX3_goBy 58 = .ok (.invokevirtual 92, 3) := by decide +kernel
theorem dX3_goBy_61 : decode cX3_goBy 61 = .ok (.iinc 3 1, 3) := by decide +kernel
theorem dX3_goBy_64 : decode cX3_goBy 64 = .ok (.goto (-21), 3) := by decide +kernel
theorem dX3_goBy_67 : decode cX3_goBy 67 = .ok (.aload_n 0, 1) := by decide +kernel
theorem dX3_goBy_68 : decode cX3_goBy 68 = .ok (.iconst 0, 1) := by decide +kernel
theorem dX3_goBy_69 : decode cX3_goBy 69 = .ok (.invokevirtual 96, 3) := by decide +kernel
theorem dX3_goBy_72 : decode cX3_goBy 72 = .ok (.return_, 1) := by decide +kernel
set_option maxRecDepth 20000 in
theorem ggX3_visit_X3_leavesOut : GoodIn wsX3_visit wsX3_leavesOut := goodIn_r _ [17, 18, 19, 20, 21, 22, 23, 24, 25, 26, 27, 28, 57, 58, 59, 60, 61, 62, 63, 64, 65, 66, 67, 68, 69, 70, 71, 89, 90, 91, 92, 93] (by decide +kernel) (by decide +kernel)
set_option maxRecDepth 20000 in
theorem gX3_visit_X3_leavesOut : GoodIn wsX3_visit (wsV RX3 105 RX3 yX3_leavesOut wsX3_leavesOut) := goodIn_app (goodIn_of _ (by decide +kernel)) ggX3_visit_X3_leavesOut
set_option maxRecDepth 20000 in
theorem ggX3_visit_X3_driveTo : GoodIn wsX3_visit wsX3_driveTo := goodIn_r _ [32, 18, 20, 21, 4, 8, 33, 34, 35, 36, 25, 37, 38, 39, 22, 23, 24, 26, 27, 28, 40, 41, 42, 16, 43, 44, 45, 46, 57, 58, 59, 60, 61, 62, 63, 64, 65, 66, 67, 68, 69, 70, 71, 89, 90, 91, 92, 93] (by decide +kernel) (by decide +kernel)
set_option maxRecDepth 20000 in
theorem gX3_visit_X3_driveTo : GoodIn wsX3_visit (wsV RX3 96 RX3 yX3_driveTo wsX3_driveTo) := goodIn_app (goodIn_of _ (by decide +kernel)) ggX3_visit_X3_driveTo
set_option maxRecDepth 20000 in
theorem ggX3_visit_X3_runsOn : GoodIn wsX3_visit wsX3_runsOn := goodIn_r _ [50, 1, 10, 51, 18, 19, 21, 57, 58, 59, 60, 61, 62, 63, 64, 65, 66, 67, 68, 69, 70, 71, 72, 73, 74, 75, 76, 77, 78, 79, 80, 81, 82, 83, 84, 85, 86, 87, 88] (by decide +kernel) (by decide +kernel)
set_option maxRecDepth 20000 in
theorem gX3_visit_X3_runsOn : GoodIn wsX3_visit (wsV RX3 118 RX3 yX3_runsOn wsX3_runsOn) := goodIn_app (goodIn_of _ (by decide +kernel)) ggX3_visit_X3_runsOn
set_option maxRecDepth 20000 in
theorem ggX3_visit_X3_startHere : GoodIn wsX3_visit wsX3_startHere := goodIn_r _ [55, 18, 56, 21, 19, 8, 33, 40, 41, 42, 16, 43, 44, 45, 46, 57, 58, 59, 60, 61, 62, 63, 64, 65, 66, 67, 68, 69, 70, 71] (by decide +kernel) (by decide +kernel)
set_option maxRecDepth 20000 in
theorem gX3_visit_X3_startHere : GoodIn wsX3_visit (wsV RX3 89 RX3 yX3_startHere wsX3_startHere) := goodIn_app (goodIn_of _ (by decide +kernel)) ggX3_visit_X3_startHere
theorem dX3_visit_0 : decode cX3_visit 0 = .ok (.iload_n 1, 1) := by decide +kernel
theorem dX3_visit_1 : decode cX3_visit 1 = .ok (.ifCond .lt 14, 3) := by decide +kernel
theorem dX3_visit_4 : decode cX3_visit 4 = .ok (.iload_n 1, 1) := by decide +kernel
theorem dX3_visit_5 : decode cX3_visit 5 = .ok (.aload_n 0, 1) := by decide +kernel
theorem dX3_visit_6 : decode cX3_visit 6 = .ok (.getfield 12, 3) := by decide +kernel
theorem dX3_visit_9 : decode cX3_visit 9 = .ok (.getfield 99, 3) := by decide +kernel
theorem dX3_visit_12 : decode cX3_visit 12 = .ok (.if_icmp .lt 4, 3) := by decide +kernel
theorem dX3_visit_15 : decode cX3_visit 15 = .ok (.return_, 1) := by decide +kernel
theorem dX3_visit_16 : decode cX3_visit 16 = .ok (.aload_n 0, 1) := by decide +kernel
theorem dX3_visit_17 : decode cX3_visit 17 = .ok (.getfield 12, 3) := by decide +kernel
theorem dX3_visit_20 : decode cX3_visit 20 = .ok (.getfield 102, 3) := by decide +kernel
theorem dX3_visit_23 : decode cX3_visit 23 = .ok (.iload_n 1, 1) := by decide +kernel
theorem dX3_visit_24 : decode cX3_visit 24 = .ok (.iaload, 1) := by decide +kernel
theorem dX3_visit_25 : decode cX3_visit 25 = .ok (.istore_n 2, 1) := by decide +kernel
theorem dX3_visit_26 : decode cX3_visit 26 = .ok (.aload_n 0, 1) := by decide +kernel
theorem dX3_visit_27 : decode cX3_visit 27 = .ok (.iload_n 2, 1) := by decide +kernel
theorem dX3_visit_28 : decode cX3_visit 28 = .ok (.invokevirtual 105, 3) := by decide +kernel
theorem dX3_visit_31 : decode cX3_visit 31 = .ok (.ifCond .eq 4, 3) := by decide +kernel
theorem dX3_visit_34 : decode cX3_visit 34 = .ok (.return_, 1) := by decide +kernel
theorem dX3_visit_35 : decode cX3_visit 35 = .ok (.aload_n 0, 1) := by decide +kernel
theorem dX3_visit_36 : decode cX3_visit 36 = .ok (.iload_n 2, 1) := by decide +kernel
theorem dX3_visit_37 : decode cX3_visit 37 = .ok (.invokevirtual 96, 3) := by decide +kernel
theorem dX3_visit_40 : decode cX3_visit 40 = .ok (.aload_n 0, 1) := by decide +kernel
theorem dX3_visit_41 : decode cX3_visit 41 = .ok (.getfield 52, 3) := by decide +kernel
theorem dX3_visit_44 : decode cX3_visit 44 = .ok (.aload_n 0, 1) := by decide +kernel
theorem dX3_visit_45 : decode cX3_visit 45 = .ok (.getfield 12, 3) := by decide +kernel
theorem dX3_visit_48 : decode cX3_visit 48 = .ok (.getfield 109, 3) := by decide +kernel
theorem dX3_visit_51 : decode cX3_visit 51 = .ok (.iload_n 1, 1) := by decide +kernel
theorem dX3_visit_52 : decode cX3_visit 52 = .ok (.iaload, 1) := by decide +kernel
theorem dX3_visit_53 : decode cX3_visit 53 = .ok (.if_icmp .le 4, 3) := by decide +kernel
theorem dX3_visit_56 : decode cX3_visit 56 = .ok (.return_, 1) := by decide +kernel
theorem dX3_visit_57 : decode cX3_visit 57 = .ok (.aload_n 0, 1) := by decide +kernel
theorem dX3_visit_58 : decode cX3_visit 58 = .ok (.dup, 1) := by decide +kernel
theorem dX3_visit_59 : decode cX3_visit 59 = .ok (.getfield 55, 3) := by decide +kernel
theorem dX3_visit_62 : decode cX3_visit 62 = .ok (.iconst 1, 1) := by decide +kernel
theorem dX3_visit_63 : decode cX3_visit 63 = .ok (.iload_n 1, 1) := by decide +kernel
theorem dX3_visit_64 : decode cX3_visit 64 = .ok (.ishl, 1) := by decide +kernel
theorem dX3_visit_65 : decode cX3_visit 65 = .ok (.ior, 1) := by decide +kernel
theorem dX3_visit_66 : decode cX3_visit 66 = .ok (.putfield 55, 3) := by decide +kernel
theorem dX3_visit_69 : decode cX3_visit 69 = .ok (.aload_n 0, 1) := by decide +kernel
theorem dX3_visit_70 : decode cX3_visit 70 = .ok (.dup, 1) := by decide +kernel
theorem dX3_visit_71 : decode cX3_visit 71 = .ok (.getfield 65, 3) := by decide +kernel
theorem dX3_visit_74 : decode cX3_visit 74 = .ok (.aload_n 0, 1) := by decide +kernel
theorem dX3_visit_75 : decode cX3_visit 75 = .ok (.getfield 61, 3) := by decide +kernel
theorem dX3_visit_78 : decode cX3_visit 78 = .ok (.aload_n 0, 1) := by decide +kernel
theorem dX3_visit_79 : decode cX3_visit 79 = .ok (.getfield 12, 3) := by decide +kernel
theorem dX3_visit_82 : decode cX3_visit 82 = .ok (.getfield 112, 3) := by decide +kernel
theorem dX3_visit_85 : decode cX3_visit 85 = .ok (.iload_n 1, 1) := by decide +kernel
theorem dX3_visit_86 : decode cX3_visit 86 = .ok (.iaload, 1) := by decide +kernel
theorem dX3_visit_87 : decode cX3_visit 87 = .ok (.i2l, 1) := by decide +kernel
theorem dX3_visit_88 : decode cX3_visit 88 = .ok (.lmul, 1) := by decide +kernel
theorem dX3_visit_89 : decode cX3_visit 89 = .ok (.ladd, 1) := by decide +kernel
theorem dX3_visit_90 : decode cX3_visit 90 = .ok (.putfield 65, 3) := by decide +kernel
theorem dX3_visit_93 : decode cX3_visit 93 = .ok (.aload_n 0, 1) := by decide +kernel
theorem dX3_visit_94 : decode cX3_visit 94 = .ok (.dup, 1) := by decide +kernel
theorem dX3_visit_95 : decode cX3_visit 95 = .ok (.getfield 52, 3) := by decide +kernel
theorem dX3_visit_98 : decode cX3_visit 98 = .ok (.aload_n 0, 1) := by decide +kernel
theorem dX3_visit_99 : decode cX3_visit 99 = .ok (.getfield 12, 3) := by decide +kernel
theorem dX3_visit_102 : decode cX3_visit 102 = .ok (.getfield 115, 3) := by decide +kernel
theorem dX3_visit_105 : decode cX3_visit 105 = .ok (.iload_n 1, 1) := by decide +kernel
theorem dX3_visit_106 : decode cX3_visit 106 = .ok (.iaload, 1) := by decide +kernel
theorem dX3_visit_107 : decode cX3_visit 107 = .ok (.iadd, 1) := by decide +kernel
theorem dX3_visit_108 : decode cX3_visit 108 = .ok (.putfield 52, 3) := by decide +kernel
theorem dX3_visit_111 : decode cX3_visit 111 = .ok (.aload_n 0, 1) := by decide +kernel
theorem dX3_visit_112 : decode cX3_visit 112 = .ok (.iload_n 1, 1) := by decide +kernel
theorem dX3_visit_113 : decode cX3_visit 113 = .ok (.invokevirtual 118, 3) := by decide +kernel
theorem dX3_visit_116 : decode cX3_visit 116 = .ok (.ifCond .eq 50, 3) := by decide +kernel
theorem dX3_visit_119 : decode cX3_visit 119 = .ok (.aload_n 0, 1) := by decide +kernel
theorem dX3_visit_120 : decode cX3_visit 120 = .ok (.getfield 12, 3) := by decide +kernel
theorem dX3_visit_123 : decode cX3_visit 123 = .ok (.getfield 121, 3) := by decide +kernel
theorem dX3_visit_126 : decode cX3_visit 126 = .ok (.aload_n 0, 1) := by decide +kernel
theorem dX3_visit_127 : decode cX3_visit 127 = .ok (.getfield 12, 3) := by decide +kernel
theorem dX3_visit_130 : decode cX3_visit 130 = .ok (.getfield 115, 3) := by decide +kernel
theorem dX3_visit_133 : decode cX3_visit 133 = .ok (.iload_n 1, 1) := by decide +kernel
theorem dX3_visit_134 : decode cX3_visit 134 = .ok (.iaload, 1) := by decide +kernel
theorem dX3_visit_135 : decode cX3_visit 135 = .ok (.imul, 1) := by decide +kernel
theorem dX3_visit_136 : decode cX3_visit 136 = .ok (.istore_n 3, 1) := by decide +kernel
theorem dX3_visit_137 : decode cX3_visit 137 = .ok (.aload_n 0, 1) := by decide +kernel
theorem dX3_visit_138 : decode cX3_visit 138 = .ok (.dup, 1) := by decide +kernel
theorem dX3_visit_139 : decode cX3_visit 139 = .ok (.getfield 58, 3) := by decide +kernel
theorem dX3_visit_142 : decode cX3_visit 142 = .ok (.iload_n 3, 1) := by decide +kernel
theorem dX3_visit_143 : decode cX3_visit 143 = .ok (.iadd, 1) := by decide +kernel
theorem dX3_visit_144 : decode cX3_visit 144 = .ok (.putfield 58, 3) := by decide +kernel
theorem dX3_visit_147 : decode cX3_visit 147 = .ok (.aload_n 0, 1) := by decide +kernel
theorem dX3_visit_148 : decode cX3_visit 148 = .ok (.dup, 1) := by decide +kernel
theorem dX3_visit_149 : decode cX3_visit 149 = .ok (.getfield 65, 3) := by decide +kernel
theorem dX3_visit_152 : decode cX3_visit 152 = .ok (.aload_n 0, 1) := by decide +kernel
theorem dX3_visit_153 : decode cX3_visit 153 = .ok (.getfield 61, 3) := by decide +kernel
theorem dX3_visit_156 : decode cX3_visit 156 = .ok (.iload_n 3, 1) := by decide +kernel
theorem dX3_visit_157 : decode cX3_visit 157 = .ok (.i2l, 1) := by decide +kernel
theorem dX3_visit_158 : decode cX3_visit 158 = .ok (.lmul, 1) := by decide +kernel
theorem dX3_visit_159 : decode cX3_visit 159 = .ok (.lsub, 1) := by decide +kernel
theorem dX3_visit_160 : decode cX3_visit 160 = .ok (.putfield 65, 3) := by decide +kernel
theorem dX3_visit_163 : decode cX3_visit 163 = .ok (.goto 7, 3) := by decide +kernel
theorem dX3_visit_166 : decode cX3_visit 166 = .ok (.aload_n 0, 1) := by decide +kernel
theorem dX3_visit_167 : decode cX3_visit 167 = .ok (.invokevirtual 89, 3) := by decide +kernel
theorem dX3_visit_170 : decode cX3_visit 170 = .ok (.return_, 1) := by decide +kernel
set_option maxRecDepth 20000 in
theorem ggX3_leavesOut_X0_minutesOf : GoodIn wsX3_leavesOut wsX0_minutesOf := goodIn_r _ [9, 10, 11, 27, 28, 29, 30, 31] (by decide +kernel) (by decide +kernel)
set_option maxRecDepth 20000 in
theorem gX3_leavesOut_X0_minutesOf : GoodIn wsX3_leavesOut (wsV RX3 124 RX0 yX0_minutesOf wsX0_minutesOf) := goodIn_app (goodIn_of _ (by decide +kernel)) ggX3_leavesOut_X0_minutesOf
theorem dX3_leavesOut_0 : decode cX3_leavesOut 0 = .ok (.aload_n 0, 1) := by decide +kernel
theorem dX3_leavesOut_1 : decode cX3_leavesOut 1 = .ok (.getfield 46, 3) := by decide +kernel
theorem dX3_leavesOut_4 : decode cX3_leavesOut 4 = .ok (.iconst 4, 1) := by decide +kernel
theorem dX3_leavesOut_5 : decode cX3_leavesOut 5 = .ok (.if_icmp .eq 11, 3) := by decide +kernel
theorem dX3_leavesOut_8 : decode cX3_leavesOut 8 = .ok (.aload_n 0, 1) := by decide +kernel
theorem dX3_leavesOut_9 : decode cX3_leavesOut 9 = .ok (.getfield 46, 3) := by decide +kernel
theorem dX3_leavesOut_12 : decode cX3_leavesOut 12 = .ok (.iconst 5, 1) := by decide +kernel
theorem dX3_leavesOut_13 : decode cX3_leavesOut 13 = .ok (.if_icmp .ne 18, 3) := by decide +kernel
theorem dX3_leavesOut_16 : decode cX3_leavesOut 16 = .ok (.aload_n 0, 1) := by decide +kernel
theorem dX3_leavesOut_17 : decode cX3_leavesOut 17 = .ok (.getfield 25, 3) := by decide +kernel
theorem dX3_leavesOut_20 : decode cX3_leavesOut 20 = .ok (.iload_n 1, 1) := by decide +kernel
theorem dX3_leavesOut_21 : decode cX3_leavesOut 21 = .ok (.iaload, 1) := by decide +kernel
theorem dX3_leavesOut_22 : decode cX3_leavesOut 22 = .ok (.bipush 10, 2) := by decide +kernel
theorem dX3_leavesOut_24 : decode cX3_leavesOut 24 = .ok (.if_icmp .ge 7, 3) := by decide +kernel
theorem dX3_leavesOut_27 : decode cX3_leavesOut 27 = .ok (.iconst 1, 1) := by decide +kernel
theorem dX3_leavesOut_28 : decode cX3_leavesOut 28 = .ok (.goto 4, 3) := by decide +kernel
theorem dX3_leavesOut_31 : decode cX3_leavesOut 31 = .ok (.iconst 0, 1) := by decide +kernel
theorem dX3_leavesOut_32 : decode cX3_leavesOut 32 = .ok (.istore_n 2, 1) := by decide +kernel
theorem dX3_leavesOut_33 : decode cX3_leavesOut 33 = .ok (.iload_n 2, 1) := by decide +kernel
theorem dX3_leavesOut_34 : decode cX3_leavesOut 34 = .ok (.ifCond .ne 31, 3) := by decide +kernel
theorem dX3_leavesOut_37 : decode cX3_leavesOut 37 = .ok (.aload_n 0, 1) := by decide +kernel
theorem dX3_leavesOut_38 : decode cX3_leavesOut 38 = .ok (.getfield 21, 3) := by decide +kernel
theorem dX3_leavesOut_41 : decode cX3_leavesOut 41 = .ok (.aload_n 0, 1) := by decide +kernel
theorem dX3_leavesOut_42 : decode cX3_leavesOut 42 = .ok (.getfield 43, 3) := by decide +kernel
theorem dX3_leavesOut_45 : decode cX3_leavesOut 45 = .ok (.iload_n 1, 1) := by decide +kernel
theorem dX3_leavesOut_46 : decode cX3_leavesOut 46 = .ok (.aload_n 0, 1) := by decide +kernel
theorem dX3_leavesOut_47 : decode cX3_leavesOut 47 = .ok (.getfield 46, 3) := by decide +kernel
theorem dX3_leavesOut_50 : decode cX3_leavesOut 50 = .ok (.iconst 5, 1) := by decide +kernel
theorem dX3_leavesOut_51 : decode cX3_leavesOut 51 = .ok (.if_icmp .ne 7, 3) := by decide +kernel
theorem dX3_leavesOut_54 : decode cX3_leavesOut 54 = .ok (.iconst 1, 1) := by decide +kernel
theorem dX3_leavesOut_55 : decode cX3_leavesOut 55 = .ok (.goto 4, 3) := by decide +kernel
theorem dX3_leavesOut_58 : decode cX3_leavesOut 58 = .ok (.iconst 0, 1) := by decide +kernel
theorem dX3_leavesOut_59 : decode cX3_leavesOut 59 = .ok (.invokevirtual 124, 3) := by decide +kernel
theorem dX3_leavesOut_62 : decode cX3_leavesOut 62 = .ok (.ifCond .ge 7, 3) := by decide +kernel
theorem dX3_leavesOut_65 : decode cX3_leavesOut 65 = .ok (.iconst 1, 1) := by decide +kernel
theorem dX3_leavesOut_66 : decode cX3_leavesOut 66 = .ok (.goto 4, 3) := by decide +kernel
theorem dX3_leavesOut_69 : decode cX3_leavesOut 69 = .ok (.iconst 0, 1) := by decide +kernel
theorem dX3_leavesOut_70 : decode cX3_leavesOut 70 = .ok (.ireturn, 1) := by decide +kernel
theorem dX3_runsOn_0 : decode cX3_runsOn 0 = .ok (.aload_n 0, 1) := by decide +kernel
theorem dX3_runsOn_1 : decode cX3_runsOn 1 = .ok (.getfield 12, 3) := by decide +kernel
theorem dX3_runsOn_4 : decode cX3_runsOn 4 = .ok (.getfield 115, 3) := by decide +kernel
theorem dX3_runsOn_7 : decode cX3_runsOn 7 = .ok (.iload_n 1, 1) := by decide +kernel
theorem dX3_runsOn_8 : decode cX3_runsOn 8 = .ok (.iaload, 1) := by decide +kernel
theorem dX3_runsOn_9 : decode cX3_runsOn 9 = .ok (.aload_n 0, 1) := by decide +kernel
theorem dX3_runsOn_10 : decode cX3_runsOn 10 = .ok (.getfield 49, 3) := by decide +kernel
theorem dX3_runsOn_13 : decode cX3_runsOn 13 = .ok (.if_icmp .le 5, 3) := by decide +kernel
theorem dX3_runsOn_16 : decode cX3_runsOn 16 = .ok (.iconst 0, 1) := by decide +kernel
theorem dX3_runsOn_17 : decode cX3_runsOn 17 = .ok (.ireturn, 1) := by decide +kernel
theorem dX3_runsOn_18 : decode cX3_runsOn 18 = .ok (.aload_n 0, 1) := by decide +kernel
theorem dX3_runsOn_19 : decode cX3_runsOn 19 = .ok (.getfield 46, 3) := by decide +kernel
theorem dX3_runsOn_22 : decode cX3_runsOn 22 = .ok (.iconst 1, 1) := by decide +kernel
theorem dX3_runsOn_23 : decode cX3_runsOn 23 = .ok (.if_icmp .eq 25, 3) := by decide +kernel
theorem dX3_runsOn_26 : decode cX3_runsOn 26 = .ok (.aload_n 0, 1) := by decide +kernel
theorem dX3_runsOn_27 : decode cX3_runsOn 27 = .ok (.getfield 46, 3) := by decide +kernel
theorem dX3_runsOn_30 : decode cX3_runsOn 30 = .ok (.iconst 2, 1) := by decide +kernel
theorem dX3_runsOn_31 : decode cX3_runsOn 31 = .ok (.if_icmp .ne 21, 3) := by decide +kernel
theorem dX3_runsOn_34 : decode cX3_runsOn 34 = .ok (.aload_n 0, 1) := by decide +kernel
theorem dX3_runsOn_35 : decode cX3_runsOn 35 = .ok (.getfield 25, 3) := by decide +kernel
theorem dX3_runsOn_38 : decode cX3_runsOn 38 = .ok (.aload_n 0, 1) := by decide +kernel
theorem dX3_runsOn_39 : decode cX3_runsOn 39 = .ok (.getfield 43, 3) := by decide +kernel
theorem dX3_runsOn_42 : decode cX3_runsOn 42 = .ok (.iaload, 1) := by decide +kernel
theorem dX3_runsOn_43 : decode cX3_runsOn 43 = .ok (.bipush 10, 2) := by decide +kernel
theorem dX3_runsOn_45 : decode cX3_runsOn 45 = .ok (.if_icmp .ge 7, 3) := by decide +kernel
theorem dX3_runsOn_48 : decode cX3_runsOn 48 = .ok (.iconst 1, 1) := by decide +kernel
theorem dX3_runsOn_49 : decode cX3_runsOn 49 = .ok (.goto 4, 3) := by decide +kernel
theorem dX3_runsOn_52 : decode cX3_runsOn 52 = .ok (.iconst 0, 1) := by decide +kernel
theorem dX3_runsOn_53 : decode cX3_runsOn 53 = .ok (.ireturn, 1) := by decide +kernel
set_option maxRecDepth 20000 in
theorem ggX3_startHere_X3_noteChance : GoodIn wsX3_startHere wsX3_noteChance := goodIn_r _ [11, 12, 13, 14, 15, 16, 17, 18, 19, 20, 21, 22, 23, 24, 25, 26, 27, 28, 29] (by decide +kernel) (by decide +kernel)
set_option maxRecDepth 20000 in
theorem gX3_startHere_X3_noteChance : GoodIn wsX3_startHere (wsV RX3 130 RX3 yX3_noteChance wsX3_noteChance) := goodIn_app (goodIn_of _ (by decide +kernel)) ggX3_startHere_X3_noteChance
theorem dX3_startHere_0 : decode cX3_startHere 0 = .ok (.aload_n 0, 1) := by decide +kernel
theorem dX3_startHere_1 : decode cX3_startHere 1 = .ok (.getfield 46, 3) := by decide +kernel
theorem dX3_startHere_4 : decode cX3_startHere 4 = .ok (.iconst 3, 1) := by decide +kernel
theorem dX3_startHere_5 : decode cX3_startHere 5 = .ok (.if_icmp .ne 15, 3) := by decide +kernel
theorem dX3_startHere_8 : decode cX3_startHere 8 = .ok (.aload_n 0, 1) := by decide +kernel
theorem dX3_startHere_9 : decode cX3_startHere 9 = .ok (.getfield 29, 3) := by decide +kernel
theorem dX3_startHere_12 : decode cX3_startHere 12 = .ok (.aload_n 0, 1) := by decide +kernel
theorem dX3_startHere_13 : decode cX3_startHere 13 = .ok (.getfield 43, 3) := by decide +kernel
theorem dX3_startHere_16 : decode cX3_startHere 16 = .ok (.iaload, 1) := by decide +kernel
theorem dX3_startHere_17 : decode cX3_startHere 17 = .ok (.goto 12, 3) := by decide +kernel
theorem dX3_startHere_20 : decode cX3_startHere 20 = .ok (.aload_n 0, 1) := by decide +kernel
theorem dX3_startHere_21 : decode cX3_startHere 21 = .ok (.getfield 25, 3) := by decide +kernel
theorem dX3_startHere_24 : decode cX3_startHere 24 = .ok (.aload_n 0, 1) := by decide +kernel
theorem dX3_startHere_25 : decode cX3_startHere 25 = .ok (.getfield 43, 3) := by decide +kernel
theorem dX3_startHere_28 : decode cX3_startHere 28 = .ok (.iaload, 1) := by decide +kernel
theorem dX3_startHere_29 : decode cX3_startHere 29 = .ok (.istore_n 1, 1) := by decide +kernel
theorem dX3_startHere_30 : decode cX3_startHere 30 = .ok (.aload_n 0, 1) := by decide +kernel
theorem dX3_startHere_31 : decode cX3_startHere 31 = .ok (.aload_n 0, 1) := by decide +kernel
theorem dX3_startHere_32 : decode cX3_startHere 32 = .ok (.getfield 61, 3) := by decide +kernel
theorem dX3_startHere_35 : decode cX3_startHere 35 = .ok (.ldc2_w 128, 3) := by decide +kernel
theorem dX3_startHere_38 : decode cX3_startHere 38 = .ok (.ldiv, 1) := by decide +kernel
theorem dX3_startHere_39 : decode cX3_startHere 39 = .ok (.iload_n 1, 1) := by decide +kernel
theorem dX3_startHere_40 : decode cX3_startHere 40 = .ok (.i2l, 1) := by decide +kernel
theorem dX3_startHere_41 : decode cX3_startHere 41 = .ok (.lmul, 1) := by decide +kernel
theorem dX3_startHere_42 : decode cX3_startHere 42 = .ok (.putfield 61, 3) := by decide +kernel
theorem dX3_startHere_45 : decode cX3_startHere 45 = .ok (.aload_n 0, 1) := by decide +kernel
theorem dX3_startHere_46 : decode cX3_startHere 46 = .ok (.iload_n 1, 1) := by decide +kernel
theorem dX3_startHere_47 : decode cX3_startHere 47 = .ok (.iconst 0, 1) := by decide +kernel
theorem dX3_startHere_48 : decode cX3_startHere 48 = .ok (.invokevirtual 130, 3) := by decide +kernel
theorem dX3_startHere_51 : decode cX3_startHere 51 = .ok (.return_, 1) := by decide +kernel
set_option maxRecDepth 20000 in
theorem ggX3_driveTo_X0_stallsOf : GoodIn wsX3_driveTo wsX0_stallsOf := goodIn_r _ [11, 12, 13, 43, 44, 45, 46, 47] (by decide +kernel) (by decide +kernel)
set_option maxRecDepth 20000 in
theorem gX3_driveTo_X0_stallsOf : GoodIn wsX3_driveTo (wsV RX3 134 RX0 yX0_stallsOf wsX0_stallsOf) := goodIn_app (goodIn_of _ (by decide +kernel)) ggX3_driveTo_X0_stallsOf
set_option maxRecDepth 20000 in
theorem ggX3_driveTo_X0_minutesOf : GoodIn wsX3_driveTo wsX0_minutesOf := goodIn_r _ [17, 18, 19, 43, 44, 45, 46, 47] (by decide +kernel) (by decide +kernel)
set_option maxRecDepth 20000 in
theorem gX3_driveTo_X0_minutesOf : GoodIn wsX3_driveTo (wsV RX3 124 RX0 yX0_minutesOf wsX0_minutesOf) := goodIn_app (goodIn_of _ (by decide +kernel)) ggX3_driveTo_X0_minutesOf
set_option maxRecDepth 20000 in
theorem ggX3_driveTo_X3_noteChance : GoodIn wsX3_driveTo wsX3_noteChance := goodIn_r _ [24, 25, 26, 27, 28, 29, 30, 31, 32, 33, 34, 35, 36, 37, 38, 39, 40, 41, 42] (by decide +kernel) (by decide +kernel)
set_option maxRecDepth 20000 in
theorem gX3_driveTo_X3_noteChance : GoodIn wsX3_driveTo (wsV RX3 130 RX3 yX3_noteChance wsX3_noteChance) := goodIn_app (goodIn_of _ (by decide +kernel)) ggX3_driveTo_X3_noteChance
theorem dX3_driveTo_0 : decode cX3_driveTo 0 = .ok (.aload_n 0, 1) := by decide +kernel
theorem dX3_driveTo_1 : decode cX3_driveTo 1 = .ok (.getfield 46, 3) := by decide +kernel
theorem dX3_driveTo_4 : decode cX3_driveTo 4 = .ok (.iconst 5, 1) := by decide +kernel
theorem dX3_driveTo_5 : decode cX3_driveTo 5 = .ok (.if_icmp .ne 7, 3) := by decide +kernel
theorem dX3_driveTo_8 : decode cX3_driveTo 8 = .ok (.iconst 1, 1) := by decide +kernel
theorem dX3_driveTo_9 : decode cX3_driveTo 9 = .ok (.goto 4, 3) := by decide +kernel
theorem dX3_driveTo_12 : decode cX3_driveTo 12 = .ok (.iconst 0, 1) := by decide +kernel
theorem dX3_driveTo_13 : decode cX3_driveTo 13 = .ok (.istore_n 2, 1) := by decide +kernel
theorem dX3_driveTo_14 : decode cX3_driveTo 14 = .ok (.aload_n 0, 1) := by decide +kernel
theorem dX3_driveTo_15 : decode cX3_driveTo 15 = .ok (.getfield 21, 3) := by decide +kernel
theorem dX3_driveTo_18 : decode cX3_driveTo 18 = .ok (.aload_n 0, 1) := by decide +kernel
theorem dX3_driveTo_19 : decode cX3_driveTo 19 = .ok (.getfield 43, 3) := by decide +kernel
theorem dX3_driveTo_22 : decode cX3_driveTo 22 = .ok (.iload_n 1, 1) := by decide +kernel
theorem dX3_driveTo_23 : decode cX3_driveTo 23 = .ok (.iload_n 2, 1) := by decide +kernel
theorem dX3_driveTo_24 : decode cX3_driveTo 24 = .ok (.invokevirtual 134, 3) := by decide +kernel
theorem dX3_driveTo_27 : decode cX3_driveTo 27 = .ok (.istore_n 3, 1) := by decide +kernel
theorem dX3_driveTo_28 : decode cX3_driveTo 28 = .ok (.aload_n 0, 1) := by decide +kernel
theorem dX3_driveTo_29 : decode cX3_driveTo 29 = .ok (.dup, 1) := by decide +kernel
theorem dX3_driveTo_30 : decode cX3_driveTo 30 = .ok (.getfield 52, 3) := by decide +kernel
theorem dX3_driveTo_33 : decode cX3_driveTo 33 = .ok (.aload_n 0, 1) := by decide +kernel
theorem dX3_driveTo_34 : decode cX3_driveTo 34 = .ok (.getfield 21, 3) := by decide +kernel
theorem dX3_driveTo_37 : decode cX3_driveTo 37 = .ok (.aload_n 0, 1) := by decide +kernel
theorem dX3_driveTo_38 : decode cX3_driveTo 38 = .ok (.getfield 43, 3) := by decide +kernel
theorem dX3_driveTo_41 : decode cX3_driveTo 41 = .ok (.iload_n 1, 1) := by decide +kernel
theorem dX3_driveTo_42 : decode cX3_driveTo 42 = .ok (.iload_n 2, 1) := by decide +kernel
theorem dX3_driveTo_43 : decode cX3_driveTo 43 = .ok (.invokevirtual 124, 3) := by decide +kernel
theorem dX3_driveTo_46 : decode cX3_driveTo 46 = .ok (.iadd, 1) := by decide +kernel
theorem dX3_driveTo_47 : decode cX3_driveTo 47 = .ok (.putfield 52, 3) := by decide +kernel
theorem dX3_driveTo_50 : decode cX3_driveTo 50 = .ok (.aload_n 0, 1) := by decide +kernel
theorem dX3_driveTo_51 : decode cX3_driveTo 51 = .ok (.iload_n 1, 1) := by decide +kernel
theorem dX3_driveTo_52 : decode cX3_driveTo 52 = .ok (.putfield 43, 3) := by decide +kernel
theorem dX3_driveTo_55 : decode cX3_driveTo 55 = .ok (.aload_n 0, 1) := by decide +kernel
theorem dX3_driveTo_56 : decode cX3_driveTo 56 = .ok (.aload_n 0, 1) := by decide +kernel
theorem dX3_driveTo_57 : decode cX3_driveTo 57 = .ok (.getfield 61, 3) := by decide +kernel
theorem dX3_driveTo_60 : decode cX3_driveTo 60 = .ok (.ldc2_w 128, 3) := by decide +kernel
theorem dX3_driveTo_63 : decode cX3_driveTo 63 = .ok (.ldiv, 1) := by decide +kernel
theorem dX3_driveTo_64 : decode cX3_driveTo 64 = .ok (.bipush 10, 2) := by decide +kernel
theorem dX3_driveTo_66 : decode cX3_driveTo 66 = .ok (.iload_n 3, 1) := by decide +kernel
theorem dX3_driveTo_67 : decode cX3_driveTo 67 = .ok (.isub, 1) := by decide +kernel
theorem dX3_driveTo_68 : decode cX3_driveTo 68 = .ok (.i2l, 1) := by decide +kernel
theorem dX3_driveTo_69 : decode cX3_driveTo 69 = .ok (.lmul, 1) := by decide +kernel
theorem dX3_driveTo_70 : decode cX3_driveTo 70 = .ok (.putfield 61, 3) := by decide +kernel
theorem dX3_driveTo_73 : decode cX3_driveTo 73 = .ok (.aload_n 0, 1) := by decide +kernel
theorem dX3_driveTo_74 : decode cX3_driveTo 74 = .ok (.iload_n 3, 1) := by decide +kernel
theorem dX3_driveTo_75 : decode cX3_driveTo 75 = .ok (.iconst 1, 1) := by decide +kernel
theorem dX3_driveTo_76 : decode cX3_driveTo 76 = .ok (.invokevirtual 130, 3) := by decide +kernel
theorem dX3_driveTo_79 : decode cX3_driveTo 79 = .ok (.return_, 1) := by decide +kernel
theorem dX3_noteChance_0 : decode cX3_noteChance 0 = .ok (.aload_n 0, 1) := by decide +kernel
theorem dX3_noteChance_1 : decode cX3_noteChance 1 = .ok (.getfield 39, 3) := by decide +kernel
theorem dX3_noteChance_4 : decode cX3_noteChance 4 = .ok (.bipush 12, 2) := by decide +kernel
theorem dX3_noteChance_6 : decode cX3_noteChance 6 = .ok (.if_icmp .ge 33, 3) := by decide +kernel
theorem dX3_noteChance_9 : decode cX3_noteChance 9 = .ok (.aload_n 0, 1) := by decide +kernel
theorem dX3_noteChance_10 : decode cX3_noteChance 10 = .ok (.getfield 32, 3) := by decide +kernel
theorem dX3_noteChance_13 : decode cX3_noteChance 13 = .ok (.aload_n 0, 1) := by decide +kernel
theorem dX3_noteChance_14 : decode cX3_noteChance 14 = .ok (.getfield 39, 3) := by decide +kernel
theorem dX3_noteChance_17 : decode cX3_noteChance 17 = .ok (.iload_n 1, 1) := by decide +kernel
theorem dX3_noteChance_18 : decode cX3_noteChance 18 = .ok (.iastore, 1) := by decide +kernel
theorem dX3_noteChance_19 : decode cX3_noteChance 19 = .ok (.aload_n 0, 1) := by decide +kernel
theorem dX3_noteChance_20 : decode cX3_noteChance 20 = .ok (.getfield 35, 3) := by decide +kernel
theorem dX3_noteChance_23 : decode cX3_noteChance 23 = .ok (.aload_n 0, 1) := by decide +kernel
theorem dX3_noteChance_24 : decode cX3_noteChance 24 = .ok (.getfield 39, 3) := by decide +kernel
theorem dX3_noteChance_27 : decode cX3_noteChance 27 = .ok (.iload_n 2, 1) := by decide +kernel
theorem dX3_noteChance_28 : decode cX3_noteChance 28 = .ok (.bastore, 1) := by decide +kernel
theorem dX3_noteChance_29 : decode cX3_noteChance 29 = .ok (.aload_n 0, 1) := by decide +kernel
theorem dX3_noteChance_30 : decode cX3_noteChance 30 = .ok (.dup, 1) := by decide +kernel
theorem dX3_noteChance_31 : decode cX3_noteChance 31 = .ok (.getfield 39, 3) := by decide +kernel
theorem dX3_noteChance_34 : decode cX3_noteChance 34 = .ok (.iconst 1, 1) := by decide +kernel
theorem dX3_noteChance_35 : decode cX3_noteChance 35 = .ok (.iadd, 1) := by decide +kernel
theorem dX3_noteChance_36 : decode cX3_noteChance 36 = .ok (.putfield 39, 3) := by decide +kernel
theorem dX3_noteChance_39 : decode cX3_noteChance 39 = .ok (.return_, 1) := by decide +kernel
theorem dX3_timesHome_0 : decode cX3_timesHome 0 = .ok (.iload_n 2, 1) := by decide +kernel
theorem dX3_timesHome_1 : decode cX3_timesHome 1 = .ok (.istore_n 3, 1) := by decide +kernel
theorem dX3_timesHome_2 : decode cX3_timesHome 2 = .ok (.iconst 0, 1) := by decide +kernel
theorem dX3_timesHome_3 : decode cX3_timesHome 3 = .ok (.istore 4, 2) := by decide +kernel
theorem dX3_timesHome_5 : decode cX3_timesHome 5 = .ok (.iconst 0, 1) := by decide +kernel
theorem dX3_timesHome_6 : decode cX3_timesHome 6 = .ok (.istore 5, 2) := by decide +kernel
theorem dX3_timesHome_8 : decode cX3_timesHome 8 = .ok (.iload 5, 2) := by decide +kernel
theorem dX3_timesHome_10 : decode cX3_timesHome 10 = .ok (.iload_n 1, 1) := by decide +kernel
theorem dX3_timesHome_11 : decode cX3_timesHome 11 = .ok (.if_icmp .ge 128, 3) := by decide +kernel
theorem dX3_timesHome_14 : decode cX3_timesHome 14 = .ok (.iconst 1, 1) := by decide +kernel
theorem dX3_timesHome_15 : decode cX3_timesHome 15 = .ok (.istore 6, 2) := by decide +kernel
theorem dX3_timesHome_17 : decode cX3_timesHome 17 = .ok (.iconst 0, 1) := by decide +kernel
theorem dX3_timesHome_18 : decode cX3_timesHome 18 = .ok (.istore 7, 2) := by decide +kernel
theorem dX3_timesHome_20 : decode cX3_timesHome 20 = .ok (.iload 7, 2) := by decide +kernel
theorem dX3_timesHome_22 : decode cX3_timesHome 22 = .ok (.aload_n 0, 1) := by decide +kernel
theorem dX3_timesHome_23 : decode cX3_timesHome 23 = .ok (.getfield 39, 3) := by decide +kernel
theorem dX3_timesHome_26 : decode cX3_timesHome 26 = .ok (.if_icmp .ge 99, 3) := by decide +kernel
theorem dX3_timesHome_29 : decode cX3_timesHome 29 = .ok (.iload 6, 2) := by decide +kernel
theorem dX3_timesHome_31 : decode cX3_timesHome 31 = .ok (.ifCond .eq 94, 3) := by decide +kernel
theorem dX3_timesHome_34 : decode cX3_timesHome 34 = .ok (.aload_n 0, 1) := by decide +kernel
theorem dX3_timesHome_35 : decode cX3_timesHome 35 = .ok (.getfield 32, 3) := by decide +kernel
theorem dX3_timesHome_38 : decode cX3_timesHome 38 = .ok (.iload 7, 2) := by decide +kernel
theorem dX3_timesHome_40 : decode cX3_timesHome 40 = .ok (.iaload, 1) := by decide +kernel
theorem dX3_timesHome_41 : decode cX3_timesHome 41 = .ok (.istore 8, 2) := by decide +kernel
theorem dX3_timesHome_43 : decode cX3_timesHome 43 = .ok (.iload 8, 2) := by decide +kernel
theorem dX3_timesHome_45 : decode cX3_timesHome 45 = .ok (.bipush 10, 2) := by decide +kernel
theorem dX3_timesHome_47 : decode cX3_timesHome 47 = .ok (.if_icmp .lt 7, 3) := by decide +kernel
theorem dX3_timesHome_50 : decode cX3_timesHome 50 = .ok (.iconst 1, 1) := by decide +kernel
theorem dX3_timesHome_51 : decode cX3_timesHome 51 = .ok (.goto 4, 3) := by decide +kernel
theorem dX3_timesHome_54 : decode cX3_timesHome 54 = .ok (.iconst 0, 1) := by decide +kernel
theorem dX3_timesHome_55 : decode cX3_timesHome 55 = .ok (.istore 9, 2) := by decide +kernel
theorem dX3_timesHome_57 : decode cX3_timesHome 57 = .ok (.iload 8, 2) := by decide +kernel
theorem dX3_timesHome_59 : decode cX3_timesHome 59 = .ok (.ifCond .le 41, 3) := by decide +kernel
theorem dX3_timesHome_62 : decode cX3_timesHome 62 = .ok (.iload 8, 2) := by decide +kernel
theorem dX3_timesHome_64 : decode cX3_timesHome 64 = .ok (.bipush 10, 2) := by decide +kernel
theorem dX3_timesHome_66 : decode cX3_timesHome 66 = .ok (.if_icmp .ge 34, 3) := by decide +kernel
theorem dX3_timesHome_69 : decode cX3_timesHome 69 = .ok (.iload_n 3, 1) := by decide +kernel
theorem dX3_timesHome_70 : decode cX3_timesHome 70 = .ok (.ldc 137, 2) := by decide +kernel
theorem dX3_timesHome_72 : decode cX3_timesHome 72 = .ok (.imul, 1) := by decide +kernel
theorem dX3_timesHome_73 : decode cX3_timesHome 73 = .ok (.ldc 138, 2) := by decide +kernel
theorem dX3_timesHome_75 : decode cX3_timesHome 75 = .ok (.iadd, 1) := by decide +kernel
theorem dX3_timesHome_76 : decode cX3_timesHome 76 = .ok (.istore_n 3, 1) := by decide +kernel
theorem dX3_timesHome_77 : decode cX3_timesHome 77 = .ok (.iload_n 3, 1) := by decide +kernel
theorem dX3_timesHome_78 : decode cX3_timesHome 78 = .ok (.ldc 139, 2) := by decide +kernel
theorem dX3_timesHome_80 : decode cX3_timesHome 80 = .ok (.iand, 1) := by decide +kernel
theorem dX3_timesHome_81 : decode cX3_timesHome 81 = .ok (.sipush 256, 3) := by decide +kernel
theorem dX3_timesHome_84 : decode cX3_timesHome 84 = .ok (.idiv, 1) := by decide +kernel
theorem dX3_timesHome_85 : decode cX3_timesHome 85 = .ok (.bipush 10, 2) := by decide +kernel
theorem dX3_timesHome_87 : decode cX3_timesHome 87 = .ok (.irem, 1) := by decide +kernel
theorem dX3_timesHome_88 : decode cX3_timesHome 88 = .ok (.iload 8, 2) := by decide +kernel
theorem dX3_timesHome_90 : decode cX3_timesHome 90 = .ok (.if_icmp .ge 7, 3) := by decide +kernel
theorem dX3_timesHome_93 : decode cX3_timesHome 93 = .ok (.iconst 1, 1) := by decide +kernel
theorem dX3_timesHome_94 : decode cX3_timesHome 94 = .ok (.goto 4, 3) := by decide +kernel
theorem dX3_timesHome_97 : decode cX3_timesHome 97 = .ok (.iconst 0, 1) := by decide +kernel
theorem dX3_timesHome_98 : decode cX3_timesHome 98 = .ok (.istore 9, 2) := by decide +kernel
theorem dX3_timesHome_100 : decode cX3_timesHome 100 = .ok (.iload 9, 2) := by decide +kernel
theorem dX3_timesHome_102 : decode cX3_timesHome 102 = .ok (.aload_n 0, 1) := by decide +kernel
theorem dX3_timesHome_103 : decode cX3_timesHome 103 = .ok (.getfield 35, 3) := by decide +kernel
theorem dX3_timesHome_106 : decode cX3_timesHome 106 = .ok (.iload 7, 2) := by decide +kernel
theorem dX3_timesHome_108 : decode cX3_timesHome 108 = .ok (.baload, 1) := by decide +kernel
theorem dX3_timesHome_109 : decode cX3_timesHome 109 = .ok (.if_icmp .eq 7, 3) := by decide +kernel
theorem dX3_timesHome_112 : decode cX3_timesHome 112 = .ok (.iconst 1, 1) := by decide +kernel
theorem dX3_timesHome_113 : decode cX3_timesHome 113 = .ok (.goto 4, 3) := by decide +kernel
theorem dX3_timesHome_116 : decode cX3_timesHome 116 = .ok (.iconst 0, 1) := by decide +kernel
theorem dX3_timesHome_117 : decode cX3_timesHome 117 = .ok (.istore 6, 2) := by decide +kernel
theorem dX3_timesHome_119 : decode cX3_timesHome 119 = .ok (.iinc 7 1, 3) := by decide +kernel
theorem dX3_timesHome_122 : decode cX3_timesHome 122 = .ok (.goto (-102), 3) := by decide +kernel
theorem dX3_timesHome_125 : decode cX3_timesHome 125 = .ok (.iload 6, 2) := by decide +kernel
theorem dX3_timesHome_127 : decode cX3_timesHome 127 = .ok (.ifCond .eq 6, 3) := by decide +kernel
theorem dX3_timesHome_130 : decode cX3_timesHome 130 = .ok (.iinc 4 1, 3) := by decide +kernel
theorem dX3_timesHome_133 : decode cX3_timesHome 133 = .ok (.iinc 5 1, 3) := by decide +kernel
theorem dX3_timesHome_136 : decode cX3_timesHome 136 = .ok (.goto (-128), 3) := by decide +kernel
theorem dX3_timesHome_139 : decode cX3_timesHome 139 = .ok (.iload 4, 2) := by decide +kernel
theorem dX3_timesHome_141 : decode cX3_timesHome 141 = .ok (.ireturn, 1) := by decide +kernel
